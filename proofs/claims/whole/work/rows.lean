section
-- ===== PART A: goes FIRST, ahead of the names: the tables' words, and 'selects' of the private methods out of them =====
/-- a private method of a class that the tables say can be made, by its rows of tables_1 -/
def lw_okq (q : MethodName × Nat) : Prop := (q.1.cls ≠ "java/lang/invoke/MethodHandle" ∧ q.1.cls ≠ "java/lang/invoke/VarHandle") ∧ Cond.instantiable q.1.cls q.2 ∈ tables_1 ∧ Cond.privateMethod q.1 ∈ tables_1 ∧ Cond.instanceMethod q.1 ∈ tables_1
theorem lw_p0 : lw_okq (⟨"SpeechMarks", "outdate", "()V"⟩, 8) := ⟨⟨by decide +kernel, by decide +kernel⟩, List.mem_of_getElem? (i := 15) (by decide +kernel), List.mem_of_getElem? (i := 355) (by decide +kernel), List.mem_of_getElem? (i := 356) (by decide +kernel)⟩
theorem lw_p1 : lw_okq (⟨"SpeechMarks", "tongueNamed", "()I"⟩, 8) := ⟨⟨by decide +kernel, by decide +kernel⟩, List.mem_of_getElem? (i := 15) (by decide +kernel), List.mem_of_getElem? (i := 363) (by decide +kernel), List.mem_of_getElem? (i := 364) (by decide +kernel)⟩
theorem lw_p2 : lw_okq (⟨"SpeechMarks", "textIs", "(Ljava/lang/String;)Z"⟩, 8) := ⟨⟨by decide +kernel, by decide +kernel⟩, List.mem_of_getElem? (i := 15) (by decide +kernel), List.mem_of_getElem? (i := 374) (by decide +kernel), List.mem_of_getElem? (i := 375) (by decide +kernel)⟩
theorem lw_p3 : lw_okq (⟨"SpeechMarks", "beginChange", "()V"⟩, 8) := ⟨⟨by decide +kernel, by decide +kernel⟩, List.mem_of_getElem? (i := 15) (by decide +kernel), List.mem_of_getElem? (i := 378) (by decide +kernel), List.mem_of_getElem? (i := 379) (by decide +kernel)⟩
theorem lw_p4 : lw_okq (⟨"SpeechMarks$History", "slot", "(I)LSpeechMarks$Speech;"⟩, 3) := ⟨⟨by decide +kernel, by decide +kernel⟩, List.mem_of_getElem? (i := 77) (by decide +kernel), List.mem_of_getElem? (i := 386) (by decide +kernel), List.mem_of_getElem? (i := 387) (by decide +kernel)⟩
theorem lw_p5 : lw_okq (⟨"SpeechMarks", "freshReading", "()LSpeechMarks$Reading;"⟩, 8) := ⟨⟨by decide +kernel, by decide +kernel⟩, List.mem_of_getElem? (i := 15) (by decide +kernel), List.mem_of_getElem? (i := 446) (by decide +kernel), List.mem_of_getElem? (i := 447) (by decide +kernel)⟩
theorem lw_p6 : lw_okq (⟨"SpeechMarks$Grammar", "learnFreeState", "(I)V"⟩, 4) := ⟨⟨by decide +kernel, by decide +kernel⟩, List.mem_of_getElem? (i := 103) (by decide +kernel), List.mem_of_getElem? (i := 458) (by decide +kernel), List.mem_of_getElem? (i := 459) (by decide +kernel)⟩
theorem lw_p7 : lw_okq (⟨"SpeechMarks$Grammar", "offer", "(IIII)V"⟩, 4) := ⟨⟨by decide +kernel, by decide +kernel⟩, List.mem_of_getElem? (i := 103) (by decide +kernel), List.mem_of_getElem? (i := 473) (by decide +kernel), List.mem_of_getElem? (i := 474) (by decide +kernel)⟩
theorem lw_p8 : lw_okq (⟨"SpeechMarks$Reading", "begin", "()V"⟩, 15) := ⟨⟨by decide +kernel, by decide +kernel⟩, List.mem_of_getElem? (i := 97) (by decide +kernel), List.mem_of_getElem? (i := 486) (by decide +kernel), List.mem_of_getElem? (i := 487) (by decide +kernel)⟩
theorem lw_p9 : lw_okq (⟨"SpeechMarks$Reading", "beginParagraph", "()V"⟩, 15) := ⟨⟨by decide +kernel, by decide +kernel⟩, List.mem_of_getElem? (i := 97) (by decide +kernel), List.mem_of_getElem? (i := 491) (by decide +kernel), List.mem_of_getElem? (i := 492) (by decide +kernel)⟩
theorem lw_p10 : lw_okq (⟨"SpeechMarks$Reading", "renews", "(II)Z"⟩, 15) := ⟨⟨by decide +kernel, by decide +kernel⟩, List.mem_of_getElem? (i := 97) (by decide +kernel), List.mem_of_getElem? (i := 500) (by decide +kernel), List.mem_of_getElem? (i := 501) (by decide +kernel)⟩
theorem lw_p11 : lw_okq (⟨"SpeechMarks$Reading", "addWrong", "(II)V"⟩, 15) := ⟨⟨by decide +kernel, by decide +kernel⟩, List.mem_of_getElem? (i := 97) (by decide +kernel), List.mem_of_getElem? (i := 523) (by decide +kernel), List.mem_of_getElem? (i := 524) (by decide +kernel)⟩
theorem lw_p12 : lw_okq (⟨"SpeechMarks$Reading", "addToParagraph", "(I)V"⟩, 15) := ⟨⟨by decide +kernel, by decide +kernel⟩, List.mem_of_getElem? (i := 97) (by decide +kernel), List.mem_of_getElem? (i := 531) (by decide +kernel), List.mem_of_getElem? (i := 532) (by decide +kernel)⟩
theorem lw_p13 : lw_okq (⟨"SpeechMarks$Reading", "readWithNothingDue", "(II)V"⟩, 15) := ⟨⟨by decide +kernel, by decide +kernel⟩, List.mem_of_getElem? (i := 97) (by decide +kernel), List.mem_of_getElem? (i := 539) (by decide +kernel), List.mem_of_getElem? (i := 540) (by decide +kernel)⟩
theorem lw_p14 : lw_okq (⟨"SpeechMarks$Reading", "countLetter", "()V"⟩, 15) := ⟨⟨by decide +kernel, by decide +kernel⟩, List.mem_of_getElem? (i := 97) (by decide +kernel), List.mem_of_getElem? (i := 544) (by decide +kernel), List.mem_of_getElem? (i := 545) (by decide +kernel)⟩
theorem lw_p15 : lw_okq (⟨"SpeechMarks$Reading", "addToOpenQuotes", "(I)V"⟩, 15) := ⟨⟨by decide +kernel, by decide +kernel⟩, List.mem_of_getElem? (i := 97) (by decide +kernel), List.mem_of_getElem? (i := 548) (by decide +kernel), List.mem_of_getElem? (i := 549) (by decide +kernel)⟩
def lw_privs_1 : List (MethodName × Nat) := [(⟨"SpeechMarks", "outdate", "()V"⟩, 8), (⟨"SpeechMarks", "tongueNamed", "()I"⟩, 8), (⟨"SpeechMarks", "textIs", "(Ljava/lang/String;)Z"⟩, 8), (⟨"SpeechMarks", "beginChange", "()V"⟩, 8), (⟨"SpeechMarks$History", "slot", "(I)LSpeechMarks$Speech;"⟩, 3), (⟨"SpeechMarks", "freshReading", "()LSpeechMarks$Reading;"⟩, 8), (⟨"SpeechMarks$Grammar", "learnFreeState", "(I)V"⟩, 4), (⟨"SpeechMarks$Grammar", "offer", "(IIII)V"⟩, 4), (⟨"SpeechMarks$Reading", "begin", "()V"⟩, 15), (⟨"SpeechMarks$Reading", "beginParagraph", "()V"⟩, 15), (⟨"SpeechMarks$Reading", "renews", "(II)Z"⟩, 15), (⟨"SpeechMarks$Reading", "addWrong", "(II)V"⟩, 15), (⟨"SpeechMarks$Reading", "addToParagraph", "(I)V"⟩, 15), (⟨"SpeechMarks$Reading", "readWithNothingDue", "(II)V"⟩, 15), (⟨"SpeechMarks$Reading", "countLetter", "()V"⟩, 15), (⟨"SpeechMarks$Reading", "addToOpenQuotes", "(I)V"⟩, 15)]
theorem lw_r1 : ∀ q ∈ lw_privs_1, lw_okq q := List.forall_mem_cons.mpr ⟨lw_p0, List.forall_mem_cons.mpr ⟨lw_p1, List.forall_mem_cons.mpr ⟨lw_p2, List.forall_mem_cons.mpr ⟨lw_p3, List.forall_mem_cons.mpr ⟨lw_p4, List.forall_mem_cons.mpr ⟨lw_p5, List.forall_mem_cons.mpr ⟨lw_p6, List.forall_mem_cons.mpr ⟨lw_p7, List.forall_mem_cons.mpr ⟨lw_p8, List.forall_mem_cons.mpr ⟨lw_p9, List.forall_mem_cons.mpr ⟨lw_p10, List.forall_mem_cons.mpr ⟨lw_p11, List.forall_mem_cons.mpr ⟨lw_p12, List.forall_mem_cons.mpr ⟨lw_p13, List.forall_mem_cons.mpr ⟨lw_p14, List.forall_mem_cons.mpr ⟨lw_p15, fun _ h => absurd h List.not_mem_nil⟩⟩⟩⟩⟩⟩⟩⟩⟩⟩⟩⟩⟩⟩⟩⟩
theorem lw_p16 : lw_okq (⟨"SpeechMarks$Reading", "openQuote", "(I)V"⟩, 15) := ⟨⟨by decide +kernel, by decide +kernel⟩, List.mem_of_getElem? (i := 97) (by decide +kernel), List.mem_of_getElem? (i := 557) (by decide +kernel), List.mem_of_getElem? (i := 558) (by decide +kernel)⟩
theorem lw_p17 : lw_okq (⟨"SpeechMarks$Reading", "closeQuote", "(I)V"⟩, 15) := ⟨⟨by decide +kernel, by decide +kernel⟩, List.mem_of_getElem? (i := 97) (by decide +kernel), List.mem_of_getElem? (i := 562) (by decide +kernel), List.mem_of_getElem? (i := 563) (by decide +kernel)⟩
theorem lw_p18 : lw_okq (⟨"SpeechMarks", "freshMending", "()LSpeechMarks$Mending;"⟩, 8) := ⟨⟨by decide +kernel, by decide +kernel⟩, List.mem_of_getElem? (i := 15) (by decide +kernel), List.mem_of_getElem? (i := 597) (by decide +kernel), List.mem_of_getElem? (i := 598) (by decide +kernel)⟩
theorem lw_p19 : lw_okq (⟨"SpeechMarks$Mending", "reckonPlace", "(I)V"⟩, 10) := ⟨⟨by decide +kernel, by decide +kernel⟩, List.mem_of_getElem? (i := 185) (by decide +kernel), List.mem_of_getElem? (i := 607) (by decide +kernel), List.mem_of_getElem? (i := 608) (by decide +kernel)⟩
theorem lw_p20 : lw_okq (⟨"SpeechMarks$Mending", "costAtMark", "(II)I"⟩, 10) := ⟨⟨by decide +kernel, by decide +kernel⟩, List.mem_of_getElem? (i := 185) (by decide +kernel), List.mem_of_getElem? (i := 615) (by decide +kernel), List.mem_of_getElem? (i := 616) (by decide +kernel)⟩
theorem lw_p21 : lw_okq (⟨"SpeechMarks$Mending", "costAt", "(II)I"⟩, 10) := ⟨⟨by decide +kernel, by decide +kernel⟩, List.mem_of_getElem? (i := 185) (by decide +kernel), List.mem_of_getElem? (i := 619) (by decide +kernel), List.mem_of_getElem? (i := 620) (by decide +kernel)⟩
theorem lw_p22 : lw_okq (⟨"SpeechMarks$Mending", "costAtOther", "(II)I"⟩, 10) := ⟨⟨by decide +kernel, by decide +kernel⟩, List.mem_of_getElem? (i := 185) (by decide +kernel), List.mem_of_getElem? (i := 626) (by decide +kernel), List.mem_of_getElem? (i := 627) (by decide +kernel)⟩
theorem lw_p23 : lw_okq (⟨"SpeechMarks$Mending", "settlePuttingIn", "(I)V"⟩, 10) := ⟨⟨by decide +kernel, by decide +kernel⟩, List.mem_of_getElem? (i := 185) (by decide +kernel), List.mem_of_getElem? (i := 633) (by decide +kernel), List.mem_of_getElem? (i := 634) (by decide +kernel)⟩
theorem lw_p24 : lw_okq (⟨"SpeechMarks$Mending", "relax", "(III)V"⟩, 10) := ⟨⟨by decide +kernel, by decide +kernel⟩, List.mem_of_getElem? (i := 185) (by decide +kernel), List.mem_of_getElem? (i := 637) (by decide +kernel), List.mem_of_getElem? (i := 638) (by decide +kernel)⟩
theorem lw_p25 : lw_okq (⟨"SpeechMarks$Mending", "hasArrived", "()Z"⟩, 10) := ⟨⟨by decide +kernel, by decide +kernel⟩, List.mem_of_getElem? (i := 185) (by decide +kernel), List.mem_of_getElem? (i := 646) (by decide +kernel), List.mem_of_getElem? (i := 647) (by decide +kernel)⟩
theorem lw_p26 : lw_okq (⟨"SpeechMarks$Mending", "letStay", "()Z"⟩, 10) := ⟨⟨by decide +kernel, by decide +kernel⟩, List.mem_of_getElem? (i := 185) (by decide +kernel), List.mem_of_getElem? (i := 650) (by decide +kernel), List.mem_of_getElem? (i := 651) (by decide +kernel)⟩
theorem lw_p27 : lw_okq (⟨"SpeechMarks$Mending", "isLeast", "(III)Z"⟩, 10) := ⟨⟨by decide +kernel, by decide +kernel⟩, List.mem_of_getElem? (i := 185) (by decide +kernel), List.mem_of_getElem? (i := 654) (by decide +kernel), List.mem_of_getElem? (i := 655) (by decide +kernel)⟩
theorem lw_p28 : lw_okq (⟨"SpeechMarks$Mending", "say", "(I)V"⟩, 10) := ⟨⟨by decide +kernel, by decide +kernel⟩, List.mem_of_getElem? (i := 185) (by decide +kernel), List.mem_of_getElem? (i := 658) (by decide +kernel), List.mem_of_getElem? (i := 659) (by decide +kernel)⟩
theorem lw_p29 : lw_okq (⟨"SpeechMarks$Mending", "goTo", "(II)V"⟩, 10) := ⟨⟨by decide +kernel, by decide +kernel⟩, List.mem_of_getElem? (i := 185) (by decide +kernel), List.mem_of_getElem? (i := 662) (by decide +kernel), List.mem_of_getElem? (i := 663) (by decide +kernel)⟩
theorem lw_p30 : lw_okq (⟨"SpeechMarks$Mending", "isAtMark", "()Z"⟩, 10) := ⟨⟨by decide +kernel, by decide +kernel⟩, List.mem_of_getElem? (i := 185) (by decide +kernel), List.mem_of_getElem? (i := 666) (by decide +kernel), List.mem_of_getElem? (i := 667) (by decide +kernel)⟩
theorem lw_p31 : lw_okq (⟨"SpeechMarks$Mending", "takeOffer", "(II)Z"⟩, 10) := ⟨⟨by decide +kernel, by decide +kernel⟩, List.mem_of_getElem? (i := 185) (by decide +kernel), List.mem_of_getElem? (i := 670) (by decide +kernel), List.mem_of_getElem? (i := 671) (by decide +kernel)⟩
def lw_privs_2 : List (MethodName × Nat) := [(⟨"SpeechMarks$Reading", "openQuote", "(I)V"⟩, 15), (⟨"SpeechMarks$Reading", "closeQuote", "(I)V"⟩, 15), (⟨"SpeechMarks", "freshMending", "()LSpeechMarks$Mending;"⟩, 8), (⟨"SpeechMarks$Mending", "reckonPlace", "(I)V"⟩, 10), (⟨"SpeechMarks$Mending", "costAtMark", "(II)I"⟩, 10), (⟨"SpeechMarks$Mending", "costAt", "(II)I"⟩, 10), (⟨"SpeechMarks$Mending", "costAtOther", "(II)I"⟩, 10), (⟨"SpeechMarks$Mending", "settlePuttingIn", "(I)V"⟩, 10), (⟨"SpeechMarks$Mending", "relax", "(III)V"⟩, 10), (⟨"SpeechMarks$Mending", "hasArrived", "()Z"⟩, 10), (⟨"SpeechMarks$Mending", "letStay", "()Z"⟩, 10), (⟨"SpeechMarks$Mending", "isLeast", "(III)Z"⟩, 10), (⟨"SpeechMarks$Mending", "say", "(I)V"⟩, 10), (⟨"SpeechMarks$Mending", "goTo", "(II)V"⟩, 10), (⟨"SpeechMarks$Mending", "isAtMark", "()Z"⟩, 10), (⟨"SpeechMarks$Mending", "takeOffer", "(II)Z"⟩, 10)]
theorem lw_r2 : ∀ q ∈ lw_privs_2, lw_okq q := List.forall_mem_cons.mpr ⟨lw_p16, List.forall_mem_cons.mpr ⟨lw_p17, List.forall_mem_cons.mpr ⟨lw_p18, List.forall_mem_cons.mpr ⟨lw_p19, List.forall_mem_cons.mpr ⟨lw_p20, List.forall_mem_cons.mpr ⟨lw_p21, List.forall_mem_cons.mpr ⟨lw_p22, List.forall_mem_cons.mpr ⟨lw_p23, List.forall_mem_cons.mpr ⟨lw_p24, List.forall_mem_cons.mpr ⟨lw_p25, List.forall_mem_cons.mpr ⟨lw_p26, List.forall_mem_cons.mpr ⟨lw_p27, List.forall_mem_cons.mpr ⟨lw_p28, List.forall_mem_cons.mpr ⟨lw_p29, List.forall_mem_cons.mpr ⟨lw_p30, List.forall_mem_cons.mpr ⟨lw_p31, fun _ h => absurd h List.not_mem_nil⟩⟩⟩⟩⟩⟩⟩⟩⟩⟩⟩⟩⟩⟩⟩⟩
theorem lw_p32 : lw_okq (⟨"SpeechMarks$Mending", "leaveOut", "()Z"⟩, 10) := ⟨⟨by decide +kernel, by decide +kernel⟩, List.mem_of_getElem? (i := 185) (by decide +kernel), List.mem_of_getElem? (i := 675) (by decide +kernel), List.mem_of_getElem? (i := 676) (by decide +kernel)⟩
theorem lw_p33 : lw_okq (⟨"SpeechMarks", "retellSign", "(II)V"⟩, 8) := ⟨⟨by decide +kernel, by decide +kernel⟩, List.mem_of_getElem? (i := 15) (by decide +kernel), List.mem_of_getElem? (i := 703) (by decide +kernel), List.mem_of_getElem? (i := 704) (by decide +kernel)⟩
theorem lw_p34 : lw_okq (⟨"SpeechMarksModel", "isName", "(I)Z"⟩, 17) := ⟨⟨by decide +kernel, by decide +kernel⟩, List.mem_of_getElem? (i := 719) (by decide +kernel), List.mem_of_getElem? (i := 815) (by decide +kernel), List.mem_of_getElem? (i := 816) (by decide +kernel)⟩
theorem lw_p35 : lw_okq (⟨"SpeechMarksModel", "tells", "(II)I"⟩, 17) := ⟨⟨by decide +kernel, by decide +kernel⟩, List.mem_of_getElem? (i := 719) (by decide +kernel), List.mem_of_getElem? (i := 822) (by decide +kernel), List.mem_of_getElem? (i := 823) (by decide +kernel)⟩
theorem lw_p36 : lw_okq (⟨"SpeechMarksModel", "note", "()V"⟩, 17) := ⟨⟨by decide +kernel, by decide +kernel⟩, List.mem_of_getElem? (i := 719) (by decide +kernel), List.mem_of_getElem? (i := 826) (by decide +kernel), List.mem_of_getElem? (i := 827) (by decide +kernel)⟩
theorem lw_p37 : lw_okq (⟨"SpeechMarksModel", "isPlace", "(I)Z"⟩, 17) := ⟨⟨by decide +kernel, by decide +kernel⟩, List.mem_of_getElem? (i := 719) (by decide +kernel), List.mem_of_getElem? (i := 848) (by decide +kernel), List.mem_of_getElem? (i := 849) (by decide +kernel)⟩
theorem lw_p38 : lw_okq (⟨"SpeechMarksModel", "read", "()V"⟩, 17) := ⟨⟨by decide +kernel, by decide +kernel⟩, List.mem_of_getElem? (i := 719) (by decide +kernel), List.mem_of_getElem? (i := 864) (by decide +kernel), List.mem_of_getElem? (i := 865) (by decide +kernel)⟩
theorem lw_p39 : lw_okq (⟨"SpeechMarksModel", "wrong1", "(II)V"⟩, 17) := ⟨⟨by decide +kernel, by decide +kernel⟩, List.mem_of_getElem? (i := 719) (by decide +kernel), List.mem_of_getElem? (i := 877) (by decide +kernel), List.mem_of_getElem? (i := 878) (by decide +kernel)⟩
theorem lw_p40 : lw_okq (⟨"SpeechMarksModel", "opened", "(I)I"⟩, 17) := ⟨⟨by decide +kernel, by decide +kernel⟩, List.mem_of_getElem? (i := 719) (by decide +kernel), List.mem_of_getElem? (i := 887) (by decide +kernel), List.mem_of_getElem? (i := 888) (by decide +kernel)⟩
theorem lw_p41 : lw_okq (⟨"SpeechMarksModel", "findLeast", "(II)I"⟩, 17) := ⟨⟨by decide +kernel, by decide +kernel⟩, List.mem_of_getElem? (i := 719) (by decide +kernel), List.mem_of_getElem? (i := 920) (by decide +kernel), List.mem_of_getElem? (i := 921) (by decide +kernel)⟩
theorem lw_p42 : lw_okq (⟨"SpeechMarksModel", "stays", "(IIIII)I"⟩, 17) := ⟨⟨by decide +kernel, by decide +kernel⟩, List.mem_of_getElem? (i := 719) (by decide +kernel), List.mem_of_getElem? (i := 925) (by decide +kernel), List.mem_of_getElem? (i := 926) (by decide +kernel)⟩
theorem lw_p43 : lw_okq (⟨"SpeechMarksModel", "taken", "(III)I"⟩, 17) := ⟨⟨by decide +kernel, by decide +kernel⟩, List.mem_of_getElem? (i := 719) (by decide +kernel), List.mem_of_getElem? (i := 932) (by decide +kernel), List.mem_of_getElem? (i := 933) (by decide +kernel)⟩
theorem lw_p44 : lw_okq (⟨"SpeechMarksModel", "becomes", "(IIII)I"⟩, 17) := ⟨⟨by decide +kernel, by decide +kernel⟩, List.mem_of_getElem? (i := 719) (by decide +kernel), List.mem_of_getElem? (i := 939) (by decide +kernel), List.mem_of_getElem? (i := 940) (by decide +kernel)⟩
theorem lw_p45 : lw_okq (⟨"SpeechMarksModel", "findMended", "()V"⟩, 17) := ⟨⟨by decide +kernel, by decide +kernel⟩, List.mem_of_getElem? (i := 719) (by decide +kernel), List.mem_of_getElem? (i := 947) (by decide +kernel), List.mem_of_getElem? (i := 948) (by decide +kernel)⟩
theorem lw_p46 : lw_okq (⟨"SpeechMarksModel", "puts", "(II)V"⟩, 17) := ⟨⟨by decide +kernel, by decide +kernel⟩, List.mem_of_getElem? (i := 719) (by decide +kernel), List.mem_of_getElem? (i := 951) (by decide +kernel), List.mem_of_getElem? (i := 952) (by decide +kernel)⟩
theorem lw_p47 : lw_okq (⟨"SpeechMarksModel", "renewer", "(I)I"⟩, 17) := ⟨⟨by decide +kernel, by decide +kernel⟩, List.mem_of_getElem? (i := 719) (by decide +kernel), List.mem_of_getElem? (i := 972) (by decide +kernel), List.mem_of_getElem? (i := 973) (by decide +kernel)⟩
def lw_privs_3 : List (MethodName × Nat) := [(⟨"SpeechMarks$Mending", "leaveOut", "()Z"⟩, 10), (⟨"SpeechMarks", "retellSign", "(II)V"⟩, 8), (⟨"SpeechMarksModel", "isName", "(I)Z"⟩, 17), (⟨"SpeechMarksModel", "tells", "(II)I"⟩, 17), (⟨"SpeechMarksModel", "note", "()V"⟩, 17), (⟨"SpeechMarksModel", "isPlace", "(I)Z"⟩, 17), (⟨"SpeechMarksModel", "read", "()V"⟩, 17), (⟨"SpeechMarksModel", "wrong1", "(II)V"⟩, 17), (⟨"SpeechMarksModel", "opened", "(I)I"⟩, 17), (⟨"SpeechMarksModel", "findLeast", "(II)I"⟩, 17), (⟨"SpeechMarksModel", "stays", "(IIIII)I"⟩, 17), (⟨"SpeechMarksModel", "taken", "(III)I"⟩, 17), (⟨"SpeechMarksModel", "becomes", "(IIII)I"⟩, 17), (⟨"SpeechMarksModel", "findMended", "()V"⟩, 17), (⟨"SpeechMarksModel", "puts", "(II)V"⟩, 17), (⟨"SpeechMarksModel", "renewer", "(I)I"⟩, 17)]
theorem lw_r3 : ∀ q ∈ lw_privs_3, lw_okq q := List.forall_mem_cons.mpr ⟨lw_p32, List.forall_mem_cons.mpr ⟨lw_p33, List.forall_mem_cons.mpr ⟨lw_p34, List.forall_mem_cons.mpr ⟨lw_p35, List.forall_mem_cons.mpr ⟨lw_p36, List.forall_mem_cons.mpr ⟨lw_p37, List.forall_mem_cons.mpr ⟨lw_p38, List.forall_mem_cons.mpr ⟨lw_p39, List.forall_mem_cons.mpr ⟨lw_p40, List.forall_mem_cons.mpr ⟨lw_p41, List.forall_mem_cons.mpr ⟨lw_p42, List.forall_mem_cons.mpr ⟨lw_p43, List.forall_mem_cons.mpr ⟨lw_p44, List.forall_mem_cons.mpr ⟨lw_p45, List.forall_mem_cons.mpr ⟨lw_p46, List.forall_mem_cons.mpr ⟨lw_p47, fun _ h => absurd h List.not_mem_nil⟩⟩⟩⟩⟩⟩⟩⟩⟩⟩⟩⟩⟩⟩⟩⟩
def lw_privs : List (MethodName × Nat) := lw_privs_1 ++ (lw_privs_2 ++ (lw_privs_3))
def lw_tbl : List Cond := k2_sels lw_privs ++ tables_1
theorem lw_privs_ok : ∀ q ∈ lw_privs, lw_okq q := by
  show ∀ q ∈ lw_privs_1 ++ (lw_privs_2 ++ (lw_privs_3)), lw_okq q
  exact List.forall_mem_append.mpr ⟨lw_r1, List.forall_mem_append.mpr ⟨lw_r2, lw_r3⟩⟩
end
section
def RX0 : String := "SpeechMarks$Grammar"
def TX0 : u_T := fun k => match k with
  | 0 => ("SpeechMarks$Grammar", "tongue", "I", false)
  | 1 => ("SpeechMarks$Grammar", "ruling", "I", false)
  | 2 => ("SpeechMarks$Grammar", "offers", "LSpeechMarks$Row;", true)
  | _ => ("SpeechMarks$Grammar", "nexts", "LSpeechMarks$Row;", true)
def tyX0 : Nat → FieldType := fun k => match k with
  | 0 => .int
  | 1 => .int
  | 2 => .object "SpeechMarks$Row"
  | _ => .object "SpeechMarks$Row"
abbrev wsX00 : List Cond := u_ws RX0 TX0 4
theorem nmX0 : ∀ a, a < 4 → ∀ b, b < 4 → a ≠ b → (TX0 a).2.1 ≠ (TX0 b).2.1 := by decide +kernel
theorem tyX0_ok : ∀ k, k < 4 → parseFieldDescriptor (TX0 k).2.2.1 = some (tyX0 k) := by decide +kernel
abbrev cX0_init : ByteArray := prog_2_method_1_code
def yX0_init : MethodName := ⟨RX0, "<init>", "()V"⟩
abbrev cX0_speakAs : ByteArray := prog_2_method_2_code
def yX0_speakAs : MethodName := ⟨RX0, "speakAs", "(II)V"⟩
abbrev cX0_learnFreeState : ByteArray := prog_2_method_3_code
def yX0_learnFreeState : MethodName := ⟨RX0, "learnFreeState", "(I)V"⟩
abbrev cX0_offer : ByteArray := prog_2_method_4_code
def yX0_offer : MethodName := ⟨RX0, "offer", "(IIII)V"⟩
abbrev cX0_depthOf : ByteArray := prog_2_method_5_code
def yX0_depthOf : MethodName := ⟨RX0, "depthOf", "(I)I"⟩
abbrev cX0_leftDue : ByteArray := prog_2_method_6_code
def yX0_leftDue : MethodName := ⟨RX0, "leftDue", "(I)I"⟩
abbrev cX0_stateOf : ByteArray := prog_2_method_7_code
def yX0_stateOf : MethodName := ⟨RX0, "stateOf", "(II)I"⟩
abbrev cX0_dueBehindBreak : ByteArray := prog_2_method_8_code
def yX0_dueBehindBreak : MethodName := ⟨RX0, "dueBehindBreak", "(I)I"⟩
abbrev cX0_firstDue : ByteArray := prog_2_method_9_code
def yX0_firstDue : MethodName := ⟨RX0, "firstDue", "(I)I"⟩
abbrev cX0_offered : ByteArray := prog_2_method_10_code
def yX0_offered : MethodName := ⟨RX0, "offered", "(II)I"⟩
abbrev cX0_behindOffer : ByteArray := prog_2_method_11_code
def yX0_behindOffer : MethodName := ⟨RX0, "behindOffer", "(II)I"⟩
abbrev cX0_step : ByteArray := prog_2_method_12_code
def yX0_step : MethodName := ⟨RX0, "step", "(II)I"⟩
abbrev cX0_owns : ByteArray := prog_2_method_13_code
def yX0_owns : MethodName := ⟨RX0, "owns", "(I)Z"⟩
def RX1 : String := "SpeechMarks$History"
def TX1 : u_T := fun k => match k with
  | 0 => ("SpeechMarks$History", "ring", "[LSpeechMarks$Speech;", true)
  | 1 => ("SpeechMarks$History", "next", "I", false)
  | _ => ("SpeechMarks$History", "kept", "I", false)
def tyX1 : Nat → FieldType := fun k => match k with
  | 0 => .array (.object "SpeechMarks$Speech")
  | 1 => .int
  | _ => .int
abbrev wsX10 : List Cond := u_ws RX1 TX1 3
theorem nmX1 : ∀ a, a < 3 → ∀ b, b < 3 → a ≠ b → (TX1 a).2.1 ≠ (TX1 b).2.1 := by decide +kernel
theorem tyX1_ok : ∀ k, k < 3 → parseFieldDescriptor (TX1 k).2.2.1 = some (tyX1 k) := by decide +kernel
abbrev cX1_init : ByteArray := prog_3_method_1_code
def yX1_init : MethodName := ⟨RX1, "<init>", "()V"⟩
abbrev cX1_keep : ByteArray := prog_3_method_2_code
def yX1_keep : MethodName := ⟨RX1, "keep", "(LSpeechMarks$Speech;)V"⟩
abbrev cX1_giveBack : ByteArray := prog_3_method_3_code
def yX1_giveBack : MethodName := ⟨RX1, "giveBack", "(LSpeechMarks$Speech;)V"⟩
abbrev cX1_forget : ByteArray := prog_3_method_4_code
def yX1_forget : MethodName := ⟨RX1, "forget", "()V"⟩
abbrev cX1_slot : ByteArray := prog_3_method_5_code
def yX1_slot : MethodName := ⟨RX1, "slot", "(I)LSpeechMarks$Speech;"⟩
def RX2 : String := "SpeechMarks$Mending"
def TX2 : u_T := fun k => match k with
  | 0 => ("SpeechMarks$Mending", "grammar", "LSpeechMarks$Grammar;", true)
  | 1 => ("SpeechMarks$Mending", "signs", "LSpeechMarks$Row;", true)
  | 2 => ("SpeechMarks$Mending", "signCount", "I", false)
  | 3 => ("SpeechMarks$Mending", "weights", "LSpeechMarks$Row;", true)
  | 4 => ("SpeechMarks$Mending", "costs", "LSpeechMarks$Row;", true)
  | 5 => ("SpeechMarks$Mending", "result", "LSpeechMarks$Row;", true)
  | 6 => ("SpeechMarks$Mending", "size", "I", false)
  | 7 => ("SpeechMarks$Mending", "tally", "LSpeechMarks$Row;", true)
  | 8 => ("SpeechMarks$Mending", "place", "I", false)
  | _ => ("SpeechMarks$Mending", "state", "I", false)
def tyX2 : Nat → FieldType := fun k => match k with
  | 0 => .object "SpeechMarks$Grammar"
  | 1 => .object "SpeechMarks$Row"
  | 2 => .int
  | 3 => .object "SpeechMarks$Row"
  | 4 => .object "SpeechMarks$Row"
  | 5 => .object "SpeechMarks$Row"
  | 6 => .int
  | 7 => .object "SpeechMarks$Row"
  | 8 => .int
  | _ => .int
abbrev wsX20 : List Cond := u_ws RX2 TX2 10
theorem nmX2 : ∀ a, a < 10 → ∀ b, b < 10 → a ≠ b → (TX2 a).2.1 ≠ (TX2 b).2.1 := by decide +kernel
theorem tyX2_ok : ∀ k, k < 10 → parseFieldDescriptor (TX2 k).2.2.1 = some (tyX2 k) := by decide +kernel
abbrev cX2_init : ByteArray := prog_4_method_1_code
def yX2_init : MethodName := ⟨RX2, "<init>", "()V"⟩
abbrev cX2_leastSum : ByteArray := prog_4_method_2_code
def yX2_leastSum : MethodName := ⟨RX2, "leastSum", "()I"⟩
abbrev cX2_reckon : ByteArray := prog_4_method_3_code
def yX2_reckon : MethodName := ⟨RX2, "reckon", "(LSpeechMarks$Speech;II)V"⟩
abbrev cX2_reckonPlace : ByteArray := prog_4_method_4_code
def yX2_reckonPlace : MethodName := ⟨RX2, "reckonPlace", "(I)V"⟩
abbrev cX2_costAtOther : ByteArray := prog_4_method_5_code
def yX2_costAtOther : MethodName := ⟨RX2, "costAtOther", "(II)I"⟩
abbrev cX2_costAtMark : ByteArray := prog_4_method_6_code
def yX2_costAtMark : MethodName := ⟨RX2, "costAtMark", "(II)I"⟩
abbrev cX2_settlePuttingIn : ByteArray := prog_4_method_7_code
def yX2_settlePuttingIn : MethodName := ⟨RX2, "settlePuttingIn", "(I)V"⟩
abbrev cX2_relax : ByteArray := prog_4_method_8_code
def yX2_relax : MethodName := ⟨RX2, "relax", "(III)V"⟩
abbrev cX2_costAt : ByteArray := prog_4_method_9_code
def yX2_costAt : MethodName := ⟨RX2, "costAt", "(II)I"⟩
abbrev cX2_followLeastWay : ByteArray := prog_4_method_10_code
def yX2_followLeastWay : MethodName := ⟨RX2, "followLeastWay", "()V"⟩
abbrev cX2_hasArrived : ByteArray := prog_4_method_11_code
def yX2_hasArrived : MethodName := ⟨RX2, "hasArrived", "()Z"⟩
abbrev cX2_isAtMark : ByteArray := prog_4_method_12_code
def yX2_isAtMark : MethodName := ⟨RX2, "isAtMark", "()Z"⟩
abbrev cX2_isLeast : ByteArray := prog_4_method_13_code
def yX2_isLeast : MethodName := ⟨RX2, "isLeast", "(III)Z"⟩
abbrev cX2_letStay : ByteArray := prog_4_method_14_code
def yX2_letStay : MethodName := ⟨RX2, "letStay", "()Z"⟩
abbrev cX2_leaveOut : ByteArray := prog_4_method_15_code
def yX2_leaveOut : MethodName := ⟨RX2, "leaveOut", "()Z"⟩
abbrev cX2_takeOffer : ByteArray := prog_4_method_16_code
def yX2_takeOffer : MethodName := ⟨RX2, "takeOffer", "(II)Z"⟩
abbrev cX2_say : ByteArray := prog_4_method_17_code
def yX2_say : MethodName := ⟨RX2, "say", "(I)V"⟩
abbrev cX2_goTo : ByteArray := prog_4_method_18_code
def yX2_goTo : MethodName := ⟨RX2, "goTo", "(II)V"⟩
def RX3 : String := "SpeechMarks$Reading"
def TX3 : u_T := fun k => match k with
  | 0 => ("SpeechMarks$Reading", "grammar", "LSpeechMarks$Grammar;", true)
  | 1 => ("SpeechMarks$Reading", "kinds", "LSpeechMarks$Row;", true)
  | 2 => ("SpeechMarks$Reading", "depths", "LSpeechMarks$Row;", true)
  | 3 => ("SpeechMarks$Reading", "partners", "LSpeechMarks$Row;", true)
  | 4 => ("SpeechMarks$Reading", "levels", "LSpeechMarks$Row;", true)
  | 5 => ("SpeechMarks$Reading", "wrongs", "LSpeechMarks$Row;", true)
  | 6 => ("SpeechMarks$Reading", "wrongCount", "I", false)
  | 7 => ("SpeechMarks$Reading", "quotes", "LSpeechMarks$Row;", true)
  | 8 => ("SpeechMarks$Reading", "quoteCount", "I", false)
  | 9 => ("SpeechMarks$Reading", "paragraphs", "LSpeechMarks$Row;", true)
  | 10 => ("SpeechMarks$Reading", "paragraphCount", "I", false)
  | 11 => ("SpeechMarks$Reading", "lettersAt", "LSpeechMarks$Row;", true)
  | 12 => ("SpeechMarks$Reading", "openQuotes", "LSpeechMarks$Row;", true)
  | 13 => ("SpeechMarks$Reading", "greatest", "I", false)
  | _ => ("SpeechMarks$Reading", "state", "I", false)
def tyX3 : Nat → FieldType := fun k => match k with
  | 0 => .object "SpeechMarks$Grammar"
  | 1 => .object "SpeechMarks$Row"
  | 2 => .object "SpeechMarks$Row"
  | 3 => .object "SpeechMarks$Row"
  | 4 => .object "SpeechMarks$Row"
  | 5 => .object "SpeechMarks$Row"
  | 6 => .int
  | 7 => .object "SpeechMarks$Row"
  | 8 => .int
  | 9 => .object "SpeechMarks$Row"
  | 10 => .int
  | 11 => .object "SpeechMarks$Row"
  | 12 => .object "SpeechMarks$Row"
  | 13 => .int
  | _ => .int
abbrev wsX30 : List Cond := u_ws RX3 TX3 15
theorem nmX3 : ∀ a, a < 15 → ∀ b, b < 15 → a ≠ b → (TX3 a).2.1 ≠ (TX3 b).2.1 := by decide +kernel
theorem tyX3_ok : ∀ k, k < 15 → parseFieldDescriptor (TX3 k).2.2.1 = some (tyX3 k) := by decide +kernel
abbrev cX3_init : ByteArray := prog_5_method_1_code
def yX3_init : MethodName := ⟨RX3, "<init>", "()V"⟩
abbrev cX3_readWhole : ByteArray := prog_5_method_2_code
def yX3_readWhole : MethodName := ⟨RX3, "readWhole", "(LSpeechMarks$Speech;)V"⟩
abbrev cX3_begin : ByteArray := prog_5_method_3_code
def yX3_begin : MethodName := ⟨RX3, "begin", "()V"⟩
abbrev cX3_beginParagraph : ByteArray := prog_5_method_4_code
def yX3_beginParagraph : MethodName := ⟨RX3, "beginParagraph", "()V"⟩
abbrev cX3_renews : ByteArray := prog_5_method_5_code
def yX3_renews : MethodName := ⟨RX3, "renews", "(II)Z"⟩
abbrev cX3_readWithNothingDue : ByteArray := prog_5_method_6_code
def yX3_readWithNothingDue : MethodName := ⟨RX3, "readWithNothingDue", "(II)V"⟩
abbrev cX3_countLetter : ByteArray := prog_5_method_7_code
def yX3_countLetter : MethodName := ⟨RX3, "countLetter", "()V"⟩
abbrev cX3_addToParagraph : ByteArray := prog_5_method_8_code
def yX3_addToParagraph : MethodName := ⟨RX3, "addToParagraph", "(I)V"⟩
abbrev cX3_addToOpenQuotes : ByteArray := prog_5_method_9_code
def yX3_addToOpenQuotes : MethodName := ⟨RX3, "addToOpenQuotes", "(I)V"⟩
abbrev cX3_openQuote : ByteArray := prog_5_method_10_code
def yX3_openQuote : MethodName := ⟨RX3, "openQuote", "(I)V"⟩
abbrev cX3_closeQuote : ByteArray := prog_5_method_11_code
def yX3_closeQuote : MethodName := ⟨RX3, "closeQuote", "(I)V"⟩
abbrev cX3_addWrong : ByteArray := prog_5_method_12_code
def yX3_addWrong : MethodName := ⟨RX3, "addWrong", "(II)V"⟩
def RX4 : String := "SpeechMarks$Row"
def TX4 : u_T := fun k => match k with
  | _ => ("SpeechMarks$Row", "cells", "[I", true)
def tyX4 : Nat → FieldType := fun k => match k with
  | _ => .array .int
abbrev wsX40 : List Cond := u_ws RX4 TX4 1
theorem nmX4 : ∀ a, a < 1 → ∀ b, b < 1 → a ≠ b → (TX4 a).2.1 ≠ (TX4 b).2.1 := by decide +kernel
theorem tyX4_ok : ∀ k, k < 1 → parseFieldDescriptor (TX4 k).2.2.1 = some (tyX4 k) := by decide +kernel
abbrev cX4_init : ByteArray := prog_6_method_1_code
def yX4_init : MethodName := ⟨RX4, "<init>", "(I)V"⟩
abbrev cX4_at : ByteArray := prog_6_method_2_code
def yX4_at : MethodName := ⟨RX4, "at", "(I)I"⟩
abbrev cX4_set : ByteArray := prog_6_method_3_code
def yX4_set : MethodName := ⟨RX4, "set", "(II)V"⟩
abbrev cX4_add : ByteArray := prog_6_method_4_code
def yX4_add : MethodName := ⟨RX4, "add", "(II)V"⟩
abbrev cX4_fill : ByteArray := prog_6_method_5_code
def yX4_fill : MethodName := ⟨RX4, "fill", "(I)V"⟩
abbrev cX4_copyFrom : ByteArray := prog_6_method_6_code
def yX4_copyFrom : MethodName := ⟨RX4, "copyFrom", "(LSpeechMarks$Row;I)V"⟩
def RX5 : String := "SpeechMarks$Speech"
def TX5 : u_T := fun k => match k with
  | 0 => ("SpeechMarks$Speech", "signs", "LSpeechMarks$Row;", true)
  | 1 => ("SpeechMarks$Speech", "size", "I", false)
  | 2 => ("SpeechMarks$Speech", "tongue", "I", false)
  | 3 => ("SpeechMarks$Speech", "ruling", "I", false)
  | _ => ("SpeechMarks$Speech", "weights", "LSpeechMarks$Row;", true)
def tyX5 : Nat → FieldType := fun k => match k with
  | 0 => .object "SpeechMarks$Row"
  | 1 => .int
  | 2 => .int
  | 3 => .int
  | _ => .object "SpeechMarks$Row"
abbrev wsX50 : List Cond := u_ws RX5 TX5 5
theorem nmX5 : ∀ a, a < 5 → ∀ b, b < 5 → a ≠ b → (TX5 a).2.1 ≠ (TX5 b).2.1 := by decide +kernel
theorem tyX5_ok : ∀ k, k < 5 → parseFieldDescriptor (TX5 k).2.2.1 = some (tyX5 k) := by decide +kernel
abbrev cX5_init : ByteArray := prog_7_method_1_code
def yX5_init : MethodName := ⟨RX5, "<init>", "()V"⟩
abbrev cX5_becomeLike : ByteArray := prog_7_method_2_code
def yX5_becomeLike : MethodName := ⟨RX5, "becomeLike", "(LSpeechMarks$Speech;)V"⟩
abbrev cX5_replaceBy : ByteArray := prog_7_method_3_code
def yX5_replaceBy : MethodName := ⟨RX5, "replaceBy", "(LSpeechMarks$Row;I)V"⟩
abbrev cX5_insert : ByteArray := prog_7_method_4_code
def yX5_insert : MethodName := ⟨RX5, "insert", "(II)V"⟩
abbrev cX5_remove : ByteArray := prog_7_method_5_code
def yX5_remove : MethodName := ⟨RX5, "remove", "(I)V"⟩
abbrev cX5_marks : ByteArray := prog_7_method_6_code
def yX5_marks : MethodName := ⟨RX5, "marks", "()I"⟩
def RX6 : String := "SpeechMarks"
def TX6 : u_T := fun k => match k with
  | 0 => ("SpeechMarks", "text", "LSpeechMarks$Row;", true)
  | 1 => ("SpeechMarks", "textSize", "I", false)
  | 2 => ("SpeechMarks", "speech", "LSpeechMarks$Speech;", true)
  | 3 => ("SpeechMarks", "history", "LSpeechMarks$History;", true)
  | 4 => ("SpeechMarks", "reading", "LSpeechMarks$Reading;", true)
  | 5 => ("SpeechMarks", "mending", "LSpeechMarks$Mending;", true)
  | 6 => ("SpeechMarks", "readingIsFresh", "Z", false)
  | _ => ("SpeechMarks", "mendingIsFresh", "Z", false)
def tyX6 : Nat → FieldType := fun k => match k with
  | 0 => .object "SpeechMarks$Row"
  | 1 => .int
  | 2 => .object "SpeechMarks$Speech"
  | 3 => .object "SpeechMarks$History"
  | 4 => .object "SpeechMarks$Reading"
  | 5 => .object "SpeechMarks$Mending"
  | 6 => .boolean
  | _ => .boolean
abbrev wsX60 : List Cond := u_ws RX6 TX6 8
theorem nmX6 : ∀ a, a < 8 → ∀ b, b < 8 → a ≠ b → (TX6 a).2.1 ≠ (TX6 b).2.1 := by decide +kernel
theorem tyX6_ok : ∀ k, k < 8 → parseFieldDescriptor (TX6 k).2.2.1 = some (tyX6 k) := by decide +kernel
abbrev cX6_init : ByteArray := prog_1_method_1_code
def yX6_init : MethodName := ⟨RX6, "<init>", "()V"⟩
abbrev cX6_write : ByteArray := prog_1_method_2_code
def yX6_write : MethodName := ⟨RX6, "write", "(I)I"⟩
abbrev cX6_wipe : ByteArray := prog_1_method_3_code
def yX6_wipe : MethodName := ⟨RX6, "wipe", "()I"⟩
abbrev cX6_fault : ByteArray := prog_1_method_4_code
def yX6_fault : MethodName := ⟨RX6, "fault", "()I"⟩
abbrev cX6_lay : ByteArray := prog_1_method_5_code
def yX6_lay : MethodName := ⟨RX6, "lay", "()I"⟩
abbrev cX6_speak : ByteArray := prog_1_method_6_code
def yX6_speak : MethodName := ⟨RX6, "speak", "()I"⟩
abbrev cX6_rule : ByteArray := prog_1_method_7_code
def yX6_rule : MethodName := ⟨RX6, "rule", "(I)I"⟩
abbrev cX6_weigh : ByteArray := prog_1_method_8_code
def yX6_weigh : MethodName := ⟨RX6, "weigh", "(II)I"⟩
abbrev cX6_put : ByteArray := prog_1_method_9_code
def yX6_put : MethodName := ⟨RX6, "put", "(II)I"⟩
abbrev cX6_take : ByteArray := prog_1_method_10_code
def yX6_take : MethodName := ⟨RX6, "take", "(I)I"⟩
abbrev cX6_alter : ByteArray := prog_1_method_11_code
def yX6_alter : MethodName := ⟨RX6, "alter", "(II)I"⟩
abbrev cX6_undo : ByteArray := prog_1_method_12_code
def yX6_undo : MethodName := ⟨RX6, "undo", "()I"⟩
abbrev cX6_sign : ByteArray := prog_1_method_13_code
def yX6_sign : MethodName := ⟨RX6, "sign", "(I)I"⟩
abbrev cX6_kind : ByteArray := prog_1_method_14_code
def yX6_kind : MethodName := ⟨RX6, "kind", "(I)I"⟩
abbrev cX6_depth : ByteArray := prog_1_method_15_code
def yX6_depth : MethodName := ⟨RX6, "depth", "(I)I"⟩
abbrev cX6_partner : ByteArray := prog_1_method_16_code
def yX6_partner : MethodName := ⟨RX6, "partner", "(I)I"⟩
abbrev cX6_wrong : ByteArray := prog_1_method_17_code
def yX6_wrong : MethodName := ⟨RX6, "wrong", "(II)I"⟩
abbrev cX6_quote : ByteArray := prog_1_method_18_code
def yX6_quote : MethodName := ⟨RX6, "quote", "(II)I"⟩
abbrev cX6_said : ByteArray := prog_1_method_19_code
def yX6_said : MethodName := ⟨RX6, "said", "(I)I"⟩
abbrev cX6_paragraph : ByteArray := prog_1_method_20_code
def yX6_paragraph : MethodName := ⟨RX6, "paragraph", "(II)I"⟩
abbrev cX6_least : ByteArray := prog_1_method_21_code
def yX6_least : MethodName := ⟨RX6, "least", "()I"⟩
abbrev cX6_changes : ByteArray := prog_1_method_22_code
def yX6_changes : MethodName := ⟨RX6, "changes", "(I)I"⟩
abbrev cX6_mended : ByteArray := prog_1_method_23_code
def yX6_mended : MethodName := ⟨RX6, "mended", "(I)I"⟩
abbrev cX6_mend : ByteArray := prog_1_method_24_code
def yX6_mend : MethodName := ⟨RX6, "mend", "()I"⟩
abbrev cX6_would : ByteArray := prog_1_method_25_code
def yX6_would : MethodName := ⟨RX6, "would", "(II)I"⟩
abbrev cX6_retell : ByteArray := prog_1_method_26_code
def yX6_retell : MethodName := ⟨RX6, "retell", "(I)I"⟩
abbrev cX6_count : ByteArray := prog_1_method_27_code
def yX6_count : MethodName := ⟨RX6, "count", "(I)I"⟩
abbrev cX6_beginChange : ByteArray := prog_1_method_28_code
def yX6_beginChange : MethodName := ⟨RX6, "beginChange", "()V"⟩
abbrev cX6_outdate : ByteArray := prog_1_method_29_code
def yX6_outdate : MethodName := ⟨RX6, "outdate", "()V"⟩
abbrev cX6_freshReading : ByteArray := prog_1_method_30_code
def yX6_freshReading : MethodName := ⟨RX6, "freshReading", "()LSpeechMarks$Reading;"⟩
abbrev cX6_freshMending : ByteArray := prog_1_method_31_code
def yX6_freshMending : MethodName := ⟨RX6, "freshMending", "()LSpeechMarks$Mending;"⟩
abbrev cX6_retellSign : ByteArray := prog_1_method_32_code
def yX6_retellSign : MethodName := ⟨RX6, "retellSign", "(II)V"⟩
abbrev cX6_tongueNamed : ByteArray := prog_1_method_33_code
def yX6_tongueNamed : MethodName := ⟨RX6, "tongueNamed", "()I"⟩
abbrev cX6_textIs : ByteArray := prog_1_method_34_code
def yX6_textIs : MethodName := ⟨RX6, "textIs", "(Ljava/lang/String;)Z"⟩
abbrev cX6_nameOf : ByteArray := prog_1_method_35_code
def yX6_nameOf : MethodName := ⟨RX6, "nameOf", "(I)Ljava/lang/String;"⟩
abbrev cX6_fact : ByteArray := prog_1_method_36_code
def yX6_fact : MethodName := ⟨RX6, "fact", "(LSpeechMarks$Row;IIII)I"⟩
abbrev cX6_isBelow : ByteArray := prog_1_method_37_code
def yX6_isBelow : MethodName := ⟨RX6, "isBelow", "(II)Z"⟩
abbrev cX6_isSign : ByteArray := prog_1_method_38_code
def yX6_isSign : MethodName := ⟨RX6, "isSign", "(I)Z"⟩
abbrev cX6_isLetter : ByteArray := prog_1_method_39_code
def yX6_isLetter : MethodName := ⟨RX6, "isLetter", "(I)Z"⟩
abbrev cX6_isMark : ByteArray := prog_1_method_40_code
def yX6_isMark : MethodName := ⟨RX6, "isMark", "(I)Z"⟩
abbrev cX6_openerOf : ByteArray := prog_1_method_41_code
def yX6_openerOf : MethodName := ⟨RX6, "openerOf", "(II)I"⟩
abbrev cX6_closerOf : ByteArray := prog_1_method_42_code
def yX6_closerOf : MethodName := ⟨RX6, "closerOf", "(II)I"⟩
abbrev cX6_pairSign : ByteArray := prog_1_method_43_code
def yX6_pairSign : MethodName := ⟨RX6, "pairSign", "(II)I"⟩
def RX7 : String := "SpeechMarksModel"
def TX7 : u_T := fun k => match k with
  | 0 => ("SpeechMarksModel", "length", "I", false)
  | 1 => ("SpeechMarksModel", "text", "[I", true)
  | 2 => ("SpeechMarksModel", "now", "[I", true)
  | 3 => ("SpeechMarksModel", "before", "[I", true)
  | 4 => ("SpeechMarksModel", "undoMany", "I", false)
  | 5 => ("SpeechMarksModel", "kind", "[I", true)
  | 6 => ("SpeechMarksModel", "deep", "[I", true)
  | 7 => ("SpeechMarksModel", "partner", "[I", true)
  | 8 => ("SpeechMarksModel", "wrongs", "I", false)
  | 9 => ("SpeechMarksModel", "wrongAt", "[I", true)
  | 10 => ("SpeechMarksModel", "wrongBy", "[I", true)
  | 11 => ("SpeechMarksModel", "quotes", "I", false)
  | 12 => ("SpeechMarksModel", "quoteAt", "[I", true)
  | 13 => ("SpeechMarksModel", "least", "[I", true)
  | 14 => ("SpeechMarksModel", "mendedMany", "I", false)
  | 15 => ("SpeechMarksModel", "mended", "[I", true)
  | _ => ("SpeechMarksModel", "change", "[I", true)
def tyX7 : Nat → FieldType := fun k => match k with
  | 0 => .int
  | 1 => .array .int
  | 2 => .array .int
  | 3 => .array .int
  | 4 => .int
  | 5 => .array .int
  | 6 => .array .int
  | 7 => .array .int
  | 8 => .int
  | 9 => .array .int
  | 10 => .array .int
  | 11 => .int
  | 12 => .array .int
  | 13 => .array .int
  | 14 => .int
  | 15 => .array .int
  | _ => .array .int
abbrev wsX70 : List Cond := u_ws RX7 TX7 17
theorem nmX7 : ∀ a, a < 17 → ∀ b, b < 17 → a ≠ b → (TX7 a).2.1 ≠ (TX7 b).2.1 := by decide +kernel
theorem tyX7_ok : ∀ k, k < 17 → parseFieldDescriptor (TX7 k).2.2.1 = some (tyX7 k) := by decide +kernel
abbrev cX7_init : ByteArray := prog_9_method_1_code
def yX7_init : MethodName := ⟨RX7, "<init>", "()V"⟩
abbrev cX7_in : ByteArray := prog_9_method_2_code
def yX7_in : MethodName := ⟨RX7, "in", "(JJJ)Z"⟩
abbrev cX7_isMark : ByteArray := prog_9_method_3_code
def yX7_isMark : MethodName := ⟨RX7, "isMark", "(I)Z"⟩
abbrev cX7_isSign : ByteArray := prog_9_method_4_code
def yX7_isSign : MethodName := ⟨RX7, "isSign", "(I)Z"⟩
abbrev cX7_markOf : ByteArray := prog_9_method_5_code
def yX7_markOf : MethodName := ⟨RX7, "markOf", "(II)I"⟩
abbrev cX7_opener : ByteArray := prog_9_method_6_code
def yX7_opener : MethodName := ⟨RX7, "opener", "(II)I"⟩
abbrev cX7_closer : ByteArray := prog_9_method_7_code
def yX7_closer : MethodName := ⟨RX7, "closer", "(II)I"⟩
abbrev cX7_dueMany : ByteArray := prog_9_method_8_code
def yX7_dueMany : MethodName := ⟨RX7, "dueMany", "(II)I"⟩
abbrev cX7_dueSign : ByteArray := prog_9_method_9_code
def yX7_dueSign : MethodName := ⟨RX7, "dueSign", "(IIII)I"⟩
abbrev cX7_write : ByteArray := prog_9_method_10_code
def yX7_write : MethodName := ⟨RX7, "write", "(I)I"⟩
abbrev cX7_wipe : ByteArray := prog_9_method_11_code
def yX7_wipe : MethodName := ⟨RX7, "wipe", "()I"⟩
abbrev cX7_fault : ByteArray := prog_9_method_12_code
def yX7_fault : MethodName := ⟨RX7, "fault", "()I"⟩
abbrev cX7_lay : ByteArray := prog_9_method_13_code
def yX7_lay : MethodName := ⟨RX7, "lay", "()I"⟩
abbrev cX7_note : ByteArray := prog_9_method_14_code
def yX7_note : MethodName := ⟨RX7, "note", "()V"⟩
abbrev cX7_undo : ByteArray := prog_9_method_15_code
def yX7_undo : MethodName := ⟨RX7, "undo", "()I"⟩
abbrev cX7_nameLetter : ByteArray := prog_9_method_16_code
def yX7_nameLetter : MethodName := ⟨RX7, "nameLetter", "(II)I"⟩
abbrev cX7_isName : ByteArray := prog_9_method_17_code
def yX7_isName : MethodName := ⟨RX7, "isName", "(I)Z"⟩
abbrev cX7_tells : ByteArray := prog_9_method_18_code
def yX7_tells : MethodName := ⟨RX7, "tells", "(II)I"⟩
abbrev cX7_speak : ByteArray := prog_9_method_19_code
def yX7_speak : MethodName := ⟨RX7, "speak", "()I"⟩
abbrev cX7_rule : ByteArray := prog_9_method_20_code
def yX7_rule : MethodName := ⟨RX7, "rule", "(I)I"⟩
abbrev cX7_weigh : ByteArray := prog_9_method_21_code
def yX7_weigh : MethodName := ⟨RX7, "weigh", "(II)I"⟩
abbrev cX7_put : ByteArray := prog_9_method_22_code
def yX7_put : MethodName := ⟨RX7, "put", "(II)I"⟩
abbrev cX7_isPlace : ByteArray := prog_9_method_23_code
def yX7_isPlace : MethodName := ⟨RX7, "isPlace", "(I)Z"⟩
abbrev cX7_take : ByteArray := prog_9_method_24_code
def yX7_take : MethodName := ⟨RX7, "take", "(I)I"⟩
abbrev cX7_alter : ByteArray := prog_9_method_25_code
def yX7_alter : MethodName := ⟨RX7, "alter", "(II)I"⟩
abbrev cX7_wrong1 : ByteArray := prog_9_method_26_code
def yX7_wrong1 : MethodName := ⟨RX7, "wrong1", "(II)V"⟩
abbrev cX7_opened : ByteArray := prog_9_method_27_code
def yX7_opened : MethodName := ⟨RX7, "opened", "(I)I"⟩
abbrev cX7_read : ByteArray := prog_9_method_28_code
def yX7_read : MethodName := ⟨RX7, "read", "()V"⟩
abbrev cX7_sign : ByteArray := prog_9_method_29_code
def yX7_sign : MethodName := ⟨RX7, "sign", "(I)I"⟩
abbrev cX7_kind : ByteArray := prog_9_method_30_code
def yX7_kind : MethodName := ⟨RX7, "kind", "(I)I"⟩
abbrev cX7_depth : ByteArray := prog_9_method_31_code
def yX7_depth : MethodName := ⟨RX7, "depth", "(I)I"⟩
abbrev cX7_partner : ByteArray := prog_9_method_32_code
def yX7_partner : MethodName := ⟨RX7, "partner", "(I)I"⟩
abbrev cX7_wrong : ByteArray := prog_9_method_33_code
def yX7_wrong : MethodName := ⟨RX7, "wrong", "(II)I"⟩
abbrev cX7_quote : ByteArray := prog_9_method_34_code
def yX7_quote : MethodName := ⟨RX7, "quote", "(II)I"⟩
abbrev cX7_said : ByteArray := prog_9_method_35_code
def yX7_said : MethodName := ⟨RX7, "said", "(I)I"⟩
abbrev cX7_paragraph : ByteArray := prog_9_method_36_code
def yX7_paragraph : MethodName := ⟨RX7, "paragraph", "(II)I"⟩
abbrev cX7_at : ByteArray := prog_9_method_37_code
def yX7_at : MethodName := ⟨RX7, "at", "(III)I"⟩
abbrev cX7_stays : ByteArray := prog_9_method_38_code
def yX7_stays : MethodName := ⟨RX7, "stays", "(IIIII)I"⟩
abbrev cX7_becomes : ByteArray := prog_9_method_39_code
def yX7_becomes : MethodName := ⟨RX7, "becomes", "(IIII)I"⟩
abbrev cX7_taken : ByteArray := prog_9_method_40_code
def yX7_taken : MethodName := ⟨RX7, "taken", "(III)I"⟩
abbrev cX7_min : ByteArray := prog_9_method_41_code
def yX7_min : MethodName := ⟨RX7, "min", "(II)I"⟩
abbrev cX7_findLeast : ByteArray := prog_9_method_42_code
def yX7_findLeast : MethodName := ⟨RX7, "findLeast", "(II)I"⟩
abbrev cX7_puts : ByteArray := prog_9_method_43_code
def yX7_puts : MethodName := ⟨RX7, "puts", "(II)V"⟩
abbrev cX7_findMended : ByteArray := prog_9_method_44_code
def yX7_findMended : MethodName := ⟨RX7, "findMended", "()V"⟩
abbrev cX7_least : ByteArray := prog_9_method_45_code
def yX7_least : MethodName := ⟨RX7, "least", "()I"⟩
abbrev cX7_changes : ByteArray := prog_9_method_46_code
def yX7_changes : MethodName := ⟨RX7, "changes", "(I)I"⟩
abbrev cX7_mended : ByteArray := prog_9_method_47_code
def yX7_mended : MethodName := ⟨RX7, "mended", "(I)I"⟩
abbrev cX7_mend : ByteArray := prog_9_method_48_code
def yX7_mend : MethodName := ⟨RX7, "mend", "()I"⟩
abbrev cX7_would : ByteArray := prog_9_method_49_code
def yX7_would : MethodName := ⟨RX7, "would", "(II)I"⟩
abbrev cX7_retell : ByteArray := prog_9_method_50_code
def yX7_retell : MethodName := ⟨RX7, "retell", "(I)I"⟩
abbrev cX7_renewer : ByteArray := prog_9_method_51_code
def yX7_renewer : MethodName := ⟨RX7, "renewer", "(I)I"⟩
abbrev cX7_count : ByteArray := prog_9_method_52_code
def yX7_count : MethodName := ⟨RX7, "count", "(I)I"⟩
def RJ9 : String := "java/lang/Math"
def TJ9 : u_T := fun k => match k with
  | _ => ("", "", "", false)
def tyJ9 : Nat → FieldType := fun k => match k with
  | _ => .int
abbrev wsJ90 : List Cond := u_ws RJ9 TJ9 0
theorem nmJ9 : ∀ a, a < 0 → ∀ b, b < 0 → a ≠ b → (TJ9 a).2.1 ≠ (TJ9 b).2.1 := by decide +kernel
theorem tyJ9_ok : ∀ k, k < 0 → parseFieldDescriptor (TJ9 k).2.2.1 = some (tyJ9 k) := by decide +kernel
abbrev cJ9_max_7cf53 : ByteArray := prog_10_method_65_code
def yJ9_max_7cf53 : MethodName := ⟨RJ9, "max", "(II)I"⟩
abbrev cJ9_min_7cf53 : ByteArray := prog_10_method_69_code
def yJ9_min_7cf53 : MethodName := ⟨RJ9, "min", "(II)I"⟩
def RJ0 : String := "java/lang/String"
def TJ0 : u_T := fun k => match k with
  | _ => ("", "", "", false)
def tyJ0 : Nat → FieldType := fun k => match k with
  | _ => .int
abbrev wsJ00 : List Cond := u_ws RJ0 TJ0 0
theorem nmJ0 : ∀ a, a < 0 → ∀ b, b < 0 → a ≠ b → (TJ0 a).2.1 ≠ (TJ0 b).2.1 := by decide +kernel
theorem tyJ0_ok : ∀ k, k < 0 → parseFieldDescriptor (TJ0 k).2.2.1 = some (tyJ0 k) := by decide +kernel
abbrev cJ0_length_8abf5 : ByteArray := prog_11_method_54_code
def yJ0_length_8abf5 : MethodName := ⟨RJ0, "length", "()I"⟩
abbrev cJ0_charAt_5068e : ByteArray := prog_11_method_56_code
def yJ0_charAt_5068e : MethodName := ⟨RJ0, "charAt", "(I)C"⟩
abbrev cJ0_coder_7d493 : ByteArray := prog_11_method_152_code
def yJ0_coder_7d493 : MethodName := ⟨RJ0, "coder", "()B"⟩
abbrev cJ0_isLatin1_aae02 : ByteArray := prog_11_method_154_code
def yJ0_isLatin1_aae02 : MethodName := ⟨RJ0, "isLatin1", "()Z"⟩
abbrev cJ0_checkIndex_df160 : ByteArray := prog_11_method_155_code
def yJ0_checkIndex_df160 : MethodName := ⟨RJ0, "checkIndex", "(II)V"⟩
def RJ1 : String := "java/lang/StringLatin1"
def TJ1 : u_T := fun k => match k with
  | _ => ("", "", "", false)
def tyJ1 : Nat → FieldType := fun k => match k with
  | _ => .int
abbrev wsJ10 : List Cond := u_ws RJ1 TJ1 0
theorem nmJ1 : ∀ a, a < 0 → ∀ b, b < 0 → a ≠ b → (TJ1 a).2.1 ≠ (TJ1 b).2.1 := by decide +kernel
theorem tyJ1_ok : ∀ k, k < 0 → parseFieldDescriptor (TJ1 k).2.2.1 = some (tyJ1 k) := by decide +kernel
abbrev cJ1_charAt_3b067 : ByteArray := prog_12_method_2_code
def yJ1_charAt_3b067 : MethodName := ⟨RJ1, "charAt", "([BI)C"⟩
def RJ2 : String := "java/lang/StringUTF16"
def TJ2 : u_T := fun k => match k with
  | _ => ("", "", "", false)
def tyJ2 : Nat → FieldType := fun k => match k with
  | _ => .int
abbrev wsJ20 : List Cond := u_ws RJ2 TJ2 0
theorem nmJ2 : ∀ a, a < 0 → ∀ b, b < 0 → a ≠ b → (TJ2 a).2.1 ≠ (TJ2 b).2.1 := by decide +kernel
theorem tyJ2_ok : ∀ k, k < 0 → parseFieldDescriptor (TJ2 k).2.2.1 = some (tyJ2 k) := by decide +kernel
abbrev cJ2_getChar_3b067 : ByteArray := prog_13_method_5_code
def yJ2_getChar_3b067 : MethodName := ⟨RJ2, "getChar", "([BI)C"⟩
abbrev cJ2_length_9d52b : ByteArray := prog_13_method_6_code
def yJ2_length_9d52b : MethodName := ⟨RJ2, "length", "([B)I"⟩
abbrev cJ2_charAt_3b067 : ByteArray := prog_13_method_83_code
def yJ2_charAt_3b067 : MethodName := ⟨RJ2, "charAt", "([BI)C"⟩
abbrev cJ2_checkIndex_2214a : ByteArray := prog_13_method_91_code
def yJ2_checkIndex_2214a : MethodName := ⟨RJ2, "checkIndex", "(I[B)V"⟩
def RJ3 : String := "jdk/internal/util/Preconditions"
def TJ3 : u_T := fun k => match k with
  | _ => ("", "", "", false)
def tyJ3 : Nat → FieldType := fun k => match k with
  | _ => .int
abbrev wsJ30 : List Cond := u_ws RJ3 TJ3 0
theorem nmJ3 : ∀ a, a < 0 → ∀ b, b < 0 → a ≠ b → (TJ3 a).2.1 ≠ (TJ3 b).2.1 := by decide +kernel
theorem tyJ3_ok : ∀ k, k < 0 → parseFieldDescriptor (TJ3 k).2.2.1 = some (tyJ3 k) := by decide +kernel
abbrev cJ3_checkIndex_8e157 : ByteArray := prog_14_method_11_code
def yJ3_checkIndex_8e157 : MethodName := ⟨RJ3, "checkIndex", "(IILjava/util/function/BiFunction;)I"⟩
def RL : String := "SpeechMarksLaw"
abbrev cL_law : ByteArray := code
def yL_law : MethodName := ⟨RL, "law", "([I)Z"⟩
abbrev vwCl : List vw_C := [(RX0, TX0, 4), (RX1, TX1, 3), (RX2, TX2, 10), (RX3, TX3, 15), (RX4, TX4, 1), (RX5, TX5, 5), (RX6, TX6, 8), (RX7, TX7, 17)]
end
section
theorem dX0_init_0 : decode cX0_init 0 = .ok (.aload_n 0, 1) := by decide +kernel
theorem dX0_init_1 : decode cX0_init 1 = .ok (.invokespecial 3, 3) := by decide +kernel
theorem dX0_init_4 : decode cX0_init 4 = .ok (.aload_n 0, 1) := by decide +kernel
theorem dX0_init_5 : decode cX0_init 5 = .ok (.new 9, 3) := by decide +kernel
theorem dX0_init_8 : decode cX0_init 8 = .ok (.dup, 1) := by decide +kernel
theorem dX0_init_9 : decode cX0_init 9 = .ok (.bipush 98, 2) := by decide +kernel
theorem dX0_init_11 : decode cX0_init 11 = .ok (.invokespecial 11, 3) := by decide +kernel
theorem dX0_init_14 : decode cX0_init 14 = .ok (.putfield 14, 3) := by decide +kernel
theorem dX0_init_17 : decode cX0_init 17 = .ok (.aload_n 0, 1) := by decide +kernel
theorem dX0_init_18 : decode cX0_init 18 = .ok (.new 9, 3) := by decide +kernel
theorem dX0_init_21 : decode cX0_init 21 = .ok (.dup, 1) := by decide +kernel
theorem dX0_init_22 : decode cX0_init 22 = .ok (.bipush 98, 2) := by decide +kernel
theorem dX0_init_24 : decode cX0_init 24 = .ok (.invokespecial 11, 3) := by decide +kernel
theorem dX0_init_27 : decode cX0_init 27 = .ok (.putfield 20, 3) := by decide +kernel
theorem dX0_init_30 : decode cX0_init 30 = .ok (.aload_n 0, 1) := by decide +kernel
theorem dX0_init_31 : decode cX0_init 31 = .ok (.bipush (-4), 2) := by decide +kernel
theorem dX0_init_33 : decode cX0_init 33 = .ok (.putfield 23, 3) := by decide +kernel
theorem dX0_init_36 : decode cX0_init 36 = .ok (.aload_n 0, 1) := by decide +kernel
theorem dX0_init_37 : decode cX0_init 37 = .ok (.bipush (-4), 2) := by decide +kernel
theorem dX0_init_39 : decode cX0_init 39 = .ok (.putfield 27, 3) := by decide +kernel
theorem dX0_init_42 : decode cX0_init 42 = .ok (.return_, 1) := by decide +kernel
theorem dX0_speakAs_0 : decode cX0_speakAs 0 = .ok (.aload_n 0, 1) := by decide +kernel
theorem dX0_speakAs_1 : decode cX0_speakAs 1 = .ok (.getfield 23, 3) := by decide +kernel
theorem dX0_speakAs_4 : decode cX0_speakAs 4 = .ok (.iload_n 1, 1) := by decide +kernel
theorem dX0_speakAs_5 : decode cX0_speakAs 5 = .ok (.if_icmp .ne 12, 3) := by decide +kernel
theorem dX0_speakAs_8 : decode cX0_speakAs 8 = .ok (.aload_n 0, 1) := by decide +kernel
theorem dX0_speakAs_9 : decode cX0_speakAs 9 = .ok (.getfield 27, 3) := by decide +kernel
theorem dX0_speakAs_12 : decode cX0_speakAs 12 = .ok (.iload_n 2, 1) := by decide +kernel
theorem dX0_speakAs_13 : decode cX0_speakAs 13 = .ok (.if_icmp .ne 4, 3) := by decide +kernel
theorem dX0_speakAs_16 : decode cX0_speakAs 16 = .ok (.return_, 1) := by decide +kernel
theorem dX0_speakAs_17 : decode cX0_speakAs 17 = .ok (.aload_n 0, 1) := by decide +kernel
theorem dX0_speakAs_18 : decode cX0_speakAs 18 = .ok (.iload_n 1, 1) := by decide +kernel
theorem dX0_speakAs_19 : decode cX0_speakAs 19 = .ok (.putfield 23, 3) := by decide +kernel
theorem dX0_speakAs_22 : decode cX0_speakAs 22 = .ok (.aload_n 0, 1) := by decide +kernel
theorem dX0_speakAs_23 : decode cX0_speakAs 23 = .ok (.iload_n 2, 1) := by decide +kernel
theorem dX0_speakAs_24 : decode cX0_speakAs 24 = .ok (.putfield 27, 3) := by decide +kernel
theorem dX0_speakAs_27 : decode cX0_speakAs 27 = .ok (.iconst 0, 1) := by decide +kernel
theorem dX0_speakAs_28 : decode cX0_speakAs 28 = .ok (.istore_n 3, 1) := by decide +kernel
theorem dX0_speakAs_29 : decode cX0_speakAs 29 = .ok (.iload_n 3, 1) := by decide +kernel
theorem dX0_speakAs_30 : decode cX0_speakAs 30 = .ok (.bipush 6, 2) := by decide +kernel
theorem dX0_speakAs_32 : decode cX0_speakAs 32 = .ok (.if_icmp .gt 77, 3) := by decide +kernel
theorem dX0_speakAs_35 : decode cX0_speakAs 35 = .ok (.aload_n 0, 1) := by decide +kernel
theorem dX0_speakAs_36 : decode cX0_speakAs 36 = .ok (.iload_n 3, 1) := by decide +kernel
theorem dX0_speakAs_37 : decode cX0_speakAs 37 = .ok (.invokevirtual 30, 3) := by decide +kernel
theorem dX0_speakAs_40 : decode cX0_speakAs 40 = .ok (.aload_n 0, 1) := by decide +kernel
theorem dX0_speakAs_41 : decode cX0_speakAs 41 = .ok (.iload_n 3, 1) := by decide +kernel
theorem dX0_speakAs_42 : decode cX0_speakAs 42 = .ok (.invokevirtual 33, 3) := by decide +kernel
theorem dX0_speakAs_45 : decode cX0_speakAs 45 = .ok (.istore 4, 2) := by decide +kernel
theorem dX0_speakAs_47 : decode cX0_speakAs 47 = .ok (.iconst 1, 1) := by decide +kernel
theorem dX0_speakAs_48 : decode cX0_speakAs 48 = .ok (.istore 5, 2) := by decide +kernel
theorem dX0_speakAs_50 : decode cX0_speakAs 50 = .ok (.iload 5, 2) := by decide +kernel
theorem dX0_speakAs_52 : decode cX0_speakAs 52 = .ok (.iload 4, 2) := by decide +kernel
theorem dX0_speakAs_54 : decode cX0_speakAs 54 = .ok (.if_icmp .gt 49, 3) := by decide +kernel
theorem dX0_speakAs_57 : decode cX0_speakAs 57 = .ok (.iload_n 3, 1) := by decide +kernel
theorem dX0_speakAs_58 : decode cX0_speakAs 58 = .ok (.iload 5, 2) := by decide +kernel
theorem dX0_speakAs_60 : decode cX0_speakAs 60 = .ok (.invokestatic 37, 3) := by decide +kernel
theorem dX0_speakAs_63 : decode cX0_speakAs 63 = .ok (.istore 6, 2) := by decide +kernel
theorem dX0_speakAs_65 : decode cX0_speakAs 65 = .ok (.aload_n 0, 1) := by decide +kernel
theorem dX0_speakAs_66 : decode cX0_speakAs 66 = .ok (.iload 6, 2) := by decide +kernel
theorem dX0_speakAs_68 : decode cX0_speakAs 68 = .ok (.iconst 0, 1) := by decide +kernel
theorem dX0_speakAs_69 : decode cX0_speakAs 69 = .ok (.aload_n 0, 1) := by decide +kernel
theorem dX0_speakAs_70 : decode cX0_speakAs 70 = .ok (.getfield 23, 3) := by decide +kernel
theorem dX0_speakAs_73 : decode cX0_speakAs 73 = .ok (.iload 4, 2) := by decide +kernel
theorem dX0_speakAs_75 : decode cX0_speakAs 75 = .ok (.iload 5, 2) := by decide +kernel
theorem dX0_speakAs_77 : decode cX0_speakAs 77 = .ok (.isub, 1) := by decide +kernel
theorem dX0_speakAs_78 : decode cX0_speakAs 78 = .ok (.invokestatic 41, 3) := by decide +kernel
theorem dX0_speakAs_81 : decode cX0_speakAs 81 = .ok (.iload 6, 2) := by decide +kernel
theorem dX0_speakAs_83 : decode cX0_speakAs 83 = .ok (.iconst 1, 1) := by decide +kernel
theorem dX0_speakAs_84 : decode cX0_speakAs 84 = .ok (.isub, 1) := by decide +kernel
theorem dX0_speakAs_85 : decode cX0_speakAs 85 = .ok (.invokevirtual 44, 3) := by decide +kernel
theorem dX0_speakAs_88 : decode cX0_speakAs 88 = .ok (.aload_n 0, 1) := by decide +kernel
theorem dX0_speakAs_89 : decode cX0_speakAs 89 = .ok (.iload 6, 2) := by decide +kernel
theorem dX0_speakAs_91 : decode cX0_speakAs 91 = .ok (.iconst 1, 1) := by decide +kernel
theorem dX0_speakAs_92 : decode cX0_speakAs 92 = .ok (.iconst 0, 1) := by decide +kernel
theorem dX0_speakAs_93 : decode cX0_speakAs 93 = .ok (.iconst (-1), 1) := by decide +kernel
theorem dX0_speakAs_94 : decode cX0_speakAs 94 = .ok (.invokevirtual 44, 3) := by decide +kernel
theorem dX0_speakAs_97 : decode cX0_speakAs 97 = .ok (.iinc 5 1, 3) := by decide +kernel
theorem dX0_speakAs_100 : decode cX0_speakAs 100 = .ok (.goto (-50), 3) := by decide +kernel
theorem dX0_speakAs_103 : decode cX0_speakAs 103 = .ok (.iinc 3 1, 3) := by decide +kernel
theorem dX0_speakAs_106 : decode cX0_speakAs 106 = .ok (.goto (-77), 3) := by decide +kernel
theorem dX0_speakAs_109 : decode cX0_speakAs 109 = .ok (.return_, 1) := by decide +kernel
theorem dX0_learnFreeState_0 : decode cX0_learnFreeState 0 = .ok (.iload_n 1, 1) := by decide +kernel
theorem dX0_learnFreeState_1 : decode cX0_learnFreeState 1 = .ok (.iconst 0, 1) := by decide +kernel
theorem dX0_learnFreeState_2 : decode cX0_learnFreeState 2 = .ok (.invokestatic 37, 3) := by decide +kernel
theorem dX0_learnFreeState_5 : decode cX0_learnFreeState 5 = .ok (.istore_n 2, 1) := by decide +kernel
theorem dX0_learnFreeState_6 : decode cX0_learnFreeState 6 = .ok (.iload_n 1, 1) := by decide +kernel
theorem dX0_learnFreeState_7 : decode cX0_learnFreeState 7 = .ok (.bipush 6, 2) := by decide +kernel
theorem dX0_learnFreeState_9 : decode cX0_learnFreeState 9 = .ok (.if_icmp .ge 24, 3) := by decide +kernel
theorem dX0_learnFreeState_12 : decode cX0_learnFreeState 12 = .ok (.aload_n 0, 1) := by decide +kernel
theorem dX0_learnFreeState_13 : decode cX0_learnFreeState 13 = .ok (.iload_n 2, 1) := by decide +kernel
theorem dX0_learnFreeState_14 : decode cX0_learnFreeState 14 = .ok (.iconst 0, 1) := by decide +kernel
theorem dX0_learnFreeState_15 : decode cX0_learnFreeState 15 = .ok (.aload_n 0, 1) := by decide +kernel
theorem dX0_learnFreeState_16 : decode cX0_learnFreeState 16 = .ok (.getfield 23, 3) := by decide +kernel
theorem dX0_learnFreeState_19 : decode cX0_learnFreeState 19 = .ok (.iload_n 1, 1) := by decide +kernel
theorem dX0_learnFreeState_20 : decode cX0_learnFreeState 20 = .ok (.invokestatic 41, 3) := by decide +kernel
theorem dX0_learnFreeState_23 : decode cX0_learnFreeState 23 = .ok (.iload_n 2, 1) := by decide +kernel
theorem dX0_learnFreeState_24 : decode cX0_learnFreeState 24 = .ok (.bipush 7, 2) := by decide +kernel
theorem dX0_learnFreeState_26 : decode cX0_learnFreeState 26 = .ok (.iadd, 1) := by decide +kernel
theorem dX0_learnFreeState_27 : decode cX0_learnFreeState 27 = .ok (.invokevirtual 44, 3) := by decide +kernel
theorem dX0_learnFreeState_30 : decode cX0_learnFreeState 30 = .ok (.goto 11, 3) := by decide +kernel
theorem dX0_learnFreeState_33 : decode cX0_learnFreeState 33 = .ok (.aload_n 0, 1) := by decide +kernel
theorem dX0_learnFreeState_34 : decode cX0_learnFreeState 34 = .ok (.iload_n 2, 1) := by decide +kernel
theorem dX0_learnFreeState_35 : decode cX0_learnFreeState 35 = .ok (.iconst 0, 1) := by decide +kernel
theorem dX0_learnFreeState_36 : decode cX0_learnFreeState 36 = .ok (.iconst 0, 1) := by decide +kernel
theorem dX0_learnFreeState_37 : decode cX0_learnFreeState 37 = .ok (.iconst (-1), 1) := by decide +kernel
theorem dX0_learnFreeState_38 : decode cX0_learnFreeState 38 = .ok (.invokevirtual 44, 3) := by decide +kernel
theorem dX0_learnFreeState_41 : decode cX0_learnFreeState 41 = .ok (.iload_n 1, 1) := by decide +kernel
theorem dX0_learnFreeState_42 : decode cX0_learnFreeState 42 = .ok (.iconst 1, 1) := by decide +kernel
theorem dX0_learnFreeState_43 : decode cX0_learnFreeState 43 = .ok (.if_icmp .lt 24, 3) := by decide +kernel
theorem dX0_learnFreeState_46 : decode cX0_learnFreeState 46 = .ok (.aload_n 0, 1) := by decide +kernel
theorem dX0_learnFreeState_47 : decode cX0_learnFreeState 47 = .ok (.iload_n 2, 1) := by decide +kernel
theorem dX0_learnFreeState_48 : decode cX0_learnFreeState 48 = .ok (.iconst 1, 1) := by decide +kernel
theorem dX0_learnFreeState_49 : decode cX0_learnFreeState 49 = .ok (.aload_n 0, 1) := by decide +kernel
theorem dX0_learnFreeState_50 : decode cX0_learnFreeState 50 = .ok (.getfield 23, 3) := by decide +kernel
theorem dX0_learnFreeState_53 : decode cX0_learnFreeState 53 = .ok (.iload_n 1, 1) := by decide +kernel
theorem dX0_learnFreeState_54 : decode cX0_learnFreeState 54 = .ok (.invokestatic 48, 3) := by decide +kernel
theorem dX0_learnFreeState_57 : decode cX0_learnFreeState 57 = .ok (.iload_n 2, 1) := by decide +kernel
theorem dX0_learnFreeState_58 : decode cX0_learnFreeState 58 = .ok (.bipush 7, 2) := by decide +kernel
theorem dX0_learnFreeState_60 : decode cX0_learnFreeState 60 = .ok (.isub, 1) := by decide +kernel
theorem dX0_learnFreeState_61 : decode cX0_learnFreeState 61 = .ok (.invokevirtual 44, 3) := by decide +kernel
theorem dX0_learnFreeState_64 : decode cX0_learnFreeState 64 = .ok (.goto 11, 3) := by decide +kernel
theorem dX0_learnFreeState_67 : decode cX0_learnFreeState 67 = .ok (.aload_n 0, 1) := by decide +kernel
theorem dX0_learnFreeState_68 : decode cX0_learnFreeState 68 = .ok (.iload_n 2, 1) := by decide +kernel
theorem dX0_learnFreeState_69 : decode cX0_learnFreeState 69 = .ok (.iconst 1, 1) := by decide +kernel
theorem dX0_learnFreeState_70 : decode cX0_learnFreeState 70 = .ok (.iconst 0, 1) := by decide +kernel
theorem dX0_learnFreeState_71 : decode cX0_learnFreeState 71 = .ok (.iconst (-1), 1) := by decide +kernel
theorem dX0_learnFreeState_72 : decode cX0_learnFreeState 72 = .ok (.invokevirtual 44, 3) := by decide +kernel
theorem dX0_learnFreeState_75 : decode cX0_learnFreeState 75 = .ok (.return_, 1) := by decide +kernel
theorem dX0_offer_0 : decode cX0_offer 0 = .ok (.aload_n 0, 1) := by decide +kernel
theorem dX0_offer_1 : decode cX0_offer 1 = .ok (.getfield 14, 3) := by decide +kernel
theorem dX0_offer_4 : decode cX0_offer 4 = .ok (.iload_n 1, 1) := by decide +kernel
theorem dX0_offer_5 : decode cX0_offer 5 = .ok (.iconst 2, 1) := by decide +kernel
theorem dX0_offer_6 : decode cX0_offer 6 = .ok (.imul, 1) := by decide +kernel
theorem dX0_offer_7 : decode cX0_offer 7 = .ok (.iload_n 2, 1) := by decide +kernel
theorem dX0_offer_8 : decode cX0_offer 8 = .ok (.iadd, 1) := by decide +kernel
theorem dX0_offer_9 : decode cX0_offer 9 = .ok (.iload_n 3, 1) := by decide +kernel
theorem dX0_offer_10 : decode cX0_offer 10 = .ok (.invokevirtual 51, 3) := by decide +kernel
theorem dX0_offer_13 : decode cX0_offer 13 = .ok (.aload_n 0, 1) := by decide +kernel
theorem dX0_offer_14 : decode cX0_offer 14 = .ok (.getfield 20, 3) := by decide +kernel
theorem dX0_offer_17 : decode cX0_offer 17 = .ok (.iload_n 1, 1) := by decide +kernel
theorem dX0_offer_18 : decode cX0_offer 18 = .ok (.iconst 2, 1) := by decide +kernel
theorem dX0_offer_19 : decode cX0_offer 19 = .ok (.imul, 1) := by decide +kernel
theorem dX0_offer_20 : decode cX0_offer 20 = .ok (.iload_n 2, 1) := by decide +kernel
theorem dX0_offer_21 : decode cX0_offer 21 = .ok (.iadd, 1) := by decide +kernel
theorem dX0_offer_22 : decode cX0_offer 22 = .ok (.iload 4, 2) := by decide +kernel
theorem dX0_offer_24 : decode cX0_offer 24 = .ok (.invokevirtual 51, 3) := by decide +kernel
theorem dX0_offer_27 : decode cX0_offer 27 = .ok (.return_, 1) := by decide +kernel
theorem dX0_depthOf_0 : decode cX0_depthOf 0 = .ok (.iload_n 0, 1) := by decide +kernel
theorem dX0_depthOf_1 : decode cX0_depthOf 1 = .ok (.bipush 7, 2) := by decide +kernel
theorem dX0_depthOf_3 : decode cX0_depthOf 3 = .ok (.idiv, 1) := by decide +kernel
theorem dX0_depthOf_4 : decode cX0_depthOf 4 = .ok (.ireturn, 1) := by decide +kernel
theorem dX0_leftDue_0 : decode cX0_leftDue 0 = .ok (.iload_n 0, 1) := by decide +kernel
theorem dX0_leftDue_1 : decode cX0_leftDue 1 = .ok (.bipush 7, 2) := by decide +kernel
theorem dX0_leftDue_3 : decode cX0_leftDue 3 = .ok (.irem, 1) := by decide +kernel
theorem dX0_leftDue_4 : decode cX0_leftDue 4 = .ok (.ireturn, 1) := by decide +kernel
theorem dX0_stateOf_0 : decode cX0_stateOf 0 = .ok (.iload_n 0, 1) := by decide +kernel
theorem dX0_stateOf_1 : decode cX0_stateOf 1 = .ok (.bipush 7, 2) := by decide +kernel
theorem dX0_stateOf_3 : decode cX0_stateOf 3 = .ok (.imul, 1) := by decide +kernel
theorem dX0_stateOf_4 : decode cX0_stateOf 4 = .ok (.iload_n 1, 1) := by decide +kernel
theorem dX0_stateOf_5 : decode cX0_stateOf 5 = .ok (.iadd, 1) := by decide +kernel
theorem dX0_stateOf_6 : decode cX0_stateOf 6 = .ok (.ireturn, 1) := by decide +kernel
theorem dX0_dueBehindBreak_0 : decode cX0_dueBehindBreak 0 = .ok (.aload_n 0, 1) := by decide +kernel
theorem dX0_dueBehindBreak_1 : decode cX0_dueBehindBreak 1 = .ok (.getfield 27, 3) := by decide +kernel
theorem dX0_dueBehindBreak_4 : decode cX0_dueBehindBreak 4 = .ok (.ifCond .ne 5, 3) := by decide +kernel
theorem dX0_dueBehindBreak_7 : decode cX0_dueBehindBreak 7 = .ok (.iconst 0, 1) := by decide +kernel
theorem dX0_dueBehindBreak_8 : decode cX0_dueBehindBreak 8 = .ok (.ireturn, 1) := by decide +kernel
theorem dX0_dueBehindBreak_9 : decode cX0_dueBehindBreak 9 = .ok (.aload_n 0, 1) := by decide +kernel
theorem dX0_dueBehindBreak_10 : decode cX0_dueBehindBreak 10 = .ok (.getfield 27, 3) := by decide +kernel
theorem dX0_dueBehindBreak_13 : decode cX0_dueBehindBreak 13 = .ok (.iconst 1, 1) := by decide +kernel
theorem dX0_dueBehindBreak_14 : decode cX0_dueBehindBreak 14 = .ok (.if_icmp .ne 11, 3) := by decide +kernel
theorem dX0_dueBehindBreak_17 : decode cX0_dueBehindBreak 17 = .ok (.iload_n 1, 1) := by decide +kernel
theorem dX0_dueBehindBreak_18 : decode cX0_dueBehindBreak 18 = .ok (.iconst 1, 1) := by decide +kernel
theorem dX0_dueBehindBreak_19 : decode cX0_dueBehindBreak 19 = .ok (.invokestatic 55, 3) := by decide +kernel
theorem dX0_dueBehindBreak_22 : decode cX0_dueBehindBreak 22 = .ok (.goto 4, 3) := by decide +kernel
theorem dX0_dueBehindBreak_25 : decode cX0_dueBehindBreak 25 = .ok (.iload_n 1, 1) := by decide +kernel
theorem dX0_dueBehindBreak_26 : decode cX0_dueBehindBreak 26 = .ok (.ireturn, 1) := by decide +kernel
theorem dX0_firstDue_0 : decode cX0_firstDue 0 = .ok (.aload_n 0, 1) := by decide +kernel
theorem dX0_firstDue_1 : decode cX0_firstDue 1 = .ok (.iload_n 1, 1) := by decide +kernel
theorem dX0_firstDue_2 : decode cX0_firstDue 2 = .ok (.invokestatic 60, 3) := by decide +kernel
theorem dX0_firstDue_5 : decode cX0_firstDue 5 = .ok (.invokevirtual 33, 3) := by decide +kernel
theorem dX0_firstDue_8 : decode cX0_firstDue 8 = .ok (.iload_n 1, 1) := by decide +kernel
theorem dX0_firstDue_9 : decode cX0_firstDue 9 = .ok (.invokestatic 63, 3) := by decide +kernel
theorem dX0_firstDue_12 : decode cX0_firstDue 12 = .ok (.isub, 1) := by decide +kernel
theorem dX0_firstDue_13 : decode cX0_firstDue 13 = .ok (.ireturn, 1) := by decide +kernel
theorem dX0_offered_0 : decode cX0_offered 0 = .ok (.aload_n 0, 1) := by decide +kernel
theorem dX0_offered_1 : decode cX0_offered 1 = .ok (.getfield 14, 3) := by decide +kernel
theorem dX0_offered_4 : decode cX0_offered 4 = .ok (.iload_n 1, 1) := by decide +kernel
theorem dX0_offered_5 : decode cX0_offered 5 = .ok (.iconst 2, 1) := by decide +kernel
theorem dX0_offered_6 : decode cX0_offered 6 = .ok (.imul, 1) := by decide +kernel
theorem dX0_offered_7 : decode cX0_offered 7 = .ok (.iload_n 2, 1) := by decide +kernel
theorem dX0_offered_8 : decode cX0_offered 8 = .ok (.iadd, 1) := by decide +kernel
theorem dX0_offered_9 : decode cX0_offered 9 = .ok (.invokevirtual 66, 3) := by decide +kernel
theorem dX0_offered_12 : decode cX0_offered 12 = .ok (.ireturn, 1) := by decide +kernel
theorem dX0_behindOffer_0 : decode cX0_behindOffer 0 = .ok (.aload_n 0, 1) := by decide +kernel
theorem dX0_behindOffer_1 : decode cX0_behindOffer 1 = .ok (.getfield 20, 3) := by decide +kernel
theorem dX0_behindOffer_4 : decode cX0_behindOffer 4 = .ok (.iload_n 1, 1) := by decide +kernel
theorem dX0_behindOffer_5 : decode cX0_behindOffer 5 = .ok (.iconst 2, 1) := by decide +kernel
theorem dX0_behindOffer_6 : decode cX0_behindOffer 6 = .ok (.imul, 1) := by decide +kernel
theorem dX0_behindOffer_7 : decode cX0_behindOffer 7 = .ok (.iload_n 2, 1) := by decide +kernel
theorem dX0_behindOffer_8 : decode cX0_behindOffer 8 = .ok (.iadd, 1) := by decide +kernel
theorem dX0_behindOffer_9 : decode cX0_behindOffer 9 = .ok (.invokevirtual 66, 3) := by decide +kernel
theorem dX0_behindOffer_12 : decode cX0_behindOffer 12 = .ok (.ireturn, 1) := by decide +kernel
theorem dX0_step_0 : decode cX0_step 0 = .ok (.iload_n 1, 1) := by decide +kernel
theorem dX0_step_1 : decode cX0_step 1 = .ok (.invokestatic 63, 3) := by decide +kernel
theorem dX0_step_4 : decode cX0_step 4 = .ok (.ifCond .ne 35, 3) := by decide +kernel
theorem dX0_step_7 : decode cX0_step 7 = .ok (.iload_n 2, 1) := by decide +kernel
theorem dX0_step_8 : decode cX0_step 8 = .ok (.invokestatic 69, 3) := by decide +kernel
theorem dX0_step_11 : decode cX0_step 11 = .ok (.ifCond .ne 9, 3) := by decide +kernel
theorem dX0_step_14 : decode cX0_step 14 = .ok (.iload_n 2, 1) := by decide +kernel
theorem dX0_step_15 : decode cX0_step 15 = .ok (.bipush 32, 2) := by decide +kernel
theorem dX0_step_17 : decode cX0_step 17 = .ok (.if_icmp .ne 5, 3) := by decide +kernel
theorem dX0_step_20 : decode cX0_step 20 = .ok (.iload_n 1, 1) := by decide +kernel
theorem dX0_step_21 : decode cX0_step 21 = .ok (.ireturn, 1) := by decide +kernel
theorem dX0_step_22 : decode cX0_step 22 = .ok (.iload_n 2, 1) := by decide +kernel
theorem dX0_step_23 : decode cX0_step 23 = .ok (.bipush 124, 2) := by decide +kernel
theorem dX0_step_25 : decode cX0_step 25 = .ok (.if_icmp .ne 14, 3) := by decide +kernel
theorem dX0_step_28 : decode cX0_step 28 = .ok (.iload_n 1, 1) := by decide +kernel
theorem dX0_step_29 : decode cX0_step 29 = .ok (.aload_n 0, 1) := by decide +kernel
theorem dX0_step_30 : decode cX0_step 30 = .ok (.iload_n 1, 1) := by decide +kernel
theorem dX0_step_31 : decode cX0_step 31 = .ok (.invokestatic 60, 3) := by decide +kernel
theorem dX0_step_34 : decode cX0_step 34 = .ok (.invokevirtual 33, 3) := by decide +kernel
theorem dX0_step_37 : decode cX0_step 37 = .ok (.iadd, 1) := by decide +kernel
theorem dX0_step_38 : decode cX0_step 38 = .ok (.ireturn, 1) := by decide +kernel
theorem dX0_step_39 : decode cX0_step 39 = .ok (.iconst 0, 1) := by decide +kernel
theorem dX0_step_40 : decode cX0_step 40 = .ok (.istore_n 3, 1) := by decide +kernel
theorem dX0_step_41 : decode cX0_step 41 = .ok (.iload_n 3, 1) := by decide +kernel
theorem dX0_step_42 : decode cX0_step 42 = .ok (.iconst 2, 1) := by decide +kernel
theorem dX0_step_43 : decode cX0_step 43 = .ok (.if_icmp .ge 26, 3) := by decide +kernel
theorem dX0_step_46 : decode cX0_step 46 = .ok (.aload_n 0, 1) := by decide +kernel
theorem dX0_step_47 : decode cX0_step 47 = .ok (.iload_n 1, 1) := by decide +kernel
theorem dX0_step_48 : decode cX0_step 48 = .ok (.iload_n 3, 1) := by decide +kernel
theorem dX0_step_49 : decode cX0_step 49 = .ok (.invokevirtual 73, 3) := by decide +kernel
theorem dX0_step_52 : decode cX0_step 52 = .ok (.iload_n 2, 1) := by decide +kernel
theorem dX0_step_53 : decode cX0_step 53 = .ok (.if_icmp .ne 10, 3) := by decide +kernel
theorem dX0_step_56 : decode cX0_step 56 = .ok (.aload_n 0, 1) := by decide +kernel
theorem dX0_step_57 : decode cX0_step 57 = .ok (.iload_n 1, 1) := by decide +kernel
theorem dX0_step_58 : decode cX0_step 58 = .ok (.iload_n 3, 1) := by decide +kernel
theorem dX0_step_59 : decode cX0_step 59 = .ok (.invokevirtual 76, 3) := by decide +kernel
theorem dX0_step_62 : decode cX0_step 62 = .ok (.ireturn, 1) := by decide +kernel
theorem dX0_step_63 : decode cX0_step 63 = .ok (.iinc 3 1, 3) := by decide +kernel
theorem dX0_step_66 : decode cX0_step 66 = .ok (.goto (-25), 3) := by decide +kernel
theorem dX0_step_69 : decode cX0_step 69 = .ok (.iconst (-1), 1) := by decide +kernel
theorem dX0_step_70 : decode cX0_step 70 = .ok (.ireturn, 1) := by decide +kernel
theorem dX0_owns_0 : decode cX0_owns 0 = .ok (.iconst 0, 1) := by decide +kernel
theorem dX0_owns_1 : decode cX0_owns 1 = .ok (.istore_n 2, 1) := by decide +kernel
theorem dX0_owns_2 : decode cX0_owns 2 = .ok (.iload_n 2, 1) := by decide +kernel
theorem dX0_owns_3 : decode cX0_owns 3 = .ok (.iconst 4, 1) := by decide +kernel
theorem dX0_owns_4 : decode cX0_owns 4 = .ok (.if_icmp .ge 23, 3) := by decide +kernel
theorem dX0_owns_7 : decode cX0_owns 7 = .ok (.aload_n 0, 1) := by decide +kernel
theorem dX0_owns_8 : decode cX0_owns 8 = .ok (.getfield 23, 3) := by decide +kernel
theorem dX0_owns_11 : decode cX0_owns 11 = .ok (.iload_n 2, 1) := by decide +kernel
theorem dX0_owns_12 : decode cX0_owns 12 = .ok (.invokestatic 79, 3) := by decide +kernel
theorem dX0_owns_15 : decode cX0_owns 15 = .ok (.iload_n 1, 1) := by decide +kernel
theorem dX0_owns_16 : decode cX0_owns 16 = .ok (.if_icmp .ne 5, 3) := by decide +kernel
theorem dX0_owns_19 : decode cX0_owns 19 = .ok (.iconst 1, 1) := by decide +kernel
theorem dX0_owns_20 : decode cX0_owns 20 = .ok (.ireturn, 1) := by decide +kernel
theorem dX0_owns_21 : decode cX0_owns 21 = .ok (.iinc 2 1, 3) := by decide +kernel
theorem dX0_owns_24 : decode cX0_owns 24 = .ok (.goto (-22), 3) := by decide +kernel
theorem dX0_owns_27 : decode cX0_owns 27 = .ok (.iconst 0, 1) := by decide +kernel
theorem dX0_owns_28 : decode cX0_owns 28 = .ok (.ireturn, 1) := by decide +kernel
theorem dX1_init_0 : decode cX1_init 0 = .ok (.aload_n 0, 1) := by decide +kernel
theorem dX1_init_1 : decode cX1_init 1 = .ok (.invokespecial 3, 3) := by decide +kernel
theorem dX1_init_4 : decode cX1_init 4 = .ok (.aload_n 0, 1) := by decide +kernel
theorem dX1_init_5 : decode cX1_init 5 = .ok (.bipush 6, 2) := by decide +kernel
theorem dX1_init_7 : decode cX1_init 7 = .ok (.anewarray 9, 3) := by decide +kernel
theorem dX1_init_10 : decode cX1_init 10 = .ok (.putfield 11, 3) := by decide +kernel
theorem dX1_init_13 : decode cX1_init 13 = .ok (.iconst 0, 1) := by decide +kernel
theorem dX1_init_14 : decode cX1_init 14 = .ok (.istore_n 1, 1) := by decide +kernel
theorem dX1_init_15 : decode cX1_init 15 = .ok (.iload_n 1, 1) := by decide +kernel
theorem dX1_init_16 : decode cX1_init 16 = .ok (.aload_n 0, 1) := by decide +kernel
theorem dX1_init_17 : decode cX1_init 17 = .ok (.getfield 11, 3) := by decide +kernel
theorem dX1_init_20 : decode cX1_init 20 = .ok (.arraylength, 1) := by decide +kernel
theorem dX1_init_21 : decode cX1_init 21 = .ok (.if_icmp .ge 22, 3) := by decide +kernel
theorem dX1_init_24 : decode cX1_init 24 = .ok (.aload_n 0, 1) := by decide +kernel
theorem dX1_init_25 : decode cX1_init 25 = .ok (.getfield 11, 3) := by decide +kernel
theorem dX1_init_28 : decode cX1_init 28 = .ok (.iload_n 1, 1) := by decide +kernel
theorem dX1_init_29 : decode cX1_init 29 = .ok (.new 9, 3) := by decide +kernel
theorem dX1_init_32 : decode cX1_init 32 = .ok (.dup, 1) := by decide +kernel
theorem dX1_init_33 : decode cX1_init 33 = .ok (.invokespecial 17, 3) := by decide +kernel
theorem dX1_init_36 : decode cX1_init 36 = .ok (.aastore, 1) := by decide +kernel
theorem dX1_init_37 : decode cX1_init 37 = .ok (.iinc 1 1, 3) := by decide +kernel
theorem dX1_init_40 : decode cX1_init 40 = .ok (.goto (-25), 3) := by decide +kernel
theorem dX1_init_43 : decode cX1_init 43 = .ok (.aload_n 0, 1) := by decide +kernel
theorem dX1_init_44 : decode cX1_init 44 = .ok (.iconst 0, 1) := by decide +kernel
theorem dX1_init_45 : decode cX1_init 45 = .ok (.putfield 18, 3) := by decide +kernel
theorem dX1_init_48 : decode cX1_init 48 = .ok (.aload_n 0, 1) := by decide +kernel
theorem dX1_init_49 : decode cX1_init 49 = .ok (.iconst 0, 1) := by decide +kernel
theorem dX1_init_50 : decode cX1_init 50 = .ok (.putfield 22, 3) := by decide +kernel
theorem dX1_init_53 : decode cX1_init 53 = .ok (.return_, 1) := by decide +kernel
theorem dX1_keep_0 : decode cX1_keep 0 = .ok (.aload_n 0, 1) := by decide +kernel
theorem dX1_keep_1 : decode cX1_keep 1 = .ok (.aload_n 0, 1) := by decide +kernel
theorem dX1_keep_2 : decode cX1_keep 2 = .ok (.getfield 18, 3) := by decide +kernel
theorem dX1_keep_5 : decode cX1_keep 5 = .ok (.invokevirtual 25, 3) := by decide +kernel
theorem dX1_keep_8 : decode cX1_keep 8 = .ok (.astore_n 2, 1) := by decide +kernel
theorem dX1_keep_9 : decode cX1_keep 9 = .ok (.aload_n 2, 1) := by decide +kernel
theorem dX1_keep_10 : decode cX1_keep 10 = .ok (.ifnull 48, 3) := by decide +kernel
theorem dX1_keep_13 : decode cX1_keep 13 = .ok (.aload_n 2, 1) := by decide +kernel
theorem dX1_keep_14 : decode cX1_keep 14 = .ok (.aload_n 1, 1) := by decide +kernel
theorem dX1_keep_15 : decode cX1_keep 15 = .ok (.invokevirtual 29, 3) := by decide +kernel
theorem dX1_keep_18 : decode cX1_keep 18 = .ok (.aload_n 0, 1) := by decide +kernel
theorem dX1_keep_19 : decode cX1_keep 19 = .ok (.aload_n 0, 1) := by decide +kernel
theorem dX1_keep_20 : decode cX1_keep 20 = .ok (.getfield 18, 3) := by decide +kernel
theorem dX1_keep_23 : decode cX1_keep 23 = .ok (.iconst 1, 1) := by decide +kernel
theorem dX1_keep_24 : decode cX1_keep 24 = .ok (.iadd, 1) := by decide +kernel
theorem dX1_keep_25 : decode cX1_keep 25 = .ok (.bipush 6, 2) := by decide +kernel
theorem dX1_keep_27 : decode cX1_keep 27 = .ok (.if_icmp .ge 12, 3) := by decide +kernel
theorem dX1_keep_30 : decode cX1_keep 30 = .ok (.aload_n 0, 1) := by decide +kernel
theorem dX1_keep_31 : decode cX1_keep 31 = .ok (.getfield 18, 3) := by decide +kernel
theorem dX1_keep_34 : decode cX1_keep 34 = .ok (.iconst 1, 1) := by decide +kernel
theorem dX1_keep_35 : decode cX1_keep 35 = .ok (.iadd, 1) := by decide +kernel
theorem dX1_keep_36 : decode cX1_keep 36 = .ok (.goto 4, 3) := by decide +kernel
theorem dX1_keep_39 : decode cX1_keep 39 = .ok (.iconst 0, 1) := by decide +kernel
theorem dX1_keep_40 : decode cX1_keep 40 = .ok (.putfield 18, 3) := by decide +kernel
theorem dX1_keep_43 : decode cX1_keep 43 = .ok (.aload_n 0, 1) := by decide +kernel
theorem dX1_keep_44 : decode cX1_keep 44 = .ok (.aload_n 0, 1) := by decide +kernel
theorem dX1_keep_45 : decode cX1_keep 45 = .ok (.getfield 22, 3) := by decide +kernel
theorem dX1_keep_48 : decode cX1_keep 48 = .ok (.iconst 1, 1) := by decide +kernel
theorem dX1_keep_49 : decode cX1_keep 49 = .ok (.iadd, 1) := by decide +kernel
theorem dX1_keep_50 : decode cX1_keep 50 = .ok (.bipush 6, 2) := by decide +kernel
theorem dX1_keep_52 : decode cX1_keep 52 = .ok (.invokestatic 33, 3) := by decide +kernel
theorem dX1_keep_55 : decode cX1_keep 55 = .ok (.putfield 22, 3) := by decide +kernel
theorem dX1_keep_58 : decode cX1_keep 58 = .ok (.return_, 1) := by decide +kernel
theorem dX1_giveBack_0 : decode cX1_giveBack 0 = .ok (.aload_n 0, 1) := by decide +kernel
theorem dX1_giveBack_1 : decode cX1_giveBack 1 = .ok (.getfield 18, 3) := by decide +kernel
theorem dX1_giveBack_4 : decode cX1_giveBack 4 = .ok (.ifCond .le 12, 3) := by decide +kernel
theorem dX1_giveBack_7 : decode cX1_giveBack 7 = .ok (.aload_n 0, 1) := by decide +kernel
theorem dX1_giveBack_8 : decode cX1_giveBack 8 = .ok (.getfield 18, 3) := by decide +kernel
theorem dX1_giveBack_11 : decode cX1_giveBack 11 = .ok (.iconst 1, 1) := by decide +kernel
theorem dX1_giveBack_12 : decode cX1_giveBack 12 = .ok (.isub, 1) := by decide +kernel
theorem dX1_giveBack_13 : decode cX1_giveBack 13 = .ok (.goto 4, 3) := by decide +kernel
theorem dX1_giveBack_16 : decode cX1_giveBack 16 = .ok (.iconst 5, 1) := by decide +kernel
theorem dX1_giveBack_17 : decode cX1_giveBack 17 = .ok (.istore_n 2, 1) := by decide +kernel
theorem dX1_giveBack_18 : decode cX1_giveBack 18 = .ok (.aload_n 0, 1) := by decide +kernel
theorem dX1_giveBack_19 : decode cX1_giveBack 19 = .ok (.iload_n 2, 1) := by decide +kernel
theorem dX1_giveBack_20 : decode cX1_giveBack 20 = .ok (.invokevirtual 25, 3) := by decide +kernel
theorem dX1_giveBack_23 : decode cX1_giveBack 23 = .ok (.astore_n 3, 1) := by decide +kernel
theorem dX1_giveBack_24 : decode cX1_giveBack 24 = .ok (.aload_n 3, 1) := by decide +kernel
theorem dX1_giveBack_25 : decode cX1_giveBack 25 = .ok (.ifnull 30, 3) := by decide +kernel
theorem dX1_giveBack_28 : decode cX1_giveBack 28 = .ok (.aload_n 0, 1) := by decide +kernel
theorem dX1_giveBack_29 : decode cX1_giveBack 29 = .ok (.getfield 22, 3) := by decide +kernel
theorem dX1_giveBack_32 : decode cX1_giveBack 32 = .ok (.ifCond .le 23, 3) := by decide +kernel
theorem dX1_giveBack_35 : decode cX1_giveBack 35 = .ok (.aload_n 1, 1) := by decide +kernel
theorem dX1_giveBack_36 : decode cX1_giveBack 36 = .ok (.aload_n 3, 1) := by decide +kernel
theorem dX1_giveBack_37 : decode cX1_giveBack 37 = .ok (.invokevirtual 29, 3) := by decide +kernel
theorem dX1_giveBack_40 : decode cX1_giveBack 40 = .ok (.aload_n 0, 1) := by decide +kernel
theorem dX1_giveBack_41 : decode cX1_giveBack 41 = .ok (.iload_n 2, 1) := by decide +kernel
theorem dX1_giveBack_42 : decode cX1_giveBack 42 = .ok (.putfield 18, 3) := by decide +kernel
theorem dX1_giveBack_45 : decode cX1_giveBack 45 = .ok (.aload_n 0, 1) := by decide +kernel
theorem dX1_giveBack_46 : decode cX1_giveBack 46 = .ok (.dup, 1) := by decide +kernel
theorem dX1_giveBack_47 : decode cX1_giveBack 47 = .ok (.getfield 22, 3) := by decide +kernel
theorem dX1_giveBack_50 : decode cX1_giveBack 50 = .ok (.iconst 1, 1) := by decide +kernel
theorem dX1_giveBack_51 : decode cX1_giveBack 51 = .ok (.isub, 1) := by decide +kernel
theorem dX1_giveBack_52 : decode cX1_giveBack 52 = .ok (.putfield 22, 3) := by decide +kernel
theorem dX1_giveBack_55 : decode cX1_giveBack 55 = .ok (.return_, 1) := by decide +kernel
theorem dX1_forget_0 : decode cX1_forget 0 = .ok (.aload_n 0, 1) := by decide +kernel
theorem dX1_forget_1 : decode cX1_forget 1 = .ok (.iconst 0, 1) := by decide +kernel
theorem dX1_forget_2 : decode cX1_forget 2 = .ok (.putfield 22, 3) := by decide +kernel
theorem dX1_forget_5 : decode cX1_forget 5 = .ok (.return_, 1) := by decide +kernel
theorem dX1_slot_0 : decode cX1_slot 0 = .ok (.iload_n 1, 1) := by decide +kernel
theorem dX1_slot_1 : decode cX1_slot 1 = .ok (.ifCond .lt 21, 3) := by decide +kernel
theorem dX1_slot_4 : decode cX1_slot 4 = .ok (.iload_n 1, 1) := by decide +kernel
theorem dX1_slot_5 : decode cX1_slot 5 = .ok (.aload_n 0, 1) := by decide +kernel
theorem dX1_slot_6 : decode cX1_slot 6 = .ok (.getfield 11, 3) := by decide +kernel
theorem dX1_slot_9 : decode cX1_slot 9 = .ok (.arraylength, 1) := by decide +kernel
theorem dX1_slot_10 : decode cX1_slot 10 = .ok (.if_icmp .ge 12, 3) := by decide +kernel
theorem dX1_slot_13 : decode cX1_slot 13 = .ok (.aload_n 0, 1) := by decide +kernel
theorem dX1_slot_14 : decode cX1_slot 14 = .ok (.getfield 11, 3) := by decide +kernel
theorem dX1_slot_17 : decode cX1_slot 17 = .ok (.iload_n 1, 1) := by decide +kernel
theorem dX1_slot_18 : decode cX1_slot 18 = .ok (.aaload, 1) := by decide +kernel
theorem dX1_slot_19 : decode cX1_slot 19 = .ok (.goto 4, 3) := by decide +kernel
theorem dX1_slot_22 : decode cX1_slot 22 = .ok (.aconst_null, 1) := by decide +kernel
theorem dX1_slot_23 : decode cX1_slot 23 = .ok (.areturn, 1) := by decide +kernel
theorem dX2_init_0 : decode cX2_init 0 = .ok (.aload_n 0, 1) := by decide +kernel
theorem dX2_init_1 : decode cX2_init 1 = .ok (.invokespecial 3, 3) := by decide +kernel
theorem dX2_init_4 : decode cX2_init 4 = .ok (.aload_n 0, 1) := by decide +kernel
theorem dX2_init_5 : decode cX2_init 5 = .ok (.new 9, 3) := by decide +kernel
theorem dX2_init_8 : decode cX2_init 8 = .ok (.dup, 1) := by decide +kernel
theorem dX2_init_9 : decode cX2_init 9 = .ok (.invokespecial 11, 3) := by decide +kernel
theorem dX2_init_12 : decode cX2_init 12 = .ok (.putfield 12, 3) := by decide +kernel
theorem dX2_init_15 : decode cX2_init 15 = .ok (.aload_n 0, 1) := by decide +kernel
theorem dX2_init_16 : decode cX2_init 16 = .ok (.new 18, 3) := by decide +kernel
theorem dX2_init_19 : decode cX2_init 19 = .ok (.dup, 1) := by decide +kernel
theorem dX2_init_20 : decode cX2_init 20 = .ok (.bipush 120, 2) := by decide +kernel
theorem dX2_init_22 : decode cX2_init 22 = .ok (.invokespecial 20, 3) := by decide +kernel
theorem dX2_init_25 : decode cX2_init 25 = .ok (.putfield 23, 3) := by decide +kernel
theorem dX2_init_28 : decode cX2_init 28 = .ok (.aload_n 0, 1) := by decide +kernel
theorem dX2_init_29 : decode cX2_init 29 = .ok (.new 18, 3) := by decide +kernel
theorem dX2_init_32 : decode cX2_init 32 = .ok (.dup, 1) := by decide +kernel
theorem dX2_init_33 : decode cX2_init 33 = .ok (.iconst 3, 1) := by decide +kernel
theorem dX2_init_34 : decode cX2_init 34 = .ok (.invokespecial 20, 3) := by decide +kernel
theorem dX2_init_37 : decode cX2_init 37 = .ok (.putfield 27, 3) := by decide +kernel
theorem dX2_init_40 : decode cX2_init 40 = .ok (.aload_n 0, 1) := by decide +kernel
theorem dX2_init_41 : decode cX2_init 41 = .ok (.new 18, 3) := by decide +kernel
theorem dX2_init_44 : decode cX2_init 44 = .ok (.dup, 1) := by decide +kernel
theorem dX2_init_45 : decode cX2_init 45 = .ok (.sipush 5929, 3) := by decide +kernel
theorem dX2_init_48 : decode cX2_init 48 = .ok (.invokespecial 20, 3) := by decide +kernel
theorem dX2_init_51 : decode cX2_init 51 = .ok (.putfield 30, 3) := by decide +kernel
theorem dX2_init_54 : decode cX2_init 54 = .ok (.aload_n 0, 1) := by decide +kernel
theorem dX2_init_55 : decode cX2_init 55 = .ok (.new 18, 3) := by decide +kernel
theorem dX2_init_58 : decode cX2_init 58 = .ok (.dup, 1) := by decide +kernel
theorem dX2_init_59 : decode cX2_init 59 = .ok (.sipush 1200, 3) := by decide +kernel
theorem dX2_init_62 : decode cX2_init 62 = .ok (.invokespecial 20, 3) := by decide +kernel
theorem dX2_init_65 : decode cX2_init 65 = .ok (.putfield 33, 3) := by decide +kernel
theorem dX2_init_68 : decode cX2_init 68 = .ok (.aload_n 0, 1) := by decide +kernel
theorem dX2_init_69 : decode cX2_init 69 = .ok (.new 18, 3) := by decide +kernel
theorem dX2_init_72 : decode cX2_init 72 = .ok (.dup, 1) := by decide +kernel
theorem dX2_init_73 : decode cX2_init 73 = .ok (.iconst 3, 1) := by decide +kernel
theorem dX2_init_74 : decode cX2_init 74 = .ok (.invokespecial 20, 3) := by decide +kernel
theorem dX2_init_77 : decode cX2_init 77 = .ok (.putfield 36, 3) := by decide +kernel
theorem dX2_init_80 : decode cX2_init 80 = .ok (.aload_n 0, 1) := by decide +kernel
theorem dX2_init_81 : decode cX2_init 81 = .ok (.iconst 0, 1) := by decide +kernel
theorem dX2_init_82 : decode cX2_init 82 = .ok (.putfield 39, 3) := by decide +kernel
theorem dX2_init_85 : decode cX2_init 85 = .ok (.aload_n 0, 1) := by decide +kernel
theorem dX2_init_86 : decode cX2_init 86 = .ok (.iconst 0, 1) := by decide +kernel
theorem dX2_init_87 : decode cX2_init 87 = .ok (.putfield 43, 3) := by decide +kernel
theorem dX2_init_90 : decode cX2_init 90 = .ok (.return_, 1) := by decide +kernel
theorem dX2_leastSum_0 : decode cX2_leastSum 0 = .ok (.aload_n 0, 1) := by decide +kernel
theorem dX2_leastSum_1 : decode cX2_leastSum 1 = .ok (.iconst 0, 1) := by decide +kernel
theorem dX2_leastSum_2 : decode cX2_leastSum 2 = .ok (.iconst 0, 1) := by decide +kernel
theorem dX2_leastSum_3 : decode cX2_leastSum 3 = .ok (.invokevirtual 46, 3) := by decide +kernel
theorem dX2_leastSum_6 : decode cX2_leastSum 6 = .ok (.ireturn, 1) := by decide +kernel
theorem dX2_reckon_0 : decode cX2_reckon 0 = .ok (.aload_n 0, 1) := by decide +kernel
theorem dX2_reckon_1 : decode cX2_reckon 1 = .ok (.getfield 12, 3) := by decide +kernel
theorem dX2_reckon_4 : decode cX2_reckon 4 = .ok (.iload_n 2, 1) := by decide +kernel
theorem dX2_reckon_5 : decode cX2_reckon 5 = .ok (.iload_n 3, 1) := by decide +kernel
theorem dX2_reckon_6 : decode cX2_reckon 6 = .ok (.invokevirtual 50, 3) := by decide +kernel
theorem dX2_reckon_9 : decode cX2_reckon 9 = .ok (.aload_n 0, 1) := by decide +kernel
theorem dX2_reckon_10 : decode cX2_reckon 10 = .ok (.aload_n 1, 1) := by decide +kernel
theorem dX2_reckon_11 : decode cX2_reckon 11 = .ok (.getfield 54, 3) := by decide +kernel
theorem dX2_reckon_14 : decode cX2_reckon 14 = .ok (.putfield 39, 3) := by decide +kernel
theorem dX2_reckon_17 : decode cX2_reckon 17 = .ok (.aload_n 0, 1) := by decide +kernel
theorem dX2_reckon_18 : decode cX2_reckon 18 = .ok (.getfield 23, 3) := by decide +kernel
theorem dX2_reckon_21 : decode cX2_reckon 21 = .ok (.aload_n 1, 1) := by decide +kernel
theorem dX2_reckon_22 : decode cX2_reckon 22 = .ok (.getfield 57, 3) := by decide +kernel
theorem dX2_reckon_25 : decode cX2_reckon 25 = .ok (.aload_n 0, 1) := by decide +kernel
theorem dX2_reckon_26 : decode cX2_reckon 26 = .ok (.getfield 39, 3) := by decide +kernel
theorem dX2_reckon_29 : decode cX2_reckon 29 = .ok (.invokevirtual 58, 3) := by decide +kernel
theorem dX2_reckon_32 : decode cX2_reckon 32 = .ok (.aload_n 0, 1) := by decide +kernel
theorem dX2_reckon_33 : decode cX2_reckon 33 = .ok (.getfield 27, 3) := by decide +kernel
theorem dX2_reckon_36 : decode cX2_reckon 36 = .ok (.aload_n 1, 1) := by decide +kernel
theorem dX2_reckon_37 : decode cX2_reckon 37 = .ok (.getfield 62, 3) := by decide +kernel
theorem dX2_reckon_40 : decode cX2_reckon 40 = .ok (.iconst 3, 1) := by decide +kernel
theorem dX2_reckon_41 : decode cX2_reckon 41 = .ok (.invokevirtual 58, 3) := by decide +kernel
theorem dX2_reckon_44 : decode cX2_reckon 44 = .ok (.aload_n 0, 1) := by decide +kernel
theorem dX2_reckon_45 : decode cX2_reckon 45 = .ok (.getfield 39, 3) := by decide +kernel
theorem dX2_reckon_48 : decode cX2_reckon 48 = .ok (.istore 4, 2) := by decide +kernel
theorem dX2_reckon_50 : decode cX2_reckon 50 = .ok (.iload 4, 2) := by decide +kernel
theorem dX2_reckon_52 : decode cX2_reckon 52 = .ok (.ifCond .lt 21, 3) := by decide +kernel
theorem dX2_reckon_55 : decode cX2_reckon 55 = .ok (.aload_n 0, 1) := by decide +kernel
theorem dX2_reckon_56 : decode cX2_reckon 56 = .ok (.iload 4, 2) := by decide +kernel
theorem dX2_reckon_58 : decode cX2_reckon 58 = .ok (.invokevirtual 63, 3) := by decide +kernel
theorem dX2_reckon_61 : decode cX2_reckon 61 = .ok (.aload_n 0, 1) := by decide +kernel
theorem dX2_reckon_62 : decode cX2_reckon 62 = .ok (.iload 4, 2) := by decide +kernel
theorem dX2_reckon_64 : decode cX2_reckon 64 = .ok (.invokevirtual 66, 3) := by decide +kernel
theorem dX2_reckon_67 : decode cX2_reckon 67 = .ok (.iinc 4 (-1), 3) := by decide +kernel
theorem dX2_reckon_70 : decode cX2_reckon 70 = .ok (.goto (-20), 3) := by decide +kernel
theorem dX2_reckon_73 : decode cX2_reckon 73 = .ok (.return_, 1) := by decide +kernel
theorem dX2_reckonPlace_0 : decode cX2_reckonPlace 0 = .ok (.iload_n 1, 1) := by decide +kernel
theorem dX2_reckonPlace_1 : decode cX2_reckonPlace 1 = .ok (.aload_n 0, 1) := by decide +kernel
theorem dX2_reckonPlace_2 : decode cX2_reckonPlace 2 = .ok (.getfield 39, 3) := by decide +kernel
theorem dX2_reckonPlace_5 : decode cX2_reckonPlace 5 = .ok (.if_icmp .ge 21, 3) := by decide +kernel
theorem dX2_reckonPlace_8 : decode cX2_reckonPlace 8 = .ok (.aload_n 0, 1) := by decide +kernel
theorem dX2_reckonPlace_9 : decode cX2_reckonPlace 9 = .ok (.getfield 23, 3) := by decide +kernel
theorem dX2_reckonPlace_12 : decode cX2_reckonPlace 12 = .ok (.iload_n 1, 1) := by decide +kernel
theorem dX2_reckonPlace_13 : decode cX2_reckonPlace 13 = .ok (.invokevirtual 69, 3) := by decide +kernel
theorem dX2_reckonPlace_16 : decode cX2_reckonPlace 16 = .ok (.invokestatic 73, 3) := by decide +kernel
theorem dX2_reckonPlace_19 : decode cX2_reckonPlace 19 = .ok (.ifCond .eq 7, 3) := by decide +kernel
theorem dX2_reckonPlace_22 : decode cX2_reckonPlace 22 = .ok (.iconst 1, 1) := by decide +kernel
theorem dX2_reckonPlace_23 : decode cX2_reckonPlace 23 = .ok (.goto 4, 3) := by decide +kernel
theorem dX2_reckonPlace_26 : decode cX2_reckonPlace 26 = .ok (.iconst 0, 1) := by decide +kernel
theorem dX2_reckonPlace_27 : decode cX2_reckonPlace 27 = .ok (.istore_n 2, 1) := by decide +kernel
theorem dX2_reckonPlace_28 : decode cX2_reckonPlace 28 = .ok (.iconst 0, 1) := by decide +kernel
theorem dX2_reckonPlace_29 : decode cX2_reckonPlace 29 = .ok (.istore_n 3, 1) := by decide +kernel
theorem dX2_reckonPlace_30 : decode cX2_reckonPlace 30 = .ok (.iload_n 3, 1) := by decide +kernel
theorem dX2_reckonPlace_31 : decode cX2_reckonPlace 31 = .ok (.bipush 6, 2) := by decide +kernel
theorem dX2_reckonPlace_33 : decode cX2_reckonPlace 33 = .ok (.if_icmp .gt 82, 3) := by decide +kernel
theorem dX2_reckonPlace_36 : decode cX2_reckonPlace 36 = .ok (.aload_n 0, 1) := by decide +kernel
theorem dX2_reckonPlace_37 : decode cX2_reckonPlace 37 = .ok (.getfield 12, 3) := by decide +kernel
theorem dX2_reckonPlace_40 : decode cX2_reckonPlace 40 = .ok (.iload_n 3, 1) := by decide +kernel
theorem dX2_reckonPlace_41 : decode cX2_reckonPlace 41 = .ok (.invokevirtual 77, 3) := by decide +kernel
theorem dX2_reckonPlace_44 : decode cX2_reckonPlace 44 = .ok (.istore 4, 2) := by decide +kernel
theorem dX2_reckonPlace_46 : decode cX2_reckonPlace 46 = .ok (.iconst 0, 1) := by decide +kernel
theorem dX2_reckonPlace_47 : decode cX2_reckonPlace 47 = .ok (.istore 5, 2) := by decide +kernel
theorem dX2_reckonPlace_49 : decode cX2_reckonPlace 49 = .ok (.iload 5, 2) := by decide +kernel
theorem dX2_reckonPlace_51 : decode cX2_reckonPlace 51 = .ok (.iload 4, 2) := by decide +kernel
theorem dX2_reckonPlace_53 : decode cX2_reckonPlace 53 = .ok (.if_icmp .gt 56, 3) := by decide +kernel
theorem dX2_reckonPlace_56 : decode cX2_reckonPlace 56 = .ok (.iload_n 3, 1) := by decide +kernel
theorem dX2_reckonPlace_57 : decode cX2_reckonPlace 57 = .ok (.iload 5, 2) := by decide +kernel
theorem dX2_reckonPlace_59 : decode cX2_reckonPlace 59 = .ok (.invokestatic 80, 3) := by decide +kernel
theorem dX2_reckonPlace_62 : decode cX2_reckonPlace 62 = .ok (.istore 6, 2) := by decide +kernel
theorem dX2_reckonPlace_64 : decode cX2_reckonPlace 64 = .ok (.iload_n 2, 1) := by decide +kernel
theorem dX2_reckonPlace_65 : decode cX2_reckonPlace 65 = .ok (.ifCond .eq 13, 3) := by decide +kernel
theorem dX2_reckonPlace_68 : decode cX2_reckonPlace 68 = .ok (.aload_n 0, 1) := by decide +kernel
theorem dX2_reckonPlace_69 : decode cX2_reckonPlace 69 = .ok (.iload_n 1, 1) := by decide +kernel
theorem dX2_reckonPlace_70 : decode cX2_reckonPlace 70 = .ok (.iload 6, 2) := by decide +kernel
theorem dX2_reckonPlace_72 : decode cX2_reckonPlace 72 = .ok (.invokevirtual 83, 3) := by decide +kernel
theorem dX2_reckonPlace_75 : decode cX2_reckonPlace 75 = .ok (.goto 10, 3) := by decide +kernel
theorem dX2_reckonPlace_78 : decode cX2_reckonPlace 78 = .ok (.aload_n 0, 1) := by decide +kernel
theorem dX2_reckonPlace_79 : decode cX2_reckonPlace 79 = .ok (.iload_n 1, 1) := by decide +kernel
theorem dX2_reckonPlace_80 : decode cX2_reckonPlace 80 = .ok (.iload 6, 2) := by decide +kernel
theorem dX2_reckonPlace_82 : decode cX2_reckonPlace 82 = .ok (.invokevirtual 86, 3) := by decide +kernel
theorem dX2_reckonPlace_85 : decode cX2_reckonPlace 85 = .ok (.istore 7, 2) := by decide +kernel
theorem dX2_reckonPlace_87 : decode cX2_reckonPlace 87 = .ok (.aload_n 0, 1) := by decide +kernel
theorem dX2_reckonPlace_88 : decode cX2_reckonPlace 88 = .ok (.getfield 30, 3) := by decide +kernel
theorem dX2_reckonPlace_91 : decode cX2_reckonPlace 91 = .ok (.iload_n 1, 1) := by decide +kernel
theorem dX2_reckonPlace_92 : decode cX2_reckonPlace 92 = .ok (.bipush 49, 2) := by decide +kernel
theorem dX2_reckonPlace_94 : decode cX2_reckonPlace 94 = .ok (.imul, 1) := by decide +kernel
theorem dX2_reckonPlace_95 : decode cX2_reckonPlace 95 = .ok (.iload 6, 2) := by decide +kernel
theorem dX2_reckonPlace_97 : decode cX2_reckonPlace 97 = .ok (.iadd, 1) := by decide +kernel
theorem dX2_reckonPlace_98 : decode cX2_reckonPlace 98 = .ok (.iload 7, 2) := by decide +kernel
theorem dX2_reckonPlace_100 : decode cX2_reckonPlace 100 = .ok (.invokevirtual 89, 3) := by decide +kernel
theorem dX2_reckonPlace_103 : decode cX2_reckonPlace 103 = .ok (.iinc 5 1, 3) := by decide +kernel
theorem dX2_reckonPlace_106 : decode cX2_reckonPlace 106 = .ok (.goto (-57), 3) := by decide +kernel
theorem dX2_reckonPlace_109 : decode cX2_reckonPlace 109 = .ok (.iinc 3 1, 3) := by decide +kernel
theorem dX2_reckonPlace_112 : decode cX2_reckonPlace 112 = .ok (.goto (-82), 3) := by decide +kernel
theorem dX2_reckonPlace_115 : decode cX2_reckonPlace 115 = .ok (.return_, 1) := by decide +kernel
theorem dX2_costAtOther_0 : decode cX2_costAtOther 0 = .ok (.iload_n 1, 1) := by decide +kernel
theorem dX2_costAtOther_1 : decode cX2_costAtOther 1 = .ok (.aload_n 0, 1) := by decide +kernel
theorem dX2_costAtOther_2 : decode cX2_costAtOther 2 = .ok (.getfield 39, 3) := by decide +kernel
theorem dX2_costAtOther_5 : decode cX2_costAtOther 5 = .ok (.if_icmp .lt 14, 3) := by decide +kernel
theorem dX2_costAtOther_8 : decode cX2_costAtOther 8 = .ok (.iload_n 2, 1) := by decide +kernel
theorem dX2_costAtOther_9 : decode cX2_costAtOther 9 = .ok (.ifCond .ne 7, 3) := by decide +kernel
theorem dX2_costAtOther_12 : decode cX2_costAtOther 12 = .ok (.iconst 0, 1) := by decide +kernel
theorem dX2_costAtOther_13 : decode cX2_costAtOther 13 = .ok (.goto 5, 3) := by decide +kernel
theorem dX2_costAtOther_16 : decode cX2_costAtOther 16 = .ok (.ldc 92, 2) := by decide +kernel
theorem dX2_costAtOther_18 : decode cX2_costAtOther 18 = .ok (.ireturn, 1) := by decide +kernel
theorem dX2_costAtOther_19 : decode cX2_costAtOther 19 = .ok (.aload_n 0, 1) := by decide +kernel
theorem dX2_costAtOther_20 : decode cX2_costAtOther 20 = .ok (.getfield 12, 3) := by decide +kernel
theorem dX2_costAtOther_23 : decode cX2_costAtOther 23 = .ok (.iload_n 2, 1) := by decide +kernel
theorem dX2_costAtOther_24 : decode cX2_costAtOther 24 = .ok (.aload_n 0, 1) := by decide +kernel
theorem dX2_costAtOther_25 : decode cX2_costAtOther 25 = .ok (.getfield 23, 3) := by decide +kernel
theorem dX2_costAtOther_28 : decode cX2_costAtOther 28 = .ok (.iload_n 1, 1) := by decide +kernel
theorem dX2_costAtOther_29 : decode cX2_costAtOther 29 = .ok (.invokevirtual 69, 3) := by decide +kernel
theorem dX2_costAtOther_32 : decode cX2_costAtOther 32 = .ok (.invokevirtual 93, 3) := by decide +kernel
theorem dX2_costAtOther_35 : decode cX2_costAtOther 35 = .ok (.istore_n 3, 1) := by decide +kernel
theorem dX2_costAtOther_36 : decode cX2_costAtOther 36 = .ok (.iload_n 3, 1) := by decide +kernel
theorem dX2_costAtOther_37 : decode cX2_costAtOther 37 = .ok (.iconst (-1), 1) := by decide +kernel
theorem dX2_costAtOther_38 : decode cX2_costAtOther 38 = .ok (.if_icmp .eq 14, 3) := by decide +kernel
theorem dX2_costAtOther_41 : decode cX2_costAtOther 41 = .ok (.aload_n 0, 1) := by decide +kernel
theorem dX2_costAtOther_42 : decode cX2_costAtOther 42 = .ok (.iload_n 1, 1) := by decide +kernel
theorem dX2_costAtOther_43 : decode cX2_costAtOther 43 = .ok (.iconst 1, 1) := by decide +kernel
theorem dX2_costAtOther_44 : decode cX2_costAtOther 44 = .ok (.iadd, 1) := by decide +kernel
theorem dX2_costAtOther_45 : decode cX2_costAtOther 45 = .ok (.iload_n 3, 1) := by decide +kernel
theorem dX2_costAtOther_46 : decode cX2_costAtOther 46 = .ok (.invokevirtual 46, 3) := by decide +kernel
theorem dX2_costAtOther_49 : decode cX2_costAtOther 49 = .ok (.goto 5, 3) := by decide +kernel
theorem dX2_costAtOther_52 : decode cX2_costAtOther 52 = .ok (.ldc 92, 2) := by decide +kernel
theorem dX2_costAtOther_54 : decode cX2_costAtOther 54 = .ok (.ireturn, 1) := by decide +kernel
theorem dX2_costAtMark_0 : decode cX2_costAtMark 0 = .ok (.aload_n 0, 1) := by decide +kernel
theorem dX2_costAtMark_1 : decode cX2_costAtMark 1 = .ok (.getfield 23, 3) := by decide +kernel
theorem dX2_costAtMark_4 : decode cX2_costAtMark 4 = .ok (.iload_n 1, 1) := by decide +kernel
theorem dX2_costAtMark_5 : decode cX2_costAtMark 5 = .ok (.invokevirtual 69, 3) := by decide +kernel
theorem dX2_costAtMark_8 : decode cX2_costAtMark 8 = .ok (.istore_n 3, 1) := by decide +kernel
theorem dX2_costAtMark_9 : decode cX2_costAtMark 9 = .ok (.aload_n 0, 1) := by decide +kernel
theorem dX2_costAtMark_10 : decode cX2_costAtMark 10 = .ok (.getfield 27, 3) := by decide +kernel
theorem dX2_costAtMark_13 : decode cX2_costAtMark 13 = .ok (.iconst 1, 1) := by decide +kernel
theorem dX2_costAtMark_14 : decode cX2_costAtMark 14 = .ok (.invokevirtual 69, 3) := by decide +kernel
theorem dX2_costAtMark_17 : decode cX2_costAtMark 17 = .ok (.aload_n 0, 1) := by decide +kernel
theorem dX2_costAtMark_18 : decode cX2_costAtMark 18 = .ok (.iload_n 1, 1) := by decide +kernel
theorem dX2_costAtMark_19 : decode cX2_costAtMark 19 = .ok (.iconst 1, 1) := by decide +kernel
theorem dX2_costAtMark_20 : decode cX2_costAtMark 20 = .ok (.iadd, 1) := by decide +kernel
theorem dX2_costAtMark_21 : decode cX2_costAtMark 21 = .ok (.iload_n 2, 1) := by decide +kernel
theorem dX2_costAtMark_22 : decode cX2_costAtMark 22 = .ok (.invokevirtual 46, 3) := by decide +kernel
theorem dX2_costAtMark_25 : decode cX2_costAtMark 25 = .ok (.iadd, 1) := by decide +kernel
theorem dX2_costAtMark_26 : decode cX2_costAtMark 26 = .ok (.istore 4, 2) := by decide +kernel
theorem dX2_costAtMark_28 : decode cX2_costAtMark 28 = .ok (.iconst 0, 1) := by decide +kernel
theorem dX2_costAtMark_29 : decode cX2_costAtMark 29 = .ok (.istore 5, 2) := by decide +kernel
theorem dX2_costAtMark_31 : decode cX2_costAtMark 31 = .ok (.iload 5, 2) := by decide +kernel
theorem dX2_costAtMark_33 : decode cX2_costAtMark 33 = .ok (.iconst 2, 1) := by decide +kernel
theorem dX2_costAtMark_34 : decode cX2_costAtMark 34 = .ok (.if_icmp .ge 74, 3) := by decide +kernel
theorem dX2_costAtMark_37 : decode cX2_costAtMark 37 = .ok (.aload_n 0, 1) := by decide +kernel
theorem dX2_costAtMark_38 : decode cX2_costAtMark 38 = .ok (.getfield 12, 3) := by decide +kernel
theorem dX2_costAtMark_41 : decode cX2_costAtMark 41 = .ok (.iload_n 2, 1) := by decide +kernel
theorem dX2_costAtMark_42 : decode cX2_costAtMark 42 = .ok (.iload 5, 2) := by decide +kernel
theorem dX2_costAtMark_44 : decode cX2_costAtMark 44 = .ok (.invokevirtual 96, 3) := by decide +kernel
theorem dX2_costAtMark_47 : decode cX2_costAtMark 47 = .ok (.istore 6, 2) := by decide +kernel
theorem dX2_costAtMark_49 : decode cX2_costAtMark 49 = .ok (.iload 6, 2) := by decide +kernel
theorem dX2_costAtMark_51 : decode cX2_costAtMark 51 = .ok (.iconst (-1), 1) := by decide +kernel
theorem dX2_costAtMark_52 : decode cX2_costAtMark 52 = .ok (.if_icmp .eq 50, 3) := by decide +kernel
theorem dX2_costAtMark_55 : decode cX2_costAtMark 55 = .ok (.aload_n 0, 1) := by decide +kernel
theorem dX2_costAtMark_56 : decode cX2_costAtMark 56 = .ok (.getfield 12, 3) := by decide +kernel
theorem dX2_costAtMark_59 : decode cX2_costAtMark 59 = .ok (.iload_n 2, 1) := by decide +kernel
theorem dX2_costAtMark_60 : decode cX2_costAtMark 60 = .ok (.iload 5, 2) := by decide +kernel
theorem dX2_costAtMark_62 : decode cX2_costAtMark 62 = .ok (.invokevirtual 99, 3) := by decide +kernel
theorem dX2_costAtMark_65 : decode cX2_costAtMark 65 = .ok (.iload_n 3, 1) := by decide +kernel
theorem dX2_costAtMark_66 : decode cX2_costAtMark 66 = .ok (.if_icmp .ne 7, 3) := by decide +kernel
theorem dX2_costAtMark_69 : decode cX2_costAtMark 69 = .ok (.iconst 0, 1) := by decide +kernel
theorem dX2_costAtMark_70 : decode cX2_costAtMark 70 = .ok (.goto 11, 3) := by decide +kernel
theorem dX2_costAtMark_73 : decode cX2_costAtMark 73 = .ok (.aload_n 0, 1) := by decide +kernel
theorem dX2_costAtMark_74 : decode cX2_costAtMark 74 = .ok (.getfield 27, 3) := by decide +kernel
theorem dX2_costAtMark_77 : decode cX2_costAtMark 77 = .ok (.iconst 2, 1) := by decide +kernel
theorem dX2_costAtMark_78 : decode cX2_costAtMark 78 = .ok (.invokevirtual 69, 3) := by decide +kernel
theorem dX2_costAtMark_81 : decode cX2_costAtMark 81 = .ok (.istore 7, 2) := by decide +kernel
theorem dX2_costAtMark_83 : decode cX2_costAtMark 83 = .ok (.iload 4, 2) := by decide +kernel
theorem dX2_costAtMark_85 : decode cX2_costAtMark 85 = .ok (.iload 7, 2) := by decide +kernel
theorem dX2_costAtMark_87 : decode cX2_costAtMark 87 = .ok (.aload_n 0, 1) := by decide +kernel
theorem dX2_costAtMark_88 : decode cX2_costAtMark 88 = .ok (.iload_n 1, 1) := by decide +kernel
theorem dX2_costAtMark_89 : decode cX2_costAtMark 89 = .ok (.iconst 1, 1) := by decide +kernel
theorem dX2_costAtMark_90 : decode cX2_costAtMark 90 = .ok (.iadd, 1) := by decide +kernel
theorem dX2_costAtMark_91 : decode cX2_costAtMark 91 = .ok (.iload 6, 2) := by decide +kernel
theorem dX2_costAtMark_93 : decode cX2_costAtMark 93 = .ok (.invokevirtual 46, 3) := by decide +kernel
theorem dX2_costAtMark_96 : decode cX2_costAtMark 96 = .ok (.iadd, 1) := by decide +kernel
theorem dX2_costAtMark_97 : decode cX2_costAtMark 97 = .ok (.invokestatic 102, 3) := by decide +kernel
theorem dX2_costAtMark_100 : decode cX2_costAtMark 100 = .ok (.istore 4, 2) := by decide +kernel
theorem dX2_costAtMark_102 : decode cX2_costAtMark 102 = .ok (.iinc 5 1, 3) := by decide +kernel
theorem dX2_costAtMark_105 : decode cX2_costAtMark 105 = .ok (.goto (-74), 3) := by decide +kernel
theorem dX2_costAtMark_108 : decode cX2_costAtMark 108 = .ok (.iload 4, 2) := by decide +kernel
theorem dX2_costAtMark_110 : decode cX2_costAtMark 110 = .ok (.ireturn, 1) := by decide +kernel
theorem dX2_settlePuttingIn_0 : decode cX2_settlePuttingIn 0 = .ok (.iconst 1, 1) := by decide +kernel
theorem dX2_settlePuttingIn_1 : decode cX2_settlePuttingIn 1 = .ok (.istore_n 2, 1) := by decide +kernel
theorem dX2_settlePuttingIn_2 : decode cX2_settlePuttingIn 2 = .ok (.iload_n 2, 1) := by decide +kernel
theorem dX2_settlePuttingIn_3 : decode cX2_settlePuttingIn 3 = .ok (.bipush 6, 2) := by decide +kernel
theorem dX2_settlePuttingIn_5 : decode cX2_settlePuttingIn 5 = .ok (.if_icmp .gt 26, 3) := by decide +kernel
theorem dX2_settlePuttingIn_8 : decode cX2_settlePuttingIn 8 = .ok (.aload_n 0, 1) := by decide +kernel
theorem dX2_settlePuttingIn_9 : decode cX2_settlePuttingIn 9 = .ok (.iload_n 1, 1) := by decide +kernel
theorem dX2_settlePuttingIn_10 : decode cX2_settlePuttingIn 10 = .ok (.iload_n 2, 1) := by decide +kernel
theorem dX2_settlePuttingIn_11 : decode cX2_settlePuttingIn 11 = .ok (.iconst 0, 1) := by decide +kernel
theorem dX2_settlePuttingIn_12 : decode cX2_settlePuttingIn 12 = .ok (.invokestatic 80, 3) := by decide +kernel
theorem dX2_settlePuttingIn_15 : decode cX2_settlePuttingIn 15 = .ok (.iload_n 2, 1) := by decide +kernel
theorem dX2_settlePuttingIn_16 : decode cX2_settlePuttingIn 16 = .ok (.iconst 1, 1) := by decide +kernel
theorem dX2_settlePuttingIn_17 : decode cX2_settlePuttingIn 17 = .ok (.isub, 1) := by decide +kernel
theorem dX2_settlePuttingIn_18 : decode cX2_settlePuttingIn 18 = .ok (.iconst 0, 1) := by decide +kernel
theorem dX2_settlePuttingIn_19 : decode cX2_settlePuttingIn 19 = .ok (.invokestatic 80, 3) := by decide +kernel
theorem dX2_settlePuttingIn_22 : decode cX2_settlePuttingIn 22 = .ok (.invokevirtual 107, 3) := by decide +kernel
theorem dX2_settlePuttingIn_25 : decode cX2_settlePuttingIn 25 = .ok (.iinc 2 1, 3) := by decide +kernel
theorem dX2_settlePuttingIn_28 : decode cX2_settlePuttingIn 28 = .ok (.goto (-26), 3) := by decide +kernel
theorem dX2_settlePuttingIn_31 : decode cX2_settlePuttingIn 31 = .ok (.iconst 5, 1) := by decide +kernel
theorem dX2_settlePuttingIn_32 : decode cX2_settlePuttingIn 32 = .ok (.istore_n 2, 1) := by decide +kernel
theorem dX2_settlePuttingIn_33 : decode cX2_settlePuttingIn 33 = .ok (.iload_n 2, 1) := by decide +kernel
theorem dX2_settlePuttingIn_34 : decode cX2_settlePuttingIn 34 = .ok (.ifCond .lt 26, 3) := by decide +kernel
theorem dX2_settlePuttingIn_37 : decode cX2_settlePuttingIn 37 = .ok (.aload_n 0, 1) := by decide +kernel
theorem dX2_settlePuttingIn_38 : decode cX2_settlePuttingIn 38 = .ok (.iload_n 1, 1) := by decide +kernel
theorem dX2_settlePuttingIn_39 : decode cX2_settlePuttingIn 39 = .ok (.iload_n 2, 1) := by decide +kernel
theorem dX2_settlePuttingIn_40 : decode cX2_settlePuttingIn 40 = .ok (.iconst 0, 1) := by decide +kernel
theorem dX2_settlePuttingIn_41 : decode cX2_settlePuttingIn 41 = .ok (.invokestatic 80, 3) := by decide +kernel
theorem dX2_settlePuttingIn_44 : decode cX2_settlePuttingIn 44 = .ok (.iload_n 2, 1) := by decide +kernel
theorem dX2_settlePuttingIn_45 : decode cX2_settlePuttingIn 45 = .ok (.iconst 1, 1) := by decide +kernel
theorem dX2_settlePuttingIn_46 : decode cX2_settlePuttingIn 46 = .ok (.iadd, 1) := by decide +kernel
theorem dX2_settlePuttingIn_47 : decode cX2_settlePuttingIn 47 = .ok (.iconst 0, 1) := by decide +kernel
theorem dX2_settlePuttingIn_48 : decode cX2_settlePuttingIn 48 = .ok (.invokestatic 80, 3) := by decide +kernel
theorem dX2_settlePuttingIn_51 : decode cX2_settlePuttingIn 51 = .ok (.invokevirtual 107, 3) := by decide +kernel
theorem dX2_settlePuttingIn_54 : decode cX2_settlePuttingIn 54 = .ok (.iinc 2 (-1), 3) := by decide +kernel
theorem dX2_settlePuttingIn_57 : decode cX2_settlePuttingIn 57 = .ok (.goto (-24), 3) := by decide +kernel
theorem dX2_settlePuttingIn_60 : decode cX2_settlePuttingIn 60 = .ok (.iconst 1, 1) := by decide +kernel
theorem dX2_settlePuttingIn_61 : decode cX2_settlePuttingIn 61 = .ok (.istore_n 2, 1) := by decide +kernel
theorem dX2_settlePuttingIn_62 : decode cX2_settlePuttingIn 62 = .ok (.iload_n 2, 1) := by decide +kernel
theorem dX2_settlePuttingIn_63 : decode cX2_settlePuttingIn 63 = .ok (.bipush 6, 2) := by decide +kernel
theorem dX2_settlePuttingIn_65 : decode cX2_settlePuttingIn 65 = .ok (.if_icmp .gt 52, 3) := by decide +kernel
theorem dX2_settlePuttingIn_68 : decode cX2_settlePuttingIn 68 = .ok (.aload_n 0, 1) := by decide +kernel
theorem dX2_settlePuttingIn_69 : decode cX2_settlePuttingIn 69 = .ok (.getfield 12, 3) := by decide +kernel
theorem dX2_settlePuttingIn_72 : decode cX2_settlePuttingIn 72 = .ok (.iload_n 2, 1) := by decide +kernel
theorem dX2_settlePuttingIn_73 : decode cX2_settlePuttingIn 73 = .ok (.invokevirtual 77, 3) := by decide +kernel
theorem dX2_settlePuttingIn_76 : decode cX2_settlePuttingIn 76 = .ok (.istore_n 3, 1) := by decide +kernel
theorem dX2_settlePuttingIn_77 : decode cX2_settlePuttingIn 77 = .ok (.iconst 1, 1) := by decide +kernel
theorem dX2_settlePuttingIn_78 : decode cX2_settlePuttingIn 78 = .ok (.istore 4, 2) := by decide +kernel
theorem dX2_settlePuttingIn_80 : decode cX2_settlePuttingIn 80 = .ok (.iload 4, 2) := by decide +kernel
theorem dX2_settlePuttingIn_82 : decode cX2_settlePuttingIn 82 = .ok (.iload_n 3, 1) := by decide +kernel
theorem dX2_settlePuttingIn_83 : decode cX2_settlePuttingIn 83 = .ok (.if_icmp .gt 28, 3) := by decide +kernel
theorem dX2_settlePuttingIn_86 : decode cX2_settlePuttingIn 86 = .ok (.aload_n 0, 1) := by decide +kernel
theorem dX2_settlePuttingIn_87 : decode cX2_settlePuttingIn 87 = .ok (.iload_n 1, 1) := by decide +kernel
theorem dX2_settlePuttingIn_88 : decode cX2_settlePuttingIn 88 = .ok (.iload_n 2, 1) := by decide +kernel
theorem dX2_settlePuttingIn_89 : decode cX2_settlePuttingIn 89 = .ok (.iload 4, 2) := by decide +kernel
theorem dX2_settlePuttingIn_91 : decode cX2_settlePuttingIn 91 = .ok (.invokestatic 80, 3) := by decide +kernel
theorem dX2_settlePuttingIn_94 : decode cX2_settlePuttingIn 94 = .ok (.iload_n 2, 1) := by decide +kernel
theorem dX2_settlePuttingIn_95 : decode cX2_settlePuttingIn 95 = .ok (.iload 4, 2) := by decide +kernel
theorem dX2_settlePuttingIn_97 : decode cX2_settlePuttingIn 97 = .ok (.iconst 1, 1) := by decide +kernel
theorem dX2_settlePuttingIn_98 : decode cX2_settlePuttingIn 98 = .ok (.isub, 1) := by decide +kernel
theorem dX2_settlePuttingIn_99 : decode cX2_settlePuttingIn 99 = .ok (.invokestatic 80, 3) := by decide +kernel
theorem dX2_settlePuttingIn_102 : decode cX2_settlePuttingIn 102 = .ok (.invokevirtual 107, 3) := by decide +kernel
theorem dX2_settlePuttingIn_105 : decode cX2_settlePuttingIn 105 = .ok (.iinc 4 1, 3) := by decide +kernel
theorem dX2_settlePuttingIn_108 : decode cX2_settlePuttingIn 108 = .ok (.goto (-28), 3) := by decide +kernel
theorem dX2_settlePuttingIn_111 : decode cX2_settlePuttingIn 111 = .ok (.iinc 2 1, 3) := by decide +kernel
theorem dX2_settlePuttingIn_114 : decode cX2_settlePuttingIn 114 = .ok (.goto (-52), 3) := by decide +kernel
theorem dX2_settlePuttingIn_117 : decode cX2_settlePuttingIn 117 = .ok (.return_, 1) := by decide +kernel
theorem dX2_relax_0 : decode cX2_relax 0 = .ok (.aload_n 0, 1) := by decide +kernel
theorem dX2_relax_1 : decode cX2_relax 1 = .ok (.getfield 27, 3) := by decide +kernel
theorem dX2_relax_4 : decode cX2_relax 4 = .ok (.iconst 0, 1) := by decide +kernel
theorem dX2_relax_5 : decode cX2_relax 5 = .ok (.invokevirtual 69, 3) := by decide +kernel
theorem dX2_relax_8 : decode cX2_relax 8 = .ok (.aload_n 0, 1) := by decide +kernel
theorem dX2_relax_9 : decode cX2_relax 9 = .ok (.iload_n 1, 1) := by decide +kernel
theorem dX2_relax_10 : decode cX2_relax 10 = .ok (.iload_n 3, 1) := by decide +kernel
theorem dX2_relax_11 : decode cX2_relax 11 = .ok (.invokevirtual 46, 3) := by decide +kernel
theorem dX2_relax_14 : decode cX2_relax 14 = .ok (.iadd, 1) := by decide +kernel
theorem dX2_relax_15 : decode cX2_relax 15 = .ok (.istore 4, 2) := by decide +kernel
theorem dX2_relax_17 : decode cX2_relax 17 = .ok (.iload 4, 2) := by decide +kernel
theorem dX2_relax_19 : decode cX2_relax 19 = .ok (.aload_n 0, 1) := by decide +kernel
theorem dX2_relax_20 : decode cX2_relax 20 = .ok (.iload_n 1, 1) := by decide +kernel
theorem dX2_relax_21 : decode cX2_relax 21 = .ok (.iload_n 2, 1) := by decide +kernel
theorem dX2_relax_22 : decode cX2_relax 22 = .ok (.invokevirtual 46, 3) := by decide +kernel
theorem dX2_relax_25 : decode cX2_relax 25 = .ok (.if_icmp .ge 18, 3) := by decide +kernel
theorem dX2_relax_28 : decode cX2_relax 28 = .ok (.aload_n 0, 1) := by decide +kernel
theorem dX2_relax_29 : decode cX2_relax 29 = .ok (.getfield 30, 3) := by decide +kernel
theorem dX2_relax_32 : decode cX2_relax 32 = .ok (.iload_n 1, 1) := by decide +kernel
theorem dX2_relax_33 : decode cX2_relax 33 = .ok (.bipush 49, 2) := by decide +kernel
theorem dX2_relax_35 : decode cX2_relax 35 = .ok (.imul, 1) := by decide +kernel
theorem dX2_relax_36 : decode cX2_relax 36 = .ok (.iload_n 2, 1) := by decide +kernel
theorem dX2_relax_37 : decode cX2_relax 37 = .ok (.iadd, 1) := by decide +kernel
theorem dX2_relax_38 : decode cX2_relax 38 = .ok (.iload 4, 2) := by decide +kernel
theorem dX2_relax_40 : decode cX2_relax 40 = .ok (.invokevirtual 89, 3) := by decide +kernel
theorem dX2_relax_43 : decode cX2_relax 43 = .ok (.return_, 1) := by decide +kernel
theorem dX2_costAt_0 : decode cX2_costAt 0 = .ok (.aload_n 0, 1) := by decide +kernel
theorem dX2_costAt_1 : decode cX2_costAt 1 = .ok (.getfield 30, 3) := by decide +kernel
theorem dX2_costAt_4 : decode cX2_costAt 4 = .ok (.iload_n 1, 1) := by decide +kernel
theorem dX2_costAt_5 : decode cX2_costAt 5 = .ok (.bipush 49, 2) := by decide +kernel
theorem dX2_costAt_7 : decode cX2_costAt 7 = .ok (.imul, 1) := by decide +kernel
theorem dX2_costAt_8 : decode cX2_costAt 8 = .ok (.iload_n 2, 1) := by decide +kernel
theorem dX2_costAt_9 : decode cX2_costAt 9 = .ok (.iadd, 1) := by decide +kernel
theorem dX2_costAt_10 : decode cX2_costAt 10 = .ok (.invokevirtual 69, 3) := by decide +kernel
theorem dX2_costAt_13 : decode cX2_costAt 13 = .ok (.ireturn, 1) := by decide +kernel
theorem dX2_followLeastWay_0 : decode cX2_followLeastWay 0 = .ok (.aload_n 0, 1) := by decide +kernel
theorem dX2_followLeastWay_1 : decode cX2_followLeastWay 1 = .ok (.iconst 0, 1) := by decide +kernel
theorem dX2_followLeastWay_2 : decode cX2_followLeastWay 2 = .ok (.putfield 43, 3) := by decide +kernel
theorem dX2_followLeastWay_5 : decode cX2_followLeastWay 5 = .ok (.aload_n 0, 1) := by decide +kernel
theorem dX2_followLeastWay_6 : decode cX2_followLeastWay 6 = .ok (.iconst 0, 1) := by decide +kernel
theorem dX2_followLeastWay_7 : decode cX2_followLeastWay 7 = .ok (.putfield 111, 3) := by decide +kernel
theorem dX2_followLeastWay_10 : decode cX2_followLeastWay 10 = .ok (.aload_n 0, 1) := by decide +kernel
theorem dX2_followLeastWay_11 : decode cX2_followLeastWay 11 = .ok (.iconst 0, 1) := by decide +kernel
theorem dX2_followLeastWay_12 : decode cX2_followLeastWay 12 = .ok (.putfield 114, 3) := by decide +kernel
theorem dX2_followLeastWay_15 : decode cX2_followLeastWay 15 = .ok (.aload_n 0, 1) := by decide +kernel
theorem dX2_followLeastWay_16 : decode cX2_followLeastWay 16 = .ok (.getfield 36, 3) := by decide +kernel
theorem dX2_followLeastWay_19 : decode cX2_followLeastWay 19 = .ok (.iconst 0, 1) := by decide +kernel
theorem dX2_followLeastWay_20 : decode cX2_followLeastWay 20 = .ok (.invokevirtual 117, 3) := by decide +kernel
theorem dX2_followLeastWay_23 : decode cX2_followLeastWay 23 = .ok (.iconst 0, 1) := by decide +kernel
theorem dX2_followLeastWay_24 : decode cX2_followLeastWay 24 = .ok (.istore_n 1, 1) := by decide +kernel
theorem dX2_followLeastWay_25 : decode cX2_followLeastWay 25 = .ok (.iload_n 1, 1) := by decide +kernel
theorem dX2_followLeastWay_26 : decode cX2_followLeastWay 26 = .ok (.sipush 1200, 3) := by decide +kernel
theorem dX2_followLeastWay_29 : decode cX2_followLeastWay 29 = .ok (.if_icmp .ge 71, 3) := by decide +kernel
theorem dX2_followLeastWay_32 : decode cX2_followLeastWay 32 = .ok (.aload_n 0, 1) := by decide +kernel
theorem dX2_followLeastWay_33 : decode cX2_followLeastWay 33 = .ok (.invokevirtual 120, 3) := by decide +kernel
theorem dX2_followLeastWay_36 : decode cX2_followLeastWay 36 = .ok (.ifCond .ne 64, 3) := by decide +kernel
theorem dX2_followLeastWay_39 : decode cX2_followLeastWay 39 = .ok (.aload_n 0, 1) := by decide +kernel
theorem dX2_followLeastWay_40 : decode cX2_followLeastWay 40 = .ok (.invokevirtual 124, 3) := by decide +kernel
theorem dX2_followLeastWay_43 : decode cX2_followLeastWay 43 = .ok (.ifCond .ne 31, 3) := by decide +kernel
theorem dX2_followLeastWay_46 : decode cX2_followLeastWay 46 = .ok (.aload_n 0, 1) := by decide +kernel
theorem dX2_followLeastWay_47 : decode cX2_followLeastWay 47 = .ok (.invokevirtual 127, 3) := by decide +kernel
theorem dX2_followLeastWay_50 : decode cX2_followLeastWay 50 = .ok (.ifCond .eq 28, 3) := by decide +kernel
theorem dX2_followLeastWay_53 : decode cX2_followLeastWay 53 = .ok (.aload_n 0, 1) := by decide +kernel
theorem dX2_followLeastWay_54 : decode cX2_followLeastWay 54 = .ok (.iconst 2, 1) := by decide +kernel
theorem dX2_followLeastWay_55 : decode cX2_followLeastWay 55 = .ok (.aload_n 0, 1) := by decide +kernel
theorem dX2_followLeastWay_56 : decode cX2_followLeastWay 56 = .ok (.getfield 111, 3) := by decide +kernel
theorem dX2_followLeastWay_59 : decode cX2_followLeastWay 59 = .ok (.iconst 1, 1) := by decide +kernel
theorem dX2_followLeastWay_60 : decode cX2_followLeastWay 60 = .ok (.iadd, 1) := by decide +kernel
theorem dX2_followLeastWay_61 : decode cX2_followLeastWay 61 = .ok (.invokevirtual 130, 3) := by decide +kernel
theorem dX2_followLeastWay_64 : decode cX2_followLeastWay 64 = .ok (.ifCond .ne 10, 3) := by decide +kernel
theorem dX2_followLeastWay_67 : decode cX2_followLeastWay 67 = .ok (.aload_n 0, 1) := by decide +kernel
theorem dX2_followLeastWay_68 : decode cX2_followLeastWay 68 = .ok (.invokevirtual 134, 3) := by decide +kernel
theorem dX2_followLeastWay_71 : decode cX2_followLeastWay 71 = .ok (.ifCond .eq 7, 3) := by decide +kernel
theorem dX2_followLeastWay_74 : decode cX2_followLeastWay 74 = .ok (.iconst 1, 1) := by decide +kernel
theorem dX2_followLeastWay_75 : decode cX2_followLeastWay 75 = .ok (.goto 4, 3) := by decide +kernel
theorem dX2_followLeastWay_78 : decode cX2_followLeastWay 78 = .ok (.iconst 0, 1) := by decide +kernel
theorem dX2_followLeastWay_79 : decode cX2_followLeastWay 79 = .ok (.istore_n 2, 1) := by decide +kernel
theorem dX2_followLeastWay_80 : decode cX2_followLeastWay 80 = .ok (.iload_n 2, 1) := by decide +kernel
theorem dX2_followLeastWay_81 : decode cX2_followLeastWay 81 = .ok (.ifCond .ne 13, 3) := by decide +kernel
theorem dX2_followLeastWay_84 : decode cX2_followLeastWay 84 = .ok (.aload_n 0, 1) := by decide +kernel
theorem dX2_followLeastWay_85 : decode cX2_followLeastWay 85 = .ok (.iconst 0, 1) := by decide +kernel
theorem dX2_followLeastWay_86 : decode cX2_followLeastWay 86 = .ok (.aload_n 0, 1) := by decide +kernel
theorem dX2_followLeastWay_87 : decode cX2_followLeastWay 87 = .ok (.getfield 111, 3) := by decide +kernel
theorem dX2_followLeastWay_90 : decode cX2_followLeastWay 90 = .ok (.invokevirtual 130, 3) := by decide +kernel
theorem dX2_followLeastWay_93 : decode cX2_followLeastWay 93 = .ok (.pop, 1) := by decide +kernel
theorem dX2_followLeastWay_94 : decode cX2_followLeastWay 94 = .ok (.iinc 1 1, 3) := by decide +kernel
theorem dX2_followLeastWay_97 : decode cX2_followLeastWay 97 = .ok (.goto (-72), 3) := by decide +kernel
theorem dX2_followLeastWay_100 : decode cX2_followLeastWay 100 = .ok (.return_, 1) := by decide +kernel
theorem dX2_hasArrived_0 : decode cX2_hasArrived 0 = .ok (.aload_n 0, 1) := by decide +kernel
theorem dX2_hasArrived_1 : decode cX2_hasArrived 1 = .ok (.getfield 111, 3) := by decide +kernel
theorem dX2_hasArrived_4 : decode cX2_hasArrived 4 = .ok (.aload_n 0, 1) := by decide +kernel
theorem dX2_hasArrived_5 : decode cX2_hasArrived 5 = .ok (.getfield 39, 3) := by decide +kernel
theorem dX2_hasArrived_8 : decode cX2_hasArrived 8 = .ok (.if_icmp .lt 14, 3) := by decide +kernel
theorem dX2_hasArrived_11 : decode cX2_hasArrived 11 = .ok (.aload_n 0, 1) := by decide +kernel
theorem dX2_hasArrived_12 : decode cX2_hasArrived 12 = .ok (.getfield 114, 3) := by decide +kernel
theorem dX2_hasArrived_15 : decode cX2_hasArrived 15 = .ok (.ifCond .ne 7, 3) := by decide +kernel
theorem dX2_hasArrived_18 : decode cX2_hasArrived 18 = .ok (.iconst 1, 1) := by decide +kernel
theorem dX2_hasArrived_19 : decode cX2_hasArrived 19 = .ok (.goto 4, 3) := by decide +kernel
theorem dX2_hasArrived_22 : decode cX2_hasArrived 22 = .ok (.iconst 0, 1) := by decide +kernel
theorem dX2_hasArrived_23 : decode cX2_hasArrived 23 = .ok (.ireturn, 1) := by decide +kernel
theorem dX2_isAtMark_0 : decode cX2_isAtMark 0 = .ok (.aload_n 0, 1) := by decide +kernel
theorem dX2_isAtMark_1 : decode cX2_isAtMark 1 = .ok (.getfield 111, 3) := by decide +kernel
theorem dX2_isAtMark_4 : decode cX2_isAtMark 4 = .ok (.aload_n 0, 1) := by decide +kernel
theorem dX2_isAtMark_5 : decode cX2_isAtMark 5 = .ok (.getfield 39, 3) := by decide +kernel
theorem dX2_isAtMark_8 : decode cX2_isAtMark 8 = .ok (.if_icmp .ge 24, 3) := by decide +kernel
theorem dX2_isAtMark_11 : decode cX2_isAtMark 11 = .ok (.aload_n 0, 1) := by decide +kernel
theorem dX2_isAtMark_12 : decode cX2_isAtMark 12 = .ok (.getfield 23, 3) := by decide +kernel
theorem dX2_isAtMark_15 : decode cX2_isAtMark 15 = .ok (.aload_n 0, 1) := by decide +kernel
theorem dX2_isAtMark_16 : decode cX2_isAtMark 16 = .ok (.getfield 111, 3) := by decide +kernel
theorem dX2_isAtMark_19 : decode cX2_isAtMark 19 = .ok (.invokevirtual 69, 3) := by decide +kernel
theorem dX2_isAtMark_22 : decode cX2_isAtMark 22 = .ok (.invokestatic 73, 3) := by decide +kernel
theorem dX2_isAtMark_25 : decode cX2_isAtMark 25 = .ok (.ifCond .eq 7, 3) := by decide +kernel
theorem dX2_isAtMark_28 : decode cX2_isAtMark 28 = .ok (.iconst 1, 1) := by decide +kernel
theorem dX2_isAtMark_29 : decode cX2_isAtMark 29 = .ok (.goto 4, 3) := by decide +kernel
theorem dX2_isAtMark_32 : decode cX2_isAtMark 32 = .ok (.iconst 0, 1) := by decide +kernel
theorem dX2_isAtMark_33 : decode cX2_isAtMark 33 = .ok (.ireturn, 1) := by decide +kernel
theorem dX2_isLeast_0 : decode cX2_isLeast 0 = .ok (.iload_n 1, 1) := by decide +kernel
theorem dX2_isLeast_1 : decode cX2_isLeast 1 = .ok (.aload_n 0, 1) := by decide +kernel
theorem dX2_isLeast_2 : decode cX2_isLeast 2 = .ok (.iload_n 2, 1) := by decide +kernel
theorem dX2_isLeast_3 : decode cX2_isLeast 3 = .ok (.iload_n 3, 1) := by decide +kernel
theorem dX2_isLeast_4 : decode cX2_isLeast 4 = .ok (.invokevirtual 46, 3) := by decide +kernel
theorem dX2_isLeast_7 : decode cX2_isLeast 7 = .ok (.iadd, 1) := by decide +kernel
theorem dX2_isLeast_8 : decode cX2_isLeast 8 = .ok (.aload_n 0, 1) := by decide +kernel
theorem dX2_isLeast_9 : decode cX2_isLeast 9 = .ok (.aload_n 0, 1) := by decide +kernel
theorem dX2_isLeast_10 : decode cX2_isLeast 10 = .ok (.getfield 111, 3) := by decide +kernel
theorem dX2_isLeast_13 : decode cX2_isLeast 13 = .ok (.aload_n 0, 1) := by decide +kernel
theorem dX2_isLeast_14 : decode cX2_isLeast 14 = .ok (.getfield 114, 3) := by decide +kernel
theorem dX2_isLeast_17 : decode cX2_isLeast 17 = .ok (.invokevirtual 46, 3) := by decide +kernel
theorem dX2_isLeast_20 : decode cX2_isLeast 20 = .ok (.if_icmp .ne 7, 3) := by decide +kernel
theorem dX2_isLeast_23 : decode cX2_isLeast 23 = .ok (.iconst 1, 1) := by decide +kernel
theorem dX2_isLeast_24 : decode cX2_isLeast 24 = .ok (.goto 4, 3) := by decide +kernel
theorem dX2_isLeast_27 : decode cX2_isLeast 27 = .ok (.iconst 0, 1) := by decide +kernel
theorem dX2_isLeast_28 : decode cX2_isLeast 28 = .ok (.ireturn, 1) := by decide +kernel
theorem dX2_letStay_0 : decode cX2_letStay 0 = .ok (.aload_n 0, 1) := by decide +kernel
theorem dX2_letStay_1 : decode cX2_letStay 1 = .ok (.getfield 111, 3) := by decide +kernel
theorem dX2_letStay_4 : decode cX2_letStay 4 = .ok (.aload_n 0, 1) := by decide +kernel
theorem dX2_letStay_5 : decode cX2_letStay 5 = .ok (.getfield 39, 3) := by decide +kernel
theorem dX2_letStay_8 : decode cX2_letStay 8 = .ok (.if_icmp .lt 5, 3) := by decide +kernel
theorem dX2_letStay_11 : decode cX2_letStay 11 = .ok (.iconst 0, 1) := by decide +kernel
theorem dX2_letStay_12 : decode cX2_letStay 12 = .ok (.ireturn, 1) := by decide +kernel
theorem dX2_letStay_13 : decode cX2_letStay 13 = .ok (.aload_n 0, 1) := by decide +kernel
theorem dX2_letStay_14 : decode cX2_letStay 14 = .ok (.getfield 23, 3) := by decide +kernel
theorem dX2_letStay_17 : decode cX2_letStay 17 = .ok (.aload_n 0, 1) := by decide +kernel
theorem dX2_letStay_18 : decode cX2_letStay 18 = .ok (.getfield 111, 3) := by decide +kernel
theorem dX2_letStay_21 : decode cX2_letStay 21 = .ok (.invokevirtual 69, 3) := by decide +kernel
theorem dX2_letStay_24 : decode cX2_letStay 24 = .ok (.istore_n 1, 1) := by decide +kernel
theorem dX2_letStay_25 : decode cX2_letStay 25 = .ok (.aload_n 0, 1) := by decide +kernel
theorem dX2_letStay_26 : decode cX2_letStay 26 = .ok (.getfield 12, 3) := by decide +kernel
theorem dX2_letStay_29 : decode cX2_letStay 29 = .ok (.aload_n 0, 1) := by decide +kernel
theorem dX2_letStay_30 : decode cX2_letStay 30 = .ok (.getfield 114, 3) := by decide +kernel
theorem dX2_letStay_33 : decode cX2_letStay 33 = .ok (.iload_n 1, 1) := by decide +kernel
theorem dX2_letStay_34 : decode cX2_letStay 34 = .ok (.invokevirtual 93, 3) := by decide +kernel
theorem dX2_letStay_37 : decode cX2_letStay 37 = .ok (.istore_n 2, 1) := by decide +kernel
theorem dX2_letStay_38 : decode cX2_letStay 38 = .ok (.iload_n 2, 1) := by decide +kernel
theorem dX2_letStay_39 : decode cX2_letStay 39 = .ok (.iconst (-1), 1) := by decide +kernel
theorem dX2_letStay_40 : decode cX2_letStay 40 = .ok (.if_icmp .eq 18, 3) := by decide +kernel
theorem dX2_letStay_43 : decode cX2_letStay 43 = .ok (.aload_n 0, 1) := by decide +kernel
theorem dX2_letStay_44 : decode cX2_letStay 44 = .ok (.iconst 0, 1) := by decide +kernel
theorem dX2_letStay_45 : decode cX2_letStay 45 = .ok (.aload_n 0, 1) := by decide +kernel
theorem dX2_letStay_46 : decode cX2_letStay 46 = .ok (.getfield 111, 3) := by decide +kernel
theorem dX2_letStay_49 : decode cX2_letStay 49 = .ok (.iconst 1, 1) := by decide +kernel
theorem dX2_letStay_50 : decode cX2_letStay 50 = .ok (.iadd, 1) := by decide +kernel
theorem dX2_letStay_51 : decode cX2_letStay 51 = .ok (.iload_n 2, 1) := by decide +kernel
theorem dX2_letStay_52 : decode cX2_letStay 52 = .ok (.invokevirtual 137, 3) := by decide +kernel
theorem dX2_letStay_55 : decode cX2_letStay 55 = .ok (.ifCond .ne 5, 3) := by decide +kernel
theorem dX2_letStay_58 : decode cX2_letStay 58 = .ok (.iconst 0, 1) := by decide +kernel
theorem dX2_letStay_59 : decode cX2_letStay 59 = .ok (.ireturn, 1) := by decide +kernel
theorem dX2_letStay_60 : decode cX2_letStay 60 = .ok (.aload_n 0, 1) := by decide +kernel
theorem dX2_letStay_61 : decode cX2_letStay 61 = .ok (.iload_n 1, 1) := by decide +kernel
theorem dX2_letStay_62 : decode cX2_letStay 62 = .ok (.invokevirtual 141, 3) := by decide +kernel
theorem dX2_letStay_65 : decode cX2_letStay 65 = .ok (.aload_n 0, 1) := by decide +kernel
theorem dX2_letStay_66 : decode cX2_letStay 66 = .ok (.aload_n 0, 1) := by decide +kernel
theorem dX2_letStay_67 : decode cX2_letStay 67 = .ok (.getfield 111, 3) := by decide +kernel
theorem dX2_letStay_70 : decode cX2_letStay 70 = .ok (.iconst 1, 1) := by decide +kernel
theorem dX2_letStay_71 : decode cX2_letStay 71 = .ok (.iadd, 1) := by decide +kernel
theorem dX2_letStay_72 : decode cX2_letStay 72 = .ok (.iload_n 2, 1) := by decide +kernel
theorem dX2_letStay_73 : decode cX2_letStay 73 = .ok (.invokevirtual 144, 3) := by decide +kernel
theorem dX2_letStay_76 : decode cX2_letStay 76 = .ok (.iconst 1, 1) := by decide +kernel
theorem dX2_letStay_77 : decode cX2_letStay 77 = .ok (.ireturn, 1) := by decide +kernel
theorem dX2_leaveOut_0 : decode cX2_leaveOut 0 = .ok (.aload_n 0, 1) := by decide +kernel
theorem dX2_leaveOut_1 : decode cX2_leaveOut 1 = .ok (.aload_n 0, 1) := by decide +kernel
theorem dX2_leaveOut_2 : decode cX2_leaveOut 2 = .ok (.getfield 27, 3) := by decide +kernel
theorem dX2_leaveOut_5 : decode cX2_leaveOut 5 = .ok (.iconst 1, 1) := by decide +kernel
theorem dX2_leaveOut_6 : decode cX2_leaveOut 6 = .ok (.invokevirtual 69, 3) := by decide +kernel
theorem dX2_leaveOut_9 : decode cX2_leaveOut 9 = .ok (.aload_n 0, 1) := by decide +kernel
theorem dX2_leaveOut_10 : decode cX2_leaveOut 10 = .ok (.getfield 111, 3) := by decide +kernel
theorem dX2_leaveOut_13 : decode cX2_leaveOut 13 = .ok (.iconst 1, 1) := by decide +kernel
theorem dX2_leaveOut_14 : decode cX2_leaveOut 14 = .ok (.iadd, 1) := by decide +kernel
theorem dX2_leaveOut_15 : decode cX2_leaveOut 15 = .ok (.aload_n 0, 1) := by decide +kernel
theorem dX2_leaveOut_16 : decode cX2_leaveOut 16 = .ok (.getfield 114, 3) := by decide +kernel
theorem dX2_leaveOut_19 : decode cX2_leaveOut 19 = .ok (.invokevirtual 137, 3) := by decide +kernel
theorem dX2_leaveOut_22 : decode cX2_leaveOut 22 = .ok (.ifCond .ne 5, 3) := by decide +kernel
theorem dX2_leaveOut_25 : decode cX2_leaveOut 25 = .ok (.iconst 0, 1) := by decide +kernel
theorem dX2_leaveOut_26 : decode cX2_leaveOut 26 = .ok (.ireturn, 1) := by decide +kernel
theorem dX2_leaveOut_27 : decode cX2_leaveOut 27 = .ok (.aload_n 0, 1) := by decide +kernel
theorem dX2_leaveOut_28 : decode cX2_leaveOut 28 = .ok (.getfield 36, 3) := by decide +kernel
theorem dX2_leaveOut_31 : decode cX2_leaveOut 31 = .ok (.iconst 1, 1) := by decide +kernel
theorem dX2_leaveOut_32 : decode cX2_leaveOut 32 = .ok (.iconst 1, 1) := by decide +kernel
theorem dX2_leaveOut_33 : decode cX2_leaveOut 33 = .ok (.invokevirtual 147, 3) := by decide +kernel
theorem dX2_leaveOut_36 : decode cX2_leaveOut 36 = .ok (.aload_n 0, 1) := by decide +kernel
theorem dX2_leaveOut_37 : decode cX2_leaveOut 37 = .ok (.aload_n 0, 1) := by decide +kernel
theorem dX2_leaveOut_38 : decode cX2_leaveOut 38 = .ok (.getfield 111, 3) := by decide +kernel
theorem dX2_leaveOut_41 : decode cX2_leaveOut 41 = .ok (.iconst 1, 1) := by decide +kernel
theorem dX2_leaveOut_42 : decode cX2_leaveOut 42 = .ok (.iadd, 1) := by decide +kernel
theorem dX2_leaveOut_43 : decode cX2_leaveOut 43 = .ok (.aload_n 0, 1) := by decide +kernel
theorem dX2_leaveOut_44 : decode cX2_leaveOut 44 = .ok (.getfield 114, 3) := by decide +kernel
theorem dX2_leaveOut_47 : decode cX2_leaveOut 47 = .ok (.invokevirtual 144, 3) := by decide +kernel
theorem dX2_leaveOut_50 : decode cX2_leaveOut 50 = .ok (.iconst 1, 1) := by decide +kernel
theorem dX2_leaveOut_51 : decode cX2_leaveOut 51 = .ok (.ireturn, 1) := by decide +kernel
theorem dX2_takeOffer_0 : decode cX2_takeOffer 0 = .ok (.iconst 0, 1) := by decide +kernel
theorem dX2_takeOffer_1 : decode cX2_takeOffer 1 = .ok (.istore_n 3, 1) := by decide +kernel
theorem dX2_takeOffer_2 : decode cX2_takeOffer 2 = .ok (.iload_n 3, 1) := by decide +kernel
theorem dX2_takeOffer_3 : decode cX2_takeOffer 3 = .ok (.iconst 2, 1) := by decide +kernel
theorem dX2_takeOffer_4 : decode cX2_takeOffer 4 = .ok (.if_icmp .ge 81, 3) := by decide +kernel
theorem dX2_takeOffer_7 : decode cX2_takeOffer 7 = .ok (.aload_n 0, 1) := by decide +kernel
theorem dX2_takeOffer_8 : decode cX2_takeOffer 8 = .ok (.getfield 12, 3) := by decide +kernel
theorem dX2_takeOffer_11 : decode cX2_takeOffer 11 = .ok (.aload_n 0, 1) := by decide +kernel
theorem dX2_takeOffer_12 : decode cX2_takeOffer 12 = .ok (.getfield 114, 3) := by decide +kernel
theorem dX2_takeOffer_15 : decode cX2_takeOffer 15 = .ok (.iload_n 3, 1) := by decide +kernel
theorem dX2_takeOffer_16 : decode cX2_takeOffer 16 = .ok (.invokevirtual 96, 3) := by decide +kernel
theorem dX2_takeOffer_19 : decode cX2_takeOffer 19 = .ok (.istore 4, 2) := by decide +kernel
theorem dX2_takeOffer_21 : decode cX2_takeOffer 21 = .ok (.iload 4, 2) := by decide +kernel
theorem dX2_takeOffer_23 : decode cX2_takeOffer 23 = .ok (.iconst (-1), 1) := by decide +kernel
theorem dX2_takeOffer_24 : decode cX2_takeOffer 24 = .ok (.if_icmp .eq 55, 3) := by decide +kernel
theorem dX2_takeOffer_27 : decode cX2_takeOffer 27 = .ok (.aload_n 0, 1) := by decide +kernel
theorem dX2_takeOffer_28 : decode cX2_takeOffer 28 = .ok (.aload_n 0, 1) := by decide +kernel
theorem dX2_takeOffer_29 : decode cX2_takeOffer 29 = .ok (.getfield 27, 3) := by decide +kernel
theorem dX2_takeOffer_32 : decode cX2_takeOffer 32 = .ok (.iload_n 1, 1) := by decide +kernel
theorem dX2_takeOffer_33 : decode cX2_takeOffer 33 = .ok (.invokevirtual 69, 3) := by decide +kernel
theorem dX2_takeOffer_36 : decode cX2_takeOffer 36 = .ok (.iload_n 2, 1) := by decide +kernel
theorem dX2_takeOffer_37 : decode cX2_takeOffer 37 = .ok (.iload 4, 2) := by decide +kernel
theorem dX2_takeOffer_39 : decode cX2_takeOffer 39 = .ok (.invokevirtual 137, 3) := by decide +kernel
theorem dX2_takeOffer_42 : decode cX2_takeOffer 42 = .ok (.ifCond .eq 37, 3) := by decide +kernel
theorem dX2_takeOffer_45 : decode cX2_takeOffer 45 = .ok (.aload_n 0, 1) := by decide +kernel
theorem dX2_takeOffer_46 : decode cX2_takeOffer 46 = .ok (.aload_n 0, 1) := by decide +kernel
theorem dX2_takeOffer_47 : decode cX2_takeOffer 47 = .ok (.getfield 12, 3) := by decide +kernel
theorem dX2_takeOffer_50 : decode cX2_takeOffer 50 = .ok (.aload_n 0, 1) := by decide +kernel
theorem dX2_takeOffer_51 : decode cX2_takeOffer 51 = .ok (.getfield 114, 3) := by decide +kernel
theorem dX2_takeOffer_54 : decode cX2_takeOffer 54 = .ok (.iload_n 3, 1) := by decide +kernel
theorem dX2_takeOffer_55 : decode cX2_takeOffer 55 = .ok (.invokevirtual 99, 3) := by decide +kernel
theorem dX2_takeOffer_58 : decode cX2_takeOffer 58 = .ok (.invokevirtual 141, 3) := by decide +kernel
theorem dX2_takeOffer_61 : decode cX2_takeOffer 61 = .ok (.aload_n 0, 1) := by decide +kernel
theorem dX2_takeOffer_62 : decode cX2_takeOffer 62 = .ok (.getfield 36, 3) := by decide +kernel
theorem dX2_takeOffer_65 : decode cX2_takeOffer 65 = .ok (.iload_n 1, 1) := by decide +kernel
theorem dX2_takeOffer_66 : decode cX2_takeOffer 66 = .ok (.iconst 1, 1) := by decide +kernel
theorem dX2_takeOffer_67 : decode cX2_takeOffer 67 = .ok (.invokevirtual 147, 3) := by decide +kernel
theorem dX2_takeOffer_70 : decode cX2_takeOffer 70 = .ok (.aload_n 0, 1) := by decide +kernel
theorem dX2_takeOffer_71 : decode cX2_takeOffer 71 = .ok (.iload_n 2, 1) := by decide +kernel
theorem dX2_takeOffer_72 : decode cX2_takeOffer 72 = .ok (.iload 4, 2) := by decide +kernel
theorem dX2_takeOffer_74 : decode cX2_takeOffer 74 = .ok (.invokevirtual 144, 3) := by decide +kernel
theorem dX2_takeOffer_77 : decode cX2_takeOffer 77 = .ok (.iconst 1, 1) := by decide +kernel
theorem dX2_takeOffer_78 : decode cX2_takeOffer 78 = .ok (.ireturn, 1) := by decide +kernel
theorem dX2_takeOffer_79 : decode cX2_takeOffer 79 = .ok (.iinc 3 1, 3) := by decide +kernel
theorem dX2_takeOffer_82 : decode cX2_takeOffer 82 = .ok (.goto (-80), 3) := by decide +kernel
theorem dX2_takeOffer_85 : decode cX2_takeOffer 85 = .ok (.iconst 0, 1) := by decide +kernel
theorem dX2_takeOffer_86 : decode cX2_takeOffer 86 = .ok (.ireturn, 1) := by decide +kernel
theorem dX2_say_0 : decode cX2_say 0 = .ok (.aload_n 0, 1) := by decide +kernel
theorem dX2_say_1 : decode cX2_say 1 = .ok (.getfield 33, 3) := by decide +kernel
theorem dX2_say_4 : decode cX2_say 4 = .ok (.aload_n 0, 1) := by decide +kernel
theorem dX2_say_5 : decode cX2_say 5 = .ok (.getfield 43, 3) := by decide +kernel
theorem dX2_say_8 : decode cX2_say 8 = .ok (.iload_n 1, 1) := by decide +kernel
theorem dX2_say_9 : decode cX2_say 9 = .ok (.invokevirtual 89, 3) := by decide +kernel
theorem dX2_say_12 : decode cX2_say 12 = .ok (.aload_n 0, 1) := by decide +kernel
theorem dX2_say_13 : decode cX2_say 13 = .ok (.dup, 1) := by decide +kernel
theorem dX2_say_14 : decode cX2_say 14 = .ok (.getfield 43, 3) := by decide +kernel
theorem dX2_say_17 : decode cX2_say 17 = .ok (.iconst 1, 1) := by decide +kernel
theorem dX2_say_18 : decode cX2_say 18 = .ok (.iadd, 1) := by decide +kernel
theorem dX2_say_19 : decode cX2_say 19 = .ok (.putfield 43, 3) := by decide +kernel
theorem dX2_say_22 : decode cX2_say 22 = .ok (.return_, 1) := by decide +kernel
theorem dX2_goTo_0 : decode cX2_goTo 0 = .ok (.aload_n 0, 1) := by decide +kernel
theorem dX2_goTo_1 : decode cX2_goTo 1 = .ok (.iload_n 1, 1) := by decide +kernel
theorem dX2_goTo_2 : decode cX2_goTo 2 = .ok (.putfield 111, 3) := by decide +kernel
theorem dX2_goTo_5 : decode cX2_goTo 5 = .ok (.aload_n 0, 1) := by decide +kernel
theorem dX2_goTo_6 : decode cX2_goTo 6 = .ok (.iload_n 2, 1) := by decide +kernel
theorem dX2_goTo_7 : decode cX2_goTo 7 = .ok (.putfield 114, 3) := by decide +kernel
theorem dX2_goTo_10 : decode cX2_goTo 10 = .ok (.return_, 1) := by decide +kernel
theorem dX3_init_0 : decode cX3_init 0 = .ok (.aload_n 0, 1) := by decide +kernel
theorem dX3_init_1 : decode cX3_init 1 = .ok (.invokespecial 3, 3) := by decide +kernel
theorem dX3_init_4 : decode cX3_init 4 = .ok (.aload_n 0, 1) := by decide +kernel
theorem dX3_init_5 : decode cX3_init 5 = .ok (.new 9, 3) := by decide +kernel
theorem dX3_init_8 : decode cX3_init 8 = .ok (.dup, 1) := by decide +kernel
theorem dX3_init_9 : decode cX3_init 9 = .ok (.invokespecial 11, 3) := by decide +kernel
theorem dX3_init_12 : decode cX3_init 12 = .ok (.putfield 12, 3) := by decide +kernel
theorem dX3_init_15 : decode cX3_init 15 = .ok (.aload_n 0, 1) := by decide +kernel
theorem dX3_init_16 : decode cX3_init 16 = .ok (.new 18, 3) := by decide +kernel
theorem dX3_init_19 : decode cX3_init 19 = .ok (.dup, 1) := by decide +kernel
theorem dX3_init_20 : decode cX3_init 20 = .ok (.bipush 120, 2) := by decide +kernel
theorem dX3_init_22 : decode cX3_init 22 = .ok (.invokespecial 20, 3) := by decide +kernel
theorem dX3_init_25 : decode cX3_init 25 = .ok (.putfield 23, 3) := by decide +kernel
theorem dX3_init_28 : decode cX3_init 28 = .ok (.aload_n 0, 1) := by decide +kernel
theorem dX3_init_29 : decode cX3_init 29 = .ok (.new 18, 3) := by decide +kernel
theorem dX3_init_32 : decode cX3_init 32 = .ok (.dup, 1) := by decide +kernel
theorem dX3_init_33 : decode cX3_init 33 = .ok (.bipush 120, 2) := by decide +kernel
theorem dX3_init_35 : decode cX3_init 35 = .ok (.invokespecial 20, 3) := by decide +kernel
theorem dX3_init_38 : decode cX3_init 38 = .ok (.putfield 27, 3) := by decide +kernel
theorem dX3_init_41 : decode cX3_init 41 = .ok (.aload_n 0, 1) := by decide +kernel
theorem dX3_init_42 : decode cX3_init 42 = .ok (.new 18, 3) := by decide +kernel
theorem dX3_init_45 : decode cX3_init 45 = .ok (.dup, 1) := by decide +kernel
theorem dX3_init_46 : decode cX3_init 46 = .ok (.bipush 120, 2) := by decide +kernel
theorem dX3_init_48 : decode cX3_init 48 = .ok (.invokespecial 20, 3) := by decide +kernel
theorem dX3_init_51 : decode cX3_init 51 = .ok (.putfield 30, 3) := by decide +kernel
theorem dX3_init_54 : decode cX3_init 54 = .ok (.aload_n 0, 1) := by decide +kernel
theorem dX3_init_55 : decode cX3_init 55 = .ok (.new 18, 3) := by decide +kernel
theorem dX3_init_58 : decode cX3_init 58 = .ok (.dup, 1) := by decide +kernel
theorem dX3_init_59 : decode cX3_init 59 = .ok (.bipush 120, 2) := by decide +kernel
theorem dX3_init_61 : decode cX3_init 61 = .ok (.invokespecial 20, 3) := by decide +kernel
theorem dX3_init_64 : decode cX3_init 64 = .ok (.putfield 33, 3) := by decide +kernel
theorem dX3_init_67 : decode cX3_init 67 = .ok (.aload_n 0, 1) := by decide +kernel
theorem dX3_init_68 : decode cX3_init 68 = .ok (.new 18, 3) := by decide +kernel
theorem dX3_init_71 : decode cX3_init 71 = .ok (.dup, 1) := by decide +kernel
theorem dX3_init_72 : decode cX3_init 72 = .ok (.sipush 484, 3) := by decide +kernel
theorem dX3_init_75 : decode cX3_init 75 = .ok (.invokespecial 20, 3) := by decide +kernel
theorem dX3_init_78 : decode cX3_init 78 = .ok (.putfield 36, 3) := by decide +kernel
theorem dX3_init_81 : decode cX3_init 81 = .ok (.aload_n 0, 1) := by decide +kernel
theorem dX3_init_82 : decode cX3_init 82 = .ok (.new 18, 3) := by decide +kernel
theorem dX3_init_85 : decode cX3_init 85 = .ok (.dup, 1) := by decide +kernel
theorem dX3_init_86 : decode cX3_init 86 = .ok (.sipush 840, 3) := by decide +kernel
theorem dX3_init_89 : decode cX3_init 89 = .ok (.invokespecial 20, 3) := by decide +kernel
theorem dX3_init_92 : decode cX3_init 92 = .ok (.putfield 39, 3) := by decide +kernel
theorem dX3_init_95 : decode cX3_init 95 = .ok (.aload_n 0, 1) := by decide +kernel
theorem dX3_init_96 : decode cX3_init 96 = .ok (.new 18, 3) := by decide +kernel
theorem dX3_init_99 : decode cX3_init 99 = .ok (.dup, 1) := by decide +kernel
theorem dX3_init_100 : decode cX3_init 100 = .ok (.sipush 363, 3) := by decide +kernel
theorem dX3_init_103 : decode cX3_init 103 = .ok (.invokespecial 20, 3) := by decide +kernel
theorem dX3_init_106 : decode cX3_init 106 = .ok (.putfield 42, 3) := by decide +kernel
theorem dX3_init_109 : decode cX3_init 109 = .ok (.aload_n 0, 1) := by decide +kernel
theorem dX3_init_110 : decode cX3_init 110 = .ok (.new 18, 3) := by decide +kernel
theorem dX3_init_113 : decode cX3_init 113 = .ok (.dup, 1) := by decide +kernel
theorem dX3_init_114 : decode cX3_init 114 = .ok (.bipush 7, 2) := by decide +kernel
theorem dX3_init_116 : decode cX3_init 116 = .ok (.invokespecial 20, 3) := by decide +kernel
theorem dX3_init_119 : decode cX3_init 119 = .ok (.putfield 45, 3) := by decide +kernel
theorem dX3_init_122 : decode cX3_init 122 = .ok (.aload_n 0, 1) := by decide +kernel
theorem dX3_init_123 : decode cX3_init 123 = .ok (.new 18, 3) := by decide +kernel
theorem dX3_init_126 : decode cX3_init 126 = .ok (.dup, 1) := by decide +kernel
theorem dX3_init_127 : decode cX3_init 127 = .ok (.bipush 7, 2) := by decide +kernel
theorem dX3_init_129 : decode cX3_init 129 = .ok (.invokespecial 20, 3) := by decide +kernel
theorem dX3_init_132 : decode cX3_init 132 = .ok (.putfield 48, 3) := by decide +kernel
theorem dX3_init_135 : decode cX3_init 135 = .ok (.aload_n 0, 1) := by decide +kernel
theorem dX3_init_136 : decode cX3_init 136 = .ok (.iconst 0, 1) := by decide +kernel
theorem dX3_init_137 : decode cX3_init 137 = .ok (.putfield 51, 3) := by decide +kernel
theorem dX3_init_140 : decode cX3_init 140 = .ok (.return_, 1) := by decide +kernel
theorem dX3_readWhole_0 : decode cX3_readWhole 0 = .ok (.aload_n 0, 1) := by decide +kernel
theorem dX3_readWhole_1 : decode cX3_readWhole 1 = .ok (.getfield 12, 3) := by decide +kernel
theorem dX3_readWhole_4 : decode cX3_readWhole 4 = .ok (.aload_n 1, 1) := by decide +kernel
theorem dX3_readWhole_5 : decode cX3_readWhole 5 = .ok (.getfield 55, 3) := by decide +kernel
theorem dX3_readWhole_8 : decode cX3_readWhole 8 = .ok (.aload_n 1, 1) := by decide +kernel
theorem dX3_readWhole_9 : decode cX3_readWhole 9 = .ok (.getfield 60, 3) := by decide +kernel
theorem dX3_readWhole_12 : decode cX3_readWhole 12 = .ok (.invokevirtual 63, 3) := by decide +kernel
theorem dX3_readWhole_15 : decode cX3_readWhole 15 = .ok (.aload_n 0, 1) := by decide +kernel
theorem dX3_readWhole_16 : decode cX3_readWhole 16 = .ok (.invokevirtual 67, 3) := by decide +kernel
theorem dX3_readWhole_19 : decode cX3_readWhole 19 = .ok (.iconst 0, 1) := by decide +kernel
theorem dX3_readWhole_20 : decode cX3_readWhole 20 = .ok (.istore_n 2, 1) := by decide +kernel
theorem dX3_readWhole_21 : decode cX3_readWhole 21 = .ok (.iload_n 2, 1) := by decide +kernel
theorem dX3_readWhole_22 : decode cX3_readWhole 22 = .ok (.aload_n 1, 1) := by decide +kernel
theorem dX3_readWhole_23 : decode cX3_readWhole 23 = .ok (.getfield 70, 3) := by decide +kernel
theorem dX3_readWhole_26 : decode cX3_readWhole 26 = .ok (.if_icmp .ge 48, 3) := by decide +kernel
theorem dX3_readWhole_29 : decode cX3_readWhole 29 = .ok (.aload_n 1, 1) := by decide +kernel
theorem dX3_readWhole_30 : decode cX3_readWhole 30 = .ok (.getfield 73, 3) := by decide +kernel
theorem dX3_readWhole_33 : decode cX3_readWhole 33 = .ok (.iload_n 2, 1) := by decide +kernel
theorem dX3_readWhole_34 : decode cX3_readWhole 34 = .ok (.invokevirtual 76, 3) := by decide +kernel
theorem dX3_readWhole_37 : decode cX3_readWhole 37 = .ok (.istore_n 3, 1) := by decide +kernel
theorem dX3_readWhole_38 : decode cX3_readWhole 38 = .ok (.aload_n 0, 1) := by decide +kernel
theorem dX3_readWhole_39 : decode cX3_readWhole 39 = .ok (.iload_n 2, 1) := by decide +kernel
theorem dX3_readWhole_40 : decode cX3_readWhole 40 = .ok (.iload_n 3, 1) := by decide +kernel
theorem dX3_readWhole_41 : decode cX3_readWhole 41 = .ok (.invokevirtual 80, 3) := by decide +kernel
theorem dX3_readWhole_44 : decode cX3_readWhole 44 = .ok (.ifCond .ne 9, 3) := by decide +kernel
theorem dX3_readWhole_47 : decode cX3_readWhole 47 = .ok (.aload_n 0, 1) := by decide +kernel
theorem dX3_readWhole_48 : decode cX3_readWhole 48 = .ok (.iload_n 2, 1) := by decide +kernel
theorem dX3_readWhole_49 : decode cX3_readWhole 49 = .ok (.iload_n 3, 1) := by decide +kernel
theorem dX3_readWhole_50 : decode cX3_readWhole 50 = .ok (.invokevirtual 84, 3) := by decide +kernel
theorem dX3_readWhole_53 : decode cX3_readWhole 53 = .ok (.aload_n 0, 1) := by decide +kernel
theorem dX3_readWhole_54 : decode cX3_readWhole 54 = .ok (.getfield 27, 3) := by decide +kernel
theorem dX3_readWhole_57 : decode cX3_readWhole 57 = .ok (.iload_n 2, 1) := by decide +kernel
theorem dX3_readWhole_58 : decode cX3_readWhole 58 = .ok (.aload_n 0, 1) := by decide +kernel
theorem dX3_readWhole_59 : decode cX3_readWhole 59 = .ok (.getfield 51, 3) := by decide +kernel
theorem dX3_readWhole_62 : decode cX3_readWhole 62 = .ok (.invokestatic 87, 3) := by decide +kernel
theorem dX3_readWhole_65 : decode cX3_readWhole 65 = .ok (.invokevirtual 90, 3) := by decide +kernel
theorem dX3_readWhole_68 : decode cX3_readWhole 68 = .ok (.iinc 2 1, 3) := by decide +kernel
theorem dX3_readWhole_71 : decode cX3_readWhole 71 = .ok (.goto (-50), 3) := by decide +kernel
theorem dX3_readWhole_74 : decode cX3_readWhole 74 = .ok (.aload_n 0, 1) := by decide +kernel
theorem dX3_readWhole_75 : decode cX3_readWhole 75 = .ok (.getfield 51, 3) := by decide +kernel
theorem dX3_readWhole_78 : decode cX3_readWhole 78 = .ok (.invokestatic 93, 3) := by decide +kernel
theorem dX3_readWhole_81 : decode cX3_readWhole 81 = .ok (.ifCond .le 12, 3) := by decide +kernel
theorem dX3_readWhole_84 : decode cX3_readWhole 84 = .ok (.aload_n 0, 1) := by decide +kernel
theorem dX3_readWhole_85 : decode cX3_readWhole 85 = .ok (.aload_n 1, 1) := by decide +kernel
theorem dX3_readWhole_86 : decode cX3_readWhole 86 = .ok (.getfield 70, 3) := by decide +kernel
theorem dX3_readWhole_89 : decode cX3_readWhole 89 = .ok (.iconst 3, 1) := by decide +kernel
theorem dX3_readWhole_90 : decode cX3_readWhole 90 = .ok (.invokevirtual 96, 3) := by decide +kernel
theorem dX3_readWhole_93 : decode cX3_readWhole 93 = .ok (.aload_n 0, 1) := by decide +kernel
theorem dX3_readWhole_94 : decode cX3_readWhole 94 = .ok (.getfield 51, 3) := by decide +kernel
theorem dX3_readWhole_97 : decode cX3_readWhole 97 = .ok (.invokestatic 87, 3) := by decide +kernel
theorem dX3_readWhole_100 : decode cX3_readWhole 100 = .ok (.ifCond .le 12, 3) := by decide +kernel
theorem dX3_readWhole_103 : decode cX3_readWhole 103 = .ok (.aload_n 0, 1) := by decide +kernel
theorem dX3_readWhole_104 : decode cX3_readWhole 104 = .ok (.aload_n 1, 1) := by decide +kernel
theorem dX3_readWhole_105 : decode cX3_readWhole 105 = .ok (.getfield 70, 3) := by decide +kernel
theorem dX3_readWhole_108 : decode cX3_readWhole 108 = .ok (.iconst 4, 1) := by decide +kernel
theorem dX3_readWhole_109 : decode cX3_readWhole 109 = .ok (.invokevirtual 96, 3) := by decide +kernel
theorem dX3_readWhole_112 : decode cX3_readWhole 112 = .ok (.return_, 1) := by decide +kernel
theorem dX3_begin_0 : decode cX3_begin 0 = .ok (.aload_n 0, 1) := by decide +kernel
theorem dX3_begin_1 : decode cX3_begin 1 = .ok (.iconst 0, 1) := by decide +kernel
theorem dX3_begin_2 : decode cX3_begin 2 = .ok (.putfield 51, 3) := by decide +kernel
theorem dX3_begin_5 : decode cX3_begin 5 = .ok (.aload_n 0, 1) := by decide +kernel
theorem dX3_begin_6 : decode cX3_begin 6 = .ok (.iconst 0, 1) := by decide +kernel
theorem dX3_begin_7 : decode cX3_begin 7 = .ok (.putfield 99, 3) := by decide +kernel
theorem dX3_begin_10 : decode cX3_begin 10 = .ok (.aload_n 0, 1) := by decide +kernel
theorem dX3_begin_11 : decode cX3_begin 11 = .ok (.iconst 0, 1) := by decide +kernel
theorem dX3_begin_12 : decode cX3_begin 12 = .ok (.putfield 102, 3) := by decide +kernel
theorem dX3_begin_15 : decode cX3_begin 15 = .ok (.aload_n 0, 1) := by decide +kernel
theorem dX3_begin_16 : decode cX3_begin 16 = .ok (.iconst 0, 1) := by decide +kernel
theorem dX3_begin_17 : decode cX3_begin 17 = .ok (.putfield 105, 3) := by decide +kernel
theorem dX3_begin_20 : decode cX3_begin 20 = .ok (.aload_n 0, 1) := by decide +kernel
theorem dX3_begin_21 : decode cX3_begin 21 = .ok (.iconst 0, 1) := by decide +kernel
theorem dX3_begin_22 : decode cX3_begin 22 = .ok (.putfield 108, 3) := by decide +kernel
theorem dX3_begin_25 : decode cX3_begin 25 = .ok (.aload_n 0, 1) := by decide +kernel
theorem dX3_begin_26 : decode cX3_begin 26 = .ok (.getfield 45, 3) := by decide +kernel
theorem dX3_begin_29 : decode cX3_begin 29 = .ok (.iconst 0, 1) := by decide +kernel
theorem dX3_begin_30 : decode cX3_begin 30 = .ok (.invokevirtual 111, 3) := by decide +kernel
theorem dX3_begin_33 : decode cX3_begin 33 = .ok (.aload_n 0, 1) := by decide +kernel
theorem dX3_begin_34 : decode cX3_begin 34 = .ok (.invokevirtual 114, 3) := by decide +kernel
theorem dX3_begin_37 : decode cX3_begin 37 = .ok (.return_, 1) := by decide +kernel
theorem dX3_beginParagraph_0 : decode cX3_beginParagraph 0 = .ok (.aload_n 0, 1) := by decide +kernel
theorem dX3_beginParagraph_1 : decode cX3_beginParagraph 1 = .ok (.getfield 105, 3) := by decide +kernel
theorem dX3_beginParagraph_4 : decode cX3_beginParagraph 4 = .ok (.iconst 3, 1) := by decide +kernel
theorem dX3_beginParagraph_5 : decode cX3_beginParagraph 5 = .ok (.imul, 1) := by decide +kernel
theorem dX3_beginParagraph_6 : decode cX3_beginParagraph 6 = .ok (.istore_n 1, 1) := by decide +kernel
theorem dX3_beginParagraph_7 : decode cX3_beginParagraph 7 = .ok (.aload_n 0, 1) := by decide +kernel
theorem dX3_beginParagraph_8 : decode cX3_beginParagraph 8 = .ok (.getfield 42, 3) := by decide +kernel
theorem dX3_beginParagraph_11 : decode cX3_beginParagraph 11 = .ok (.iload_n 1, 1) := by decide +kernel
theorem dX3_beginParagraph_12 : decode cX3_beginParagraph 12 = .ok (.iconst 0, 1) := by decide +kernel
theorem dX3_beginParagraph_13 : decode cX3_beginParagraph 13 = .ok (.iadd, 1) := by decide +kernel
theorem dX3_beginParagraph_14 : decode cX3_beginParagraph 14 = .ok (.aload_n 0, 1) := by decide +kernel
theorem dX3_beginParagraph_15 : decode cX3_beginParagraph 15 = .ok (.getfield 51, 3) := by decide +kernel
theorem dX3_beginParagraph_18 : decode cX3_beginParagraph 18 = .ok (.invokestatic 87, 3) := by decide +kernel
theorem dX3_beginParagraph_21 : decode cX3_beginParagraph 21 = .ok (.invokevirtual 90, 3) := by decide +kernel
theorem dX3_beginParagraph_24 : decode cX3_beginParagraph 24 = .ok (.aload_n 0, 1) := by decide +kernel
theorem dX3_beginParagraph_25 : decode cX3_beginParagraph 25 = .ok (.getfield 42, 3) := by decide +kernel
theorem dX3_beginParagraph_28 : decode cX3_beginParagraph 28 = .ok (.iload_n 1, 1) := by decide +kernel
theorem dX3_beginParagraph_29 : decode cX3_beginParagraph 29 = .ok (.iconst 1, 1) := by decide +kernel
theorem dX3_beginParagraph_30 : decode cX3_beginParagraph 30 = .ok (.iadd, 1) := by decide +kernel
theorem dX3_beginParagraph_31 : decode cX3_beginParagraph 31 = .ok (.iconst 0, 1) := by decide +kernel
theorem dX3_beginParagraph_32 : decode cX3_beginParagraph 32 = .ok (.invokevirtual 90, 3) := by decide +kernel
theorem dX3_beginParagraph_35 : decode cX3_beginParagraph 35 = .ok (.aload_n 0, 1) := by decide +kernel
theorem dX3_beginParagraph_36 : decode cX3_beginParagraph 36 = .ok (.getfield 42, 3) := by decide +kernel
theorem dX3_beginParagraph_39 : decode cX3_beginParagraph 39 = .ok (.iload_n 1, 1) := by decide +kernel
theorem dX3_beginParagraph_40 : decode cX3_beginParagraph 40 = .ok (.iconst 2, 1) := by decide +kernel
theorem dX3_beginParagraph_41 : decode cX3_beginParagraph 41 = .ok (.iadd, 1) := by decide +kernel
theorem dX3_beginParagraph_42 : decode cX3_beginParagraph 42 = .ok (.iconst 0, 1) := by decide +kernel
theorem dX3_beginParagraph_43 : decode cX3_beginParagraph 43 = .ok (.invokevirtual 90, 3) := by decide +kernel
theorem dX3_beginParagraph_46 : decode cX3_beginParagraph 46 = .ok (.aload_n 0, 1) := by decide +kernel
theorem dX3_beginParagraph_47 : decode cX3_beginParagraph 47 = .ok (.dup, 1) := by decide +kernel
theorem dX3_beginParagraph_48 : decode cX3_beginParagraph 48 = .ok (.getfield 105, 3) := by decide +kernel
theorem dX3_beginParagraph_51 : decode cX3_beginParagraph 51 = .ok (.iconst 1, 1) := by decide +kernel
theorem dX3_beginParagraph_52 : decode cX3_beginParagraph 52 = .ok (.iadd, 1) := by decide +kernel
theorem dX3_beginParagraph_53 : decode cX3_beginParagraph 53 = .ok (.putfield 105, 3) := by decide +kernel
theorem dX3_beginParagraph_56 : decode cX3_beginParagraph 56 = .ok (.return_, 1) := by decide +kernel
theorem dX3_renews_0 : decode cX3_renews 0 = .ok (.aload_n 0, 1) := by decide +kernel
theorem dX3_renews_1 : decode cX3_renews 1 = .ok (.getfield 51, 3) := by decide +kernel
theorem dX3_renews_4 : decode cX3_renews 4 = .ok (.invokestatic 93, 3) := by decide +kernel
theorem dX3_renews_7 : decode cX3_renews 7 = .ok (.istore_n 3, 1) := by decide +kernel
theorem dX3_renews_8 : decode cX3_renews 8 = .ok (.iload_n 3, 1) := by decide +kernel
theorem dX3_renews_9 : decode cX3_renews 9 = .ok (.ifCond .ne 5, 3) := by decide +kernel
theorem dX3_renews_12 : decode cX3_renews 12 = .ok (.iconst 0, 1) := by decide +kernel
theorem dX3_renews_13 : decode cX3_renews 13 = .ok (.ireturn, 1) := by decide +kernel
theorem dX3_renews_14 : decode cX3_renews 14 = .ok (.aload_n 0, 1) := by decide +kernel
theorem dX3_renews_15 : decode cX3_renews 15 = .ok (.getfield 12, 3) := by decide +kernel
theorem dX3_renews_18 : decode cX3_renews 18 = .ok (.aload_n 0, 1) := by decide +kernel
theorem dX3_renews_19 : decode cX3_renews 19 = .ok (.getfield 51, 3) := by decide +kernel
theorem dX3_renews_22 : decode cX3_renews 22 = .ok (.iload_n 2, 1) := by decide +kernel
theorem dX3_renews_23 : decode cX3_renews 23 = .ok (.invokevirtual 117, 3) := by decide +kernel
theorem dX3_renews_26 : decode cX3_renews 26 = .ok (.iconst (-1), 1) := by decide +kernel
theorem dX3_renews_27 : decode cX3_renews 27 = .ok (.if_icmp .ne 21, 3) := by decide +kernel
theorem dX3_renews_30 : decode cX3_renews 30 = .ok (.aload_n 0, 1) := by decide +kernel
theorem dX3_renews_31 : decode cX3_renews 31 = .ok (.iload_n 1, 1) := by decide +kernel
theorem dX3_renews_32 : decode cX3_renews 32 = .ok (.iconst 3, 1) := by decide +kernel
theorem dX3_renews_33 : decode cX3_renews 33 = .ok (.invokevirtual 96, 3) := by decide +kernel
theorem dX3_renews_36 : decode cX3_renews 36 = .ok (.aload_n 0, 1) := by decide +kernel
theorem dX3_renews_37 : decode cX3_renews 37 = .ok (.dup, 1) := by decide +kernel
theorem dX3_renews_38 : decode cX3_renews 38 = .ok (.getfield 51, 3) := by decide +kernel
theorem dX3_renews_41 : decode cX3_renews 41 = .ok (.iload_n 3, 1) := by decide +kernel
theorem dX3_renews_42 : decode cX3_renews 42 = .ok (.isub, 1) := by decide +kernel
theorem dX3_renews_43 : decode cX3_renews 43 = .ok (.putfield 51, 3) := by decide +kernel
theorem dX3_renews_46 : decode cX3_renews 46 = .ok (.iconst 0, 1) := by decide +kernel
theorem dX3_renews_47 : decode cX3_renews 47 = .ok (.ireturn, 1) := by decide +kernel
theorem dX3_renews_48 : decode cX3_renews 48 = .ok (.aload_n 0, 1) := by decide +kernel
theorem dX3_renews_49 : decode cX3_renews 49 = .ok (.getfield 23, 3) := by decide +kernel
theorem dX3_renews_52 : decode cX3_renews 52 = .ok (.iload_n 1, 1) := by decide +kernel
theorem dX3_renews_53 : decode cX3_renews 53 = .ok (.iconst 5, 1) := by decide +kernel
theorem dX3_renews_54 : decode cX3_renews 54 = .ok (.invokevirtual 90, 3) := by decide +kernel
theorem dX3_renews_57 : decode cX3_renews 57 = .ok (.aload_n 0, 1) := by decide +kernel
theorem dX3_renews_58 : decode cX3_renews 58 = .ok (.getfield 33, 3) := by decide +kernel
theorem dX3_renews_61 : decode cX3_renews 61 = .ok (.iload_n 1, 1) := by decide +kernel
theorem dX3_renews_62 : decode cX3_renews 62 = .ok (.aload_n 0, 1) := by decide +kernel
theorem dX3_renews_63 : decode cX3_renews 63 = .ok (.getfield 12, 3) := by decide +kernel
theorem dX3_renews_66 : decode cX3_renews 66 = .ok (.aload_n 0, 1) := by decide +kernel
theorem dX3_renews_67 : decode cX3_renews 67 = .ok (.getfield 51, 3) := by decide +kernel
theorem dX3_renews_70 : decode cX3_renews 70 = .ok (.invokevirtual 121, 3) := by decide +kernel
theorem dX3_renews_73 : decode cX3_renews 73 = .ok (.invokevirtual 90, 3) := by decide +kernel
theorem dX3_renews_76 : decode cX3_renews 76 = .ok (.aload_n 0, 1) := by decide +kernel
theorem dX3_renews_77 : decode cX3_renews 77 = .ok (.iconst 2, 1) := by decide +kernel
theorem dX3_renews_78 : decode cX3_renews 78 = .ok (.invokevirtual 124, 3) := by decide +kernel
theorem dX3_renews_81 : decode cX3_renews 81 = .ok (.aload_n 0, 1) := by decide +kernel
theorem dX3_renews_82 : decode cX3_renews 82 = .ok (.dup, 1) := by decide +kernel
theorem dX3_renews_83 : decode cX3_renews 83 = .ok (.getfield 51, 3) := by decide +kernel
theorem dX3_renews_86 : decode cX3_renews 86 = .ok (.iconst 1, 1) := by decide +kernel
theorem dX3_renews_87 : decode cX3_renews 87 = .ok (.isub, 1) := by decide +kernel
theorem dX3_renews_88 : decode cX3_renews 88 = .ok (.putfield 51, 3) := by decide +kernel
theorem dX3_renews_91 : decode cX3_renews 91 = .ok (.iconst 1, 1) := by decide +kernel
theorem dX3_renews_92 : decode cX3_renews 92 = .ok (.ireturn, 1) := by decide +kernel
theorem dX3_readWithNothingDue_0 : decode cX3_readWithNothingDue 0 = .ok (.aload_n 0, 1) := by decide +kernel
theorem dX3_readWithNothingDue_1 : decode cX3_readWithNothingDue 1 = .ok (.getfield 12, 3) := by decide +kernel
theorem dX3_readWithNothingDue_4 : decode cX3_readWithNothingDue 4 = .ok (.aload_n 0, 1) := by decide +kernel
theorem dX3_readWithNothingDue_5 : decode cX3_readWithNothingDue 5 = .ok (.getfield 51, 3) := by decide +kernel
theorem dX3_readWithNothingDue_8 : decode cX3_readWithNothingDue 8 = .ok (.iload_n 2, 1) := by decide +kernel
theorem dX3_readWithNothingDue_9 : decode cX3_readWithNothingDue 9 = .ok (.invokevirtual 117, 3) := by decide +kernel
theorem dX3_readWithNothingDue_12 : decode cX3_readWithNothingDue 12 = .ok (.istore_n 3, 1) := by decide +kernel
theorem dX3_readWithNothingDue_13 : decode cX3_readWithNothingDue 13 = .ok (.iload_n 2, 1) := by decide +kernel
theorem dX3_readWithNothingDue_14 : decode cX3_readWithNothingDue 14 = .ok (.invokestatic 127, 3) := by decide +kernel
theorem dX3_readWithNothingDue_17 : decode cX3_readWithNothingDue 17 = .ok (.ifCond .eq 19, 3) := by decide +kernel
theorem dX3_readWithNothingDue_20 : decode cX3_readWithNothingDue 20 = .ok (.aload_n 0, 1) := by decide +kernel
theorem dX3_readWithNothingDue_21 : decode cX3_readWithNothingDue 21 = .ok (.getfield 23, 3) := by decide +kernel
theorem dX3_readWithNothingDue_24 : decode cX3_readWithNothingDue 24 = .ok (.iload_n 1, 1) := by decide +kernel
theorem dX3_readWithNothingDue_25 : decode cX3_readWithNothingDue 25 = .ok (.iconst 0, 1) := by decide +kernel
theorem dX3_readWithNothingDue_26 : decode cX3_readWithNothingDue 26 = .ok (.invokevirtual 90, 3) := by decide +kernel
theorem dX3_readWithNothingDue_29 : decode cX3_readWithNothingDue 29 = .ok (.aload_n 0, 1) := by decide +kernel
theorem dX3_readWithNothingDue_30 : decode cX3_readWithNothingDue 30 = .ok (.invokevirtual 131, 3) := by decide +kernel
theorem dX3_readWithNothingDue_33 : decode cX3_readWithNothingDue 33 = .ok (.goto 108, 3) := by decide +kernel
theorem dX3_readWithNothingDue_36 : decode cX3_readWithNothingDue 36 = .ok (.iload_n 2, 1) := by decide +kernel
end
section
theorem dX3_readWithNothingDue_37 : decode cX3_readWithNothingDue 37 = .ok (.bipush 32, 2) := by decide +kernel
theorem dX3_readWithNothingDue_39 : decode cX3_readWithNothingDue 39 = .ok (.if_icmp .ne 15, 3) := by decide +kernel
theorem dX3_readWithNothingDue_42 : decode cX3_readWithNothingDue 42 = .ok (.aload_n 0, 1) := by decide +kernel
theorem dX3_readWithNothingDue_43 : decode cX3_readWithNothingDue 43 = .ok (.getfield 23, 3) := by decide +kernel
theorem dX3_readWithNothingDue_46 : decode cX3_readWithNothingDue 46 = .ok (.iload_n 1, 1) := by decide +kernel
theorem dX3_readWithNothingDue_47 : decode cX3_readWithNothingDue 47 = .ok (.iconst 1, 1) := by decide +kernel
theorem dX3_readWithNothingDue_48 : decode cX3_readWithNothingDue 48 = .ok (.invokevirtual 90, 3) := by decide +kernel
theorem dX3_readWithNothingDue_51 : decode cX3_readWithNothingDue 51 = .ok (.goto 90, 3) := by decide +kernel
theorem dX3_readWithNothingDue_54 : decode cX3_readWithNothingDue 54 = .ok (.iload_n 2, 1) := by decide +kernel
theorem dX3_readWithNothingDue_55 : decode cX3_readWithNothingDue 55 = .ok (.bipush 124, 2) := by decide +kernel
theorem dX3_readWithNothingDue_57 : decode cX3_readWithNothingDue 57 = .ok (.if_icmp .ne 24, 3) := by decide +kernel
theorem dX3_readWithNothingDue_60 : decode cX3_readWithNothingDue 60 = .ok (.aload_n 0, 1) := by decide +kernel
theorem dX3_readWithNothingDue_61 : decode cX3_readWithNothingDue 61 = .ok (.getfield 23, 3) := by decide +kernel
theorem dX3_readWithNothingDue_64 : decode cX3_readWithNothingDue 64 = .ok (.iload_n 1, 1) := by decide +kernel
theorem dX3_readWithNothingDue_65 : decode cX3_readWithNothingDue 65 = .ok (.iconst 2, 1) := by decide +kernel
theorem dX3_readWithNothingDue_66 : decode cX3_readWithNothingDue 66 = .ok (.invokevirtual 90, 3) := by decide +kernel
theorem dX3_readWithNothingDue_69 : decode cX3_readWithNothingDue 69 = .ok (.aload_n 0, 1) := by decide +kernel
theorem dX3_readWithNothingDue_70 : decode cX3_readWithNothingDue 70 = .ok (.iconst 5, 1) := by decide +kernel
theorem dX3_readWithNothingDue_71 : decode cX3_readWithNothingDue 71 = .ok (.invokevirtual 134, 3) := by decide +kernel
theorem dX3_readWithNothingDue_74 : decode cX3_readWithNothingDue 74 = .ok (.aload_n 0, 1) := by decide +kernel
theorem dX3_readWithNothingDue_75 : decode cX3_readWithNothingDue 75 = .ok (.invokevirtual 114, 3) := by decide +kernel
theorem dX3_readWithNothingDue_78 : decode cX3_readWithNothingDue 78 = .ok (.goto 63, 3) := by decide +kernel
theorem dX3_readWithNothingDue_81 : decode cX3_readWithNothingDue 81 = .ok (.iload_n 3, 1) := by decide +kernel
theorem dX3_readWithNothingDue_82 : decode cX3_readWithNothingDue 82 = .ok (.iconst (-1), 1) := by decide +kernel
theorem dX3_readWithNothingDue_83 : decode cX3_readWithNothingDue 83 = .ok (.if_icmp .ne 37, 3) := by decide +kernel
theorem dX3_readWithNothingDue_86 : decode cX3_readWithNothingDue 86 = .ok (.aload_n 0, 1) := by decide +kernel
theorem dX3_readWithNothingDue_87 : decode cX3_readWithNothingDue 87 = .ok (.getfield 23, 3) := by decide +kernel
theorem dX3_readWithNothingDue_90 : decode cX3_readWithNothingDue 90 = .ok (.iload_n 1, 1) := by decide +kernel
theorem dX3_readWithNothingDue_91 : decode cX3_readWithNothingDue 91 = .ok (.bipush 6, 2) := by decide +kernel
theorem dX3_readWithNothingDue_93 : decode cX3_readWithNothingDue 93 = .ok (.invokevirtual 90, 3) := by decide +kernel
theorem dX3_readWithNothingDue_96 : decode cX3_readWithNothingDue 96 = .ok (.aload_n 0, 1) := by decide +kernel
theorem dX3_readWithNothingDue_97 : decode cX3_readWithNothingDue 97 = .ok (.iload_n 1, 1) := by decide +kernel
theorem dX3_readWithNothingDue_98 : decode cX3_readWithNothingDue 98 = .ok (.aload_n 0, 1) := by decide +kernel
theorem dX3_readWithNothingDue_99 : decode cX3_readWithNothingDue 99 = .ok (.getfield 12, 3) := by decide +kernel
theorem dX3_readWithNothingDue_102 : decode cX3_readWithNothingDue 102 = .ok (.iload_n 2, 1) := by decide +kernel
theorem dX3_readWithNothingDue_103 : decode cX3_readWithNothingDue 103 = .ok (.invokevirtual 137, 3) := by decide +kernel
theorem dX3_readWithNothingDue_106 : decode cX3_readWithNothingDue 106 = .ok (.ifCond .eq 7, 3) := by decide +kernel
theorem dX3_readWithNothingDue_109 : decode cX3_readWithNothingDue 109 = .ok (.iconst 1, 1) := by decide +kernel
theorem dX3_readWithNothingDue_110 : decode cX3_readWithNothingDue 110 = .ok (.goto 4, 3) := by decide +kernel
theorem dX3_readWithNothingDue_113 : decode cX3_readWithNothingDue 113 = .ok (.iconst 2, 1) := by decide +kernel
theorem dX3_readWithNothingDue_114 : decode cX3_readWithNothingDue 114 = .ok (.invokevirtual 96, 3) := by decide +kernel
theorem dX3_readWithNothingDue_117 : decode cX3_readWithNothingDue 117 = .ok (.goto 24, 3) := by decide +kernel
theorem dX3_readWithNothingDue_120 : decode cX3_readWithNothingDue 120 = .ok (.iload_n 3, 1) := by decide +kernel
theorem dX3_readWithNothingDue_121 : decode cX3_readWithNothingDue 121 = .ok (.aload_n 0, 1) := by decide +kernel
theorem dX3_readWithNothingDue_122 : decode cX3_readWithNothingDue 122 = .ok (.getfield 51, 3) := by decide +kernel
theorem dX3_readWithNothingDue_125 : decode cX3_readWithNothingDue 125 = .ok (.if_icmp .le 11, 3) := by decide +kernel
theorem dX3_readWithNothingDue_128 : decode cX3_readWithNothingDue 128 = .ok (.aload_n 0, 1) := by decide +kernel
theorem dX3_readWithNothingDue_129 : decode cX3_readWithNothingDue 129 = .ok (.iload_n 1, 1) := by decide +kernel
theorem dX3_readWithNothingDue_130 : decode cX3_readWithNothingDue 130 = .ok (.invokevirtual 140, 3) := by decide +kernel
theorem dX3_readWithNothingDue_133 : decode cX3_readWithNothingDue 133 = .ok (.goto 8, 3) := by decide +kernel
theorem dX3_readWithNothingDue_136 : decode cX3_readWithNothingDue 136 = .ok (.aload_n 0, 1) := by decide +kernel
theorem dX3_readWithNothingDue_137 : decode cX3_readWithNothingDue 137 = .ok (.iload_n 1, 1) := by decide +kernel
theorem dX3_readWithNothingDue_138 : decode cX3_readWithNothingDue 138 = .ok (.invokevirtual 143, 3) := by decide +kernel
theorem dX3_readWithNothingDue_141 : decode cX3_readWithNothingDue 141 = .ok (.iload_n 3, 1) := by decide +kernel
theorem dX3_readWithNothingDue_142 : decode cX3_readWithNothingDue 142 = .ok (.iconst (-1), 1) := by decide +kernel
theorem dX3_readWithNothingDue_143 : decode cX3_readWithNothingDue 143 = .ok (.if_icmp .eq 8, 3) := by decide +kernel
theorem dX3_readWithNothingDue_146 : decode cX3_readWithNothingDue 146 = .ok (.aload_n 0, 1) := by decide +kernel
theorem dX3_readWithNothingDue_147 : decode cX3_readWithNothingDue 147 = .ok (.iload_n 3, 1) := by decide +kernel
theorem dX3_readWithNothingDue_148 : decode cX3_readWithNothingDue 148 = .ok (.putfield 51, 3) := by decide +kernel
theorem dX3_readWithNothingDue_151 : decode cX3_readWithNothingDue 151 = .ok (.return_, 1) := by decide +kernel
theorem dX3_countLetter_0 : decode cX3_countLetter 0 = .ok (.aload_n 0, 1) := by decide +kernel
theorem dX3_countLetter_1 : decode cX3_countLetter 1 = .ok (.getfield 51, 3) := by decide +kernel
theorem dX3_countLetter_4 : decode cX3_countLetter 4 = .ok (.invokestatic 87, 3) := by decide +kernel
theorem dX3_countLetter_7 : decode cX3_countLetter 7 = .ok (.istore_n 1, 1) := by decide +kernel
theorem dX3_countLetter_8 : decode cX3_countLetter 8 = .ok (.aload_n 0, 1) := by decide +kernel
theorem dX3_countLetter_9 : decode cX3_countLetter 9 = .ok (.getfield 45, 3) := by decide +kernel
theorem dX3_countLetter_12 : decode cX3_countLetter 12 = .ok (.iload_n 1, 1) := by decide +kernel
theorem dX3_countLetter_13 : decode cX3_countLetter 13 = .ok (.iconst 1, 1) := by decide +kernel
theorem dX3_countLetter_14 : decode cX3_countLetter 14 = .ok (.invokevirtual 146, 3) := by decide +kernel
theorem dX3_countLetter_17 : decode cX3_countLetter 17 = .ok (.aload_n 0, 1) := by decide +kernel
theorem dX3_countLetter_18 : decode cX3_countLetter 18 = .ok (.iconst 1, 1) := by decide +kernel
theorem dX3_countLetter_19 : decode cX3_countLetter 19 = .ok (.invokevirtual 124, 3) := by decide +kernel
theorem dX3_countLetter_22 : decode cX3_countLetter 22 = .ok (.aload_n 0, 1) := by decide +kernel
theorem dX3_countLetter_23 : decode cX3_countLetter 23 = .ok (.iconst 3, 1) := by decide +kernel
theorem dX3_countLetter_24 : decode cX3_countLetter 24 = .ok (.invokevirtual 134, 3) := by decide +kernel
theorem dX3_countLetter_27 : decode cX3_countLetter 27 = .ok (.iload_n 1, 1) := by decide +kernel
theorem dX3_countLetter_28 : decode cX3_countLetter 28 = .ok (.ifCond .le 24, 3) := by decide +kernel
theorem dX3_countLetter_31 : decode cX3_countLetter 31 = .ok (.aload_n 0, 1) := by decide +kernel
theorem dX3_countLetter_32 : decode cX3_countLetter 32 = .ok (.getfield 39, 3) := by decide +kernel
theorem dX3_countLetter_35 : decode cX3_countLetter 35 = .ok (.aload_n 0, 1) := by decide +kernel
theorem dX3_countLetter_36 : decode cX3_countLetter 36 = .ok (.getfield 48, 3) := by decide +kernel
theorem dX3_countLetter_39 : decode cX3_countLetter 39 = .ok (.iload_n 1, 1) := by decide +kernel
theorem dX3_countLetter_40 : decode cX3_countLetter 40 = .ok (.invokevirtual 76, 3) := by decide +kernel
theorem dX3_countLetter_43 : decode cX3_countLetter 43 = .ok (.bipush 7, 2) := by decide +kernel
theorem dX3_countLetter_45 : decode cX3_countLetter 45 = .ok (.imul, 1) := by decide +kernel
theorem dX3_countLetter_46 : decode cX3_countLetter 46 = .ok (.iconst 4, 1) := by decide +kernel
theorem dX3_countLetter_47 : decode cX3_countLetter 47 = .ok (.iadd, 1) := by decide +kernel
theorem dX3_countLetter_48 : decode cX3_countLetter 48 = .ok (.iconst 1, 1) := by decide +kernel
theorem dX3_countLetter_49 : decode cX3_countLetter 49 = .ok (.invokevirtual 146, 3) := by decide +kernel
theorem dX3_countLetter_52 : decode cX3_countLetter 52 = .ok (.return_, 1) := by decide +kernel
theorem dX3_addToParagraph_0 : decode cX3_addToParagraph 0 = .ok (.aload_n 0, 1) := by decide +kernel
theorem dX3_addToParagraph_1 : decode cX3_addToParagraph 1 = .ok (.getfield 42, 3) := by decide +kernel
theorem dX3_addToParagraph_4 : decode cX3_addToParagraph 4 = .ok (.aload_n 0, 1) := by decide +kernel
theorem dX3_addToParagraph_5 : decode cX3_addToParagraph 5 = .ok (.getfield 105, 3) := by decide +kernel
theorem dX3_addToParagraph_8 : decode cX3_addToParagraph 8 = .ok (.iconst 1, 1) := by decide +kernel
theorem dX3_addToParagraph_9 : decode cX3_addToParagraph 9 = .ok (.isub, 1) := by decide +kernel
theorem dX3_addToParagraph_10 : decode cX3_addToParagraph 10 = .ok (.iconst 3, 1) := by decide +kernel
theorem dX3_addToParagraph_11 : decode cX3_addToParagraph 11 = .ok (.imul, 1) := by decide +kernel
theorem dX3_addToParagraph_12 : decode cX3_addToParagraph 12 = .ok (.iload_n 1, 1) := by decide +kernel
theorem dX3_addToParagraph_13 : decode cX3_addToParagraph 13 = .ok (.iadd, 1) := by decide +kernel
theorem dX3_addToParagraph_14 : decode cX3_addToParagraph 14 = .ok (.iconst 1, 1) := by decide +kernel
theorem dX3_addToParagraph_15 : decode cX3_addToParagraph 15 = .ok (.invokevirtual 146, 3) := by decide +kernel
theorem dX3_addToParagraph_18 : decode cX3_addToParagraph 18 = .ok (.return_, 1) := by decide +kernel
theorem dX3_addToOpenQuotes_0 : decode cX3_addToOpenQuotes 0 = .ok (.aload_n 0, 1) := by decide +kernel
theorem dX3_addToOpenQuotes_1 : decode cX3_addToOpenQuotes 1 = .ok (.getfield 51, 3) := by decide +kernel
theorem dX3_addToOpenQuotes_4 : decode cX3_addToOpenQuotes 4 = .ok (.invokestatic 87, 3) := by decide +kernel
theorem dX3_addToOpenQuotes_7 : decode cX3_addToOpenQuotes 7 = .ok (.istore_n 2, 1) := by decide +kernel
theorem dX3_addToOpenQuotes_8 : decode cX3_addToOpenQuotes 8 = .ok (.iconst 1, 1) := by decide +kernel
theorem dX3_addToOpenQuotes_9 : decode cX3_addToOpenQuotes 9 = .ok (.istore_n 3, 1) := by decide +kernel
theorem dX3_addToOpenQuotes_10 : decode cX3_addToOpenQuotes 10 = .ok (.iload_n 3, 1) := by decide +kernel
theorem dX3_addToOpenQuotes_11 : decode cX3_addToOpenQuotes 11 = .ok (.iload_n 2, 1) := by decide +kernel
theorem dX3_addToOpenQuotes_12 : decode cX3_addToOpenQuotes 12 = .ok (.if_icmp .gt 30, 3) := by decide +kernel
theorem dX3_addToOpenQuotes_15 : decode cX3_addToOpenQuotes 15 = .ok (.aload_n 0, 1) := by decide +kernel
theorem dX3_addToOpenQuotes_16 : decode cX3_addToOpenQuotes 16 = .ok (.getfield 39, 3) := by decide +kernel
theorem dX3_addToOpenQuotes_19 : decode cX3_addToOpenQuotes 19 = .ok (.aload_n 0, 1) := by decide +kernel
theorem dX3_addToOpenQuotes_20 : decode cX3_addToOpenQuotes 20 = .ok (.getfield 48, 3) := by decide +kernel
theorem dX3_addToOpenQuotes_23 : decode cX3_addToOpenQuotes 23 = .ok (.iload_n 3, 1) := by decide +kernel
theorem dX3_addToOpenQuotes_24 : decode cX3_addToOpenQuotes 24 = .ok (.invokevirtual 76, 3) := by decide +kernel
theorem dX3_addToOpenQuotes_27 : decode cX3_addToOpenQuotes 27 = .ok (.bipush 7, 2) := by decide +kernel
theorem dX3_addToOpenQuotes_29 : decode cX3_addToOpenQuotes 29 = .ok (.imul, 1) := by decide +kernel
theorem dX3_addToOpenQuotes_30 : decode cX3_addToOpenQuotes 30 = .ok (.iload_n 1, 1) := by decide +kernel
theorem dX3_addToOpenQuotes_31 : decode cX3_addToOpenQuotes 31 = .ok (.iadd, 1) := by decide +kernel
theorem dX3_addToOpenQuotes_32 : decode cX3_addToOpenQuotes 32 = .ok (.iconst 1, 1) := by decide +kernel
theorem dX3_addToOpenQuotes_33 : decode cX3_addToOpenQuotes 33 = .ok (.invokevirtual 146, 3) := by decide +kernel
theorem dX3_addToOpenQuotes_36 : decode cX3_addToOpenQuotes 36 = .ok (.iinc 3 1, 3) := by decide +kernel
theorem dX3_addToOpenQuotes_39 : decode cX3_addToOpenQuotes 39 = .ok (.goto (-29), 3) := by decide +kernel
theorem dX3_addToOpenQuotes_42 : decode cX3_addToOpenQuotes 42 = .ok (.return_, 1) := by decide +kernel
theorem dX3_openQuote_0 : decode cX3_openQuote 0 = .ok (.aload_n 0, 1) := by decide +kernel
theorem dX3_openQuote_1 : decode cX3_openQuote 1 = .ok (.getfield 51, 3) := by decide +kernel
theorem dX3_openQuote_4 : decode cX3_openQuote 4 = .ok (.invokestatic 87, 3) := by decide +kernel
theorem dX3_openQuote_7 : decode cX3_openQuote 7 = .ok (.istore_n 2, 1) := by decide +kernel
theorem dX3_openQuote_8 : decode cX3_openQuote 8 = .ok (.aload_n 0, 1) := by decide +kernel
theorem dX3_openQuote_9 : decode cX3_openQuote 9 = .ok (.bipush 6, 2) := by decide +kernel
theorem dX3_openQuote_11 : decode cX3_openQuote 11 = .ok (.invokevirtual 134, 3) := by decide +kernel
theorem dX3_openQuote_14 : decode cX3_openQuote 14 = .ok (.aload_n 0, 1) := by decide +kernel
theorem dX3_openQuote_15 : decode cX3_openQuote 15 = .ok (.getfield 102, 3) := by decide +kernel
theorem dX3_openQuote_18 : decode cX3_openQuote 18 = .ok (.bipush 7, 2) := by decide +kernel
theorem dX3_openQuote_20 : decode cX3_openQuote 20 = .ok (.imul, 1) := by decide +kernel
theorem dX3_openQuote_21 : decode cX3_openQuote 21 = .ok (.istore_n 3, 1) := by decide +kernel
theorem dX3_openQuote_22 : decode cX3_openQuote 22 = .ok (.iconst 0, 1) := by decide +kernel
theorem dX3_openQuote_23 : decode cX3_openQuote 23 = .ok (.istore 4, 2) := by decide +kernel
theorem dX3_openQuote_25 : decode cX3_openQuote 25 = .ok (.iload 4, 2) := by decide +kernel
theorem dX3_openQuote_27 : decode cX3_openQuote 27 = .ok (.bipush 7, 2) := by decide +kernel
theorem dX3_openQuote_29 : decode cX3_openQuote 29 = .ok (.if_icmp .ge 21, 3) := by decide +kernel
theorem dX3_openQuote_32 : decode cX3_openQuote 32 = .ok (.aload_n 0, 1) := by decide +kernel
theorem dX3_openQuote_33 : decode cX3_openQuote 33 = .ok (.getfield 39, 3) := by decide +kernel
theorem dX3_openQuote_36 : decode cX3_openQuote 36 = .ok (.iload_n 3, 1) := by decide +kernel
theorem dX3_openQuote_37 : decode cX3_openQuote 37 = .ok (.iload 4, 2) := by decide +kernel
theorem dX3_openQuote_39 : decode cX3_openQuote 39 = .ok (.iadd, 1) := by decide +kernel
theorem dX3_openQuote_40 : decode cX3_openQuote 40 = .ok (.iconst 0, 1) := by decide +kernel
theorem dX3_openQuote_41 : decode cX3_openQuote 41 = .ok (.invokevirtual 90, 3) := by decide +kernel
theorem dX3_openQuote_44 : decode cX3_openQuote 44 = .ok (.iinc 4 1, 3) := by decide +kernel
theorem dX3_openQuote_47 : decode cX3_openQuote 47 = .ok (.goto (-22), 3) := by decide +kernel
theorem dX3_openQuote_50 : decode cX3_openQuote 50 = .ok (.aload_n 0, 1) := by decide +kernel
theorem dX3_openQuote_51 : decode cX3_openQuote 51 = .ok (.getfield 39, 3) := by decide +kernel
theorem dX3_openQuote_54 : decode cX3_openQuote 54 = .ok (.iload_n 3, 1) := by decide +kernel
theorem dX3_openQuote_55 : decode cX3_openQuote 55 = .ok (.iconst 0, 1) := by decide +kernel
theorem dX3_openQuote_56 : decode cX3_openQuote 56 = .ok (.iadd, 1) := by decide +kernel
theorem dX3_openQuote_57 : decode cX3_openQuote 57 = .ok (.iload_n 1, 1) := by decide +kernel
theorem dX3_openQuote_58 : decode cX3_openQuote 58 = .ok (.invokevirtual 90, 3) := by decide +kernel
theorem dX3_openQuote_61 : decode cX3_openQuote 61 = .ok (.aload_n 0, 1) := by decide +kernel
theorem dX3_openQuote_62 : decode cX3_openQuote 62 = .ok (.getfield 39, 3) := by decide +kernel
theorem dX3_openQuote_65 : decode cX3_openQuote 65 = .ok (.iload_n 3, 1) := by decide +kernel
theorem dX3_openQuote_66 : decode cX3_openQuote 66 = .ok (.iconst 1, 1) := by decide +kernel
theorem dX3_openQuote_67 : decode cX3_openQuote 67 = .ok (.iadd, 1) := by decide +kernel
theorem dX3_openQuote_68 : decode cX3_openQuote 68 = .ok (.bipush (-4), 2) := by decide +kernel
theorem dX3_openQuote_70 : decode cX3_openQuote 70 = .ok (.invokevirtual 90, 3) := by decide +kernel
theorem dX3_openQuote_73 : decode cX3_openQuote 73 = .ok (.aload_n 0, 1) := by decide +kernel
theorem dX3_openQuote_74 : decode cX3_openQuote 74 = .ok (.getfield 39, 3) := by decide +kernel
theorem dX3_openQuote_77 : decode cX3_openQuote 77 = .ok (.iload_n 3, 1) := by decide +kernel
theorem dX3_openQuote_78 : decode cX3_openQuote 78 = .ok (.iconst 2, 1) := by decide +kernel
theorem dX3_openQuote_79 : decode cX3_openQuote 79 = .ok (.iadd, 1) := by decide +kernel
theorem dX3_openQuote_80 : decode cX3_openQuote 80 = .ok (.iload_n 2, 1) := by decide +kernel
theorem dX3_openQuote_81 : decode cX3_openQuote 81 = .ok (.iconst 1, 1) := by decide +kernel
theorem dX3_openQuote_82 : decode cX3_openQuote 82 = .ok (.iadd, 1) := by decide +kernel
theorem dX3_openQuote_83 : decode cX3_openQuote 83 = .ok (.invokevirtual 90, 3) := by decide +kernel
theorem dX3_openQuote_86 : decode cX3_openQuote 86 = .ok (.aload_n 0, 1) := by decide +kernel
theorem dX3_openQuote_87 : decode cX3_openQuote 87 = .ok (.getfield 48, 3) := by decide +kernel
theorem dX3_openQuote_90 : decode cX3_openQuote 90 = .ok (.iload_n 2, 1) := by decide +kernel
theorem dX3_openQuote_91 : decode cX3_openQuote 91 = .ok (.iconst 1, 1) := by decide +kernel
theorem dX3_openQuote_92 : decode cX3_openQuote 92 = .ok (.iadd, 1) := by decide +kernel
theorem dX3_openQuote_93 : decode cX3_openQuote 93 = .ok (.aload_n 0, 1) := by decide +kernel
theorem dX3_openQuote_94 : decode cX3_openQuote 94 = .ok (.getfield 102, 3) := by decide +kernel
theorem dX3_openQuote_97 : decode cX3_openQuote 97 = .ok (.invokevirtual 90, 3) := by decide +kernel
theorem dX3_openQuote_100 : decode cX3_openQuote 100 = .ok (.aload_n 0, 1) := by decide +kernel
theorem dX3_openQuote_101 : decode cX3_openQuote 101 = .ok (.dup, 1) := by decide +kernel
theorem dX3_openQuote_102 : decode cX3_openQuote 102 = .ok (.getfield 102, 3) := by decide +kernel
theorem dX3_openQuote_105 : decode cX3_openQuote 105 = .ok (.iconst 1, 1) := by decide +kernel
theorem dX3_openQuote_106 : decode cX3_openQuote 106 = .ok (.iadd, 1) := by decide +kernel
theorem dX3_openQuote_107 : decode cX3_openQuote 107 = .ok (.putfield 102, 3) := by decide +kernel
theorem dX3_openQuote_110 : decode cX3_openQuote 110 = .ok (.aload_n 0, 1) := by decide +kernel
theorem dX3_openQuote_111 : decode cX3_openQuote 111 = .ok (.aload_n 0, 1) := by decide +kernel
theorem dX3_openQuote_112 : decode cX3_openQuote 112 = .ok (.getfield 108, 3) := by decide +kernel
theorem dX3_openQuote_115 : decode cX3_openQuote 115 = .ok (.iload_n 2, 1) := by decide +kernel
theorem dX3_openQuote_116 : decode cX3_openQuote 116 = .ok (.iconst 1, 1) := by decide +kernel
theorem dX3_openQuote_117 : decode cX3_openQuote 117 = .ok (.iadd, 1) := by decide +kernel
theorem dX3_openQuote_118 : decode cX3_openQuote 118 = .ok (.invokestatic 149, 3) := by decide +kernel
theorem dX3_openQuote_121 : decode cX3_openQuote 121 = .ok (.putfield 108, 3) := by decide +kernel
theorem dX3_openQuote_124 : decode cX3_openQuote 124 = .ok (.aload_n 0, 1) := by decide +kernel
theorem dX3_openQuote_125 : decode cX3_openQuote 125 = .ok (.getfield 23, 3) := by decide +kernel
theorem dX3_openQuote_128 : decode cX3_openQuote 128 = .ok (.iload_n 1, 1) := by decide +kernel
theorem dX3_openQuote_129 : decode cX3_openQuote 129 = .ok (.iconst 3, 1) := by decide +kernel
theorem dX3_openQuote_130 : decode cX3_openQuote 130 = .ok (.invokevirtual 90, 3) := by decide +kernel
theorem dX3_openQuote_133 : decode cX3_openQuote 133 = .ok (.aload_n 0, 1) := by decide +kernel
theorem dX3_openQuote_134 : decode cX3_openQuote 134 = .ok (.getfield 33, 3) := by decide +kernel
theorem dX3_openQuote_137 : decode cX3_openQuote 137 = .ok (.iload_n 1, 1) := by decide +kernel
theorem dX3_openQuote_138 : decode cX3_openQuote 138 = .ok (.iload_n 2, 1) := by decide +kernel
theorem dX3_openQuote_139 : decode cX3_openQuote 139 = .ok (.invokevirtual 90, 3) := by decide +kernel
theorem dX3_openQuote_142 : decode cX3_openQuote 142 = .ok (.aload_n 0, 1) := by decide +kernel
theorem dX3_openQuote_143 : decode cX3_openQuote 143 = .ok (.getfield 30, 3) := by decide +kernel
theorem dX3_openQuote_146 : decode cX3_openQuote 146 = .ok (.iload_n 1, 1) := by decide +kernel
theorem dX3_openQuote_147 : decode cX3_openQuote 147 = .ok (.bipush (-4), 2) := by decide +kernel
theorem dX3_openQuote_149 : decode cX3_openQuote 149 = .ok (.invokevirtual 90, 3) := by decide +kernel
theorem dX3_openQuote_152 : decode cX3_openQuote 152 = .ok (.return_, 1) := by decide +kernel
theorem dX3_closeQuote_0 : decode cX3_closeQuote 0 = .ok (.aload_n 0, 1) := by decide +kernel
theorem dX3_closeQuote_1 : decode cX3_closeQuote 1 = .ok (.getfield 51, 3) := by decide +kernel
theorem dX3_closeQuote_4 : decode cX3_closeQuote 4 = .ok (.invokestatic 87, 3) := by decide +kernel
theorem dX3_closeQuote_7 : decode cX3_closeQuote 7 = .ok (.istore_n 2, 1) := by decide +kernel
theorem dX3_closeQuote_8 : decode cX3_closeQuote 8 = .ok (.aload_n 0, 1) := by decide +kernel
theorem dX3_closeQuote_9 : decode cX3_closeQuote 9 = .ok (.getfield 48, 3) := by decide +kernel
theorem dX3_closeQuote_12 : decode cX3_closeQuote 12 = .ok (.iload_n 2, 1) := by decide +kernel
theorem dX3_closeQuote_13 : decode cX3_closeQuote 13 = .ok (.invokevirtual 76, 3) := by decide +kernel
theorem dX3_closeQuote_16 : decode cX3_closeQuote 16 = .ok (.bipush 7, 2) := by decide +kernel
theorem dX3_closeQuote_18 : decode cX3_closeQuote 18 = .ok (.imul, 1) := by decide +kernel
theorem dX3_closeQuote_19 : decode cX3_closeQuote 19 = .ok (.istore_n 3, 1) := by decide +kernel
theorem dX3_closeQuote_20 : decode cX3_closeQuote 20 = .ok (.aload_n 0, 1) := by decide +kernel
theorem dX3_closeQuote_21 : decode cX3_closeQuote 21 = .ok (.getfield 39, 3) := by decide +kernel
theorem dX3_closeQuote_24 : decode cX3_closeQuote 24 = .ok (.iload_n 3, 1) := by decide +kernel
theorem dX3_closeQuote_25 : decode cX3_closeQuote 25 = .ok (.iconst 0, 1) := by decide +kernel
theorem dX3_closeQuote_26 : decode cX3_closeQuote 26 = .ok (.iadd, 1) := by decide +kernel
theorem dX3_closeQuote_27 : decode cX3_closeQuote 27 = .ok (.invokevirtual 76, 3) := by decide +kernel
theorem dX3_closeQuote_30 : decode cX3_closeQuote 30 = .ok (.istore 4, 2) := by decide +kernel
theorem dX3_closeQuote_32 : decode cX3_closeQuote 32 = .ok (.aload_n 0, 1) := by decide +kernel
theorem dX3_closeQuote_33 : decode cX3_closeQuote 33 = .ok (.getfield 39, 3) := by decide +kernel
theorem dX3_closeQuote_36 : decode cX3_closeQuote 36 = .ok (.iload_n 3, 1) := by decide +kernel
theorem dX3_closeQuote_37 : decode cX3_closeQuote 37 = .ok (.iconst 1, 1) := by decide +kernel
theorem dX3_closeQuote_38 : decode cX3_closeQuote 38 = .ok (.iadd, 1) := by decide +kernel
theorem dX3_closeQuote_39 : decode cX3_closeQuote 39 = .ok (.iload_n 1, 1) := by decide +kernel
theorem dX3_closeQuote_40 : decode cX3_closeQuote 40 = .ok (.invokevirtual 90, 3) := by decide +kernel
theorem dX3_closeQuote_43 : decode cX3_closeQuote 43 = .ok (.aload_n 0, 1) := by decide +kernel
theorem dX3_closeQuote_44 : decode cX3_closeQuote 44 = .ok (.getfield 23, 3) := by decide +kernel
theorem dX3_closeQuote_47 : decode cX3_closeQuote 47 = .ok (.iload_n 1, 1) := by decide +kernel
theorem dX3_closeQuote_48 : decode cX3_closeQuote 48 = .ok (.iconst 4, 1) := by decide +kernel
theorem dX3_closeQuote_49 : decode cX3_closeQuote 49 = .ok (.invokevirtual 90, 3) := by decide +kernel
theorem dX3_closeQuote_52 : decode cX3_closeQuote 52 = .ok (.aload_n 0, 1) := by decide +kernel
theorem dX3_closeQuote_53 : decode cX3_closeQuote 53 = .ok (.getfield 33, 3) := by decide +kernel
theorem dX3_closeQuote_56 : decode cX3_closeQuote 56 = .ok (.iload_n 1, 1) := by decide +kernel
theorem dX3_closeQuote_57 : decode cX3_closeQuote 57 = .ok (.iload_n 2, 1) := by decide +kernel
theorem dX3_closeQuote_58 : decode cX3_closeQuote 58 = .ok (.invokevirtual 90, 3) := by decide +kernel
theorem dX3_closeQuote_61 : decode cX3_closeQuote 61 = .ok (.aload_n 0, 1) := by decide +kernel
theorem dX3_closeQuote_62 : decode cX3_closeQuote 62 = .ok (.getfield 30, 3) := by decide +kernel
theorem dX3_closeQuote_65 : decode cX3_closeQuote 65 = .ok (.iload_n 1, 1) := by decide +kernel
theorem dX3_closeQuote_66 : decode cX3_closeQuote 66 = .ok (.iload 4, 2) := by decide +kernel
theorem dX3_closeQuote_68 : decode cX3_closeQuote 68 = .ok (.invokevirtual 90, 3) := by decide +kernel
theorem dX3_closeQuote_71 : decode cX3_closeQuote 71 = .ok (.aload_n 0, 1) := by decide +kernel
theorem dX3_closeQuote_72 : decode cX3_closeQuote 72 = .ok (.getfield 30, 3) := by decide +kernel
theorem dX3_closeQuote_75 : decode cX3_closeQuote 75 = .ok (.iload 4, 2) := by decide +kernel
theorem dX3_closeQuote_77 : decode cX3_closeQuote 77 = .ok (.iload_n 1, 1) := by decide +kernel
theorem dX3_closeQuote_78 : decode cX3_closeQuote 78 = .ok (.invokevirtual 90, 3) := by decide +kernel
theorem dX3_closeQuote_81 : decode cX3_closeQuote 81 = .ok (.return_, 1) := by decide +kernel
theorem dX3_addWrong_0 : decode cX3_addWrong 0 = .ok (.aload_n 0, 1) := by decide +kernel
theorem dX3_addWrong_1 : decode cX3_addWrong 1 = .ok (.getfield 36, 3) := by decide +kernel
theorem dX3_addWrong_4 : decode cX3_addWrong 4 = .ok (.aload_n 0, 1) := by decide +kernel
theorem dX3_addWrong_5 : decode cX3_addWrong 5 = .ok (.getfield 99, 3) := by decide +kernel
theorem dX3_addWrong_8 : decode cX3_addWrong 8 = .ok (.iconst 2, 1) := by decide +kernel
theorem dX3_addWrong_9 : decode cX3_addWrong 9 = .ok (.imul, 1) := by decide +kernel
theorem dX3_addWrong_10 : decode cX3_addWrong 10 = .ok (.iload_n 1, 1) := by decide +kernel
theorem dX3_addWrong_11 : decode cX3_addWrong 11 = .ok (.invokevirtual 90, 3) := by decide +kernel
theorem dX3_addWrong_14 : decode cX3_addWrong 14 = .ok (.aload_n 0, 1) := by decide +kernel
theorem dX3_addWrong_15 : decode cX3_addWrong 15 = .ok (.getfield 36, 3) := by decide +kernel
theorem dX3_addWrong_18 : decode cX3_addWrong 18 = .ok (.aload_n 0, 1) := by decide +kernel
theorem dX3_addWrong_19 : decode cX3_addWrong 19 = .ok (.getfield 99, 3) := by decide +kernel
theorem dX3_addWrong_22 : decode cX3_addWrong 22 = .ok (.iconst 2, 1) := by decide +kernel
theorem dX3_addWrong_23 : decode cX3_addWrong 23 = .ok (.imul, 1) := by decide +kernel
theorem dX3_addWrong_24 : decode cX3_addWrong 24 = .ok (.iconst 1, 1) := by decide +kernel
theorem dX3_addWrong_25 : decode cX3_addWrong 25 = .ok (.iadd, 1) := by decide +kernel
theorem dX3_addWrong_26 : decode cX3_addWrong 26 = .ok (.iload_n 2, 1) := by decide +kernel
theorem dX3_addWrong_27 : decode cX3_addWrong 27 = .ok (.invokevirtual 90, 3) := by decide +kernel
theorem dX3_addWrong_30 : decode cX3_addWrong 30 = .ok (.aload_n 0, 1) := by decide +kernel
theorem dX3_addWrong_31 : decode cX3_addWrong 31 = .ok (.dup, 1) := by decide +kernel
theorem dX3_addWrong_32 : decode cX3_addWrong 32 = .ok (.getfield 99, 3) := by decide +kernel
theorem dX3_addWrong_35 : decode cX3_addWrong 35 = .ok (.iconst 1, 1) := by decide +kernel
theorem dX3_addWrong_36 : decode cX3_addWrong 36 = .ok (.iadd, 1) := by decide +kernel
theorem dX3_addWrong_37 : decode cX3_addWrong 37 = .ok (.putfield 99, 3) := by decide +kernel
theorem dX3_addWrong_40 : decode cX3_addWrong 40 = .ok (.return_, 1) := by decide +kernel
theorem dX4_init_0 : decode cX4_init 0 = .ok (.aload_n 0, 1) := by decide +kernel
theorem dX4_init_1 : decode cX4_init 1 = .ok (.invokespecial 1, 3) := by decide +kernel
theorem dX4_init_4 : decode cX4_init 4 = .ok (.aload_n 0, 1) := by decide +kernel
theorem dX4_init_5 : decode cX4_init 5 = .ok (.iload_n 1, 1) := by decide +kernel
theorem dX4_init_6 : decode cX4_init 6 = .ok (.iconst 0, 1) := by decide +kernel
theorem dX4_init_7 : decode cX4_init 7 = .ok (.invokestatic 7, 3) := by decide +kernel
theorem dX4_init_10 : decode cX4_init 10 = .ok (.newarray .int, 2) := by decide +kernel
theorem dX4_init_12 : decode cX4_init 12 = .ok (.putfield 13, 3) := by decide +kernel
theorem dX4_init_15 : decode cX4_init 15 = .ok (.return_, 1) := by decide +kernel
theorem dX4_at_0 : decode cX4_at 0 = .ok (.iload_n 1, 1) := by decide +kernel
theorem dX4_at_1 : decode cX4_at 1 = .ok (.ifCond .lt 21, 3) := by decide +kernel
theorem dX4_at_4 : decode cX4_at 4 = .ok (.iload_n 1, 1) := by decide +kernel
theorem dX4_at_5 : decode cX4_at 5 = .ok (.aload_n 0, 1) := by decide +kernel
theorem dX4_at_6 : decode cX4_at 6 = .ok (.getfield 13, 3) := by decide +kernel
theorem dX4_at_9 : decode cX4_at 9 = .ok (.arraylength, 1) := by decide +kernel
theorem dX4_at_10 : decode cX4_at 10 = .ok (.if_icmp .ge 12, 3) := by decide +kernel
theorem dX4_at_13 : decode cX4_at 13 = .ok (.aload_n 0, 1) := by decide +kernel
theorem dX4_at_14 : decode cX4_at 14 = .ok (.getfield 13, 3) := by decide +kernel
theorem dX4_at_17 : decode cX4_at 17 = .ok (.iload_n 1, 1) := by decide +kernel
theorem dX4_at_18 : decode cX4_at 18 = .ok (.iaload, 1) := by decide +kernel
theorem dX4_at_19 : decode cX4_at 19 = .ok (.goto 4, 3) := by decide +kernel
theorem dX4_at_22 : decode cX4_at 22 = .ok (.iconst 0, 1) := by decide +kernel
theorem dX4_at_23 : decode cX4_at 23 = .ok (.ireturn, 1) := by decide +kernel
theorem dX4_set_0 : decode cX4_set 0 = .ok (.iload_n 1, 1) := by decide +kernel
theorem dX4_set_1 : decode cX4_set 1 = .ok (.ifCond .lt 19, 3) := by decide +kernel
theorem dX4_set_4 : decode cX4_set 4 = .ok (.iload_n 1, 1) := by decide +kernel
theorem dX4_set_5 : decode cX4_set 5 = .ok (.aload_n 0, 1) := by decide +kernel
theorem dX4_set_6 : decode cX4_set 6 = .ok (.getfield 13, 3) := by decide +kernel
theorem dX4_set_9 : decode cX4_set 9 = .ok (.arraylength, 1) := by decide +kernel
theorem dX4_set_10 : decode cX4_set 10 = .ok (.if_icmp .ge 10, 3) := by decide +kernel
theorem dX4_set_13 : decode cX4_set 13 = .ok (.aload_n 0, 1) := by decide +kernel
theorem dX4_set_14 : decode cX4_set 14 = .ok (.getfield 13, 3) := by decide +kernel
theorem dX4_set_17 : decode cX4_set 17 = .ok (.iload_n 1, 1) := by decide +kernel
theorem dX4_set_18 : decode cX4_set 18 = .ok (.iload_n 2, 1) := by decide +kernel
theorem dX4_set_19 : decode cX4_set 19 = .ok (.iastore, 1) := by decide +kernel
theorem dX4_set_20 : decode cX4_set 20 = .ok (.return_, 1) := by decide +kernel
theorem dX4_add_0 : decode cX4_add 0 = .ok (.iload_n 1, 1) := by decide +kernel
theorem dX4_add_1 : decode cX4_add 1 = .ok (.ifCond .lt 22, 3) := by decide +kernel
theorem dX4_add_4 : decode cX4_add 4 = .ok (.iload_n 1, 1) := by decide +kernel
theorem dX4_add_5 : decode cX4_add 5 = .ok (.aload_n 0, 1) := by decide +kernel
theorem dX4_add_6 : decode cX4_add 6 = .ok (.getfield 13, 3) := by decide +kernel
theorem dX4_add_9 : decode cX4_add 9 = .ok (.arraylength, 1) := by decide +kernel
theorem dX4_add_10 : decode cX4_add 10 = .ok (.if_icmp .ge 13, 3) := by decide +kernel
theorem dX4_add_13 : decode cX4_add 13 = .ok (.aload_n 0, 1) := by decide +kernel
theorem dX4_add_14 : decode cX4_add 14 = .ok (.getfield 13, 3) := by decide +kernel
theorem dX4_add_17 : decode cX4_add 17 = .ok (.iload_n 1, 1) := by decide +kernel
theorem dX4_add_18 : decode cX4_add 18 = .ok (.dup2, 1) := by decide +kernel
theorem dX4_add_19 : decode cX4_add 19 = .ok (.iaload, 1) := by decide +kernel
theorem dX4_add_20 : decode cX4_add 20 = .ok (.iload_n 2, 1) := by decide +kernel
theorem dX4_add_21 : decode cX4_add 21 = .ok (.iadd, 1) := by decide +kernel
theorem dX4_add_22 : decode cX4_add 22 = .ok (.iastore, 1) := by decide +kernel
theorem dX4_add_23 : decode cX4_add 23 = .ok (.return_, 1) := by decide +kernel
theorem dX4_fill_0 : decode cX4_fill 0 = .ok (.iconst 0, 1) := by decide +kernel
theorem dX4_fill_1 : decode cX4_fill 1 = .ok (.istore_n 2, 1) := by decide +kernel
theorem dX4_fill_2 : decode cX4_fill 2 = .ok (.iload_n 2, 1) := by decide +kernel
theorem dX4_fill_3 : decode cX4_fill 3 = .ok (.aload_n 0, 1) := by decide +kernel
theorem dX4_fill_4 : decode cX4_fill 4 = .ok (.getfield 13, 3) := by decide +kernel
theorem dX4_fill_7 : decode cX4_fill 7 = .ok (.arraylength, 1) := by decide +kernel
theorem dX4_fill_8 : decode cX4_fill 8 = .ok (.if_icmp .ge 16, 3) := by decide +kernel
theorem dX4_fill_11 : decode cX4_fill 11 = .ok (.aload_n 0, 1) := by decide +kernel
theorem dX4_fill_12 : decode cX4_fill 12 = .ok (.getfield 13, 3) := by decide +kernel
theorem dX4_fill_15 : decode cX4_fill 15 = .ok (.iload_n 2, 1) := by decide +kernel
theorem dX4_fill_16 : decode cX4_fill 16 = .ok (.iload_n 1, 1) := by decide +kernel
theorem dX4_fill_17 : decode cX4_fill 17 = .ok (.iastore, 1) := by decide +kernel
theorem dX4_fill_18 : decode cX4_fill 18 = .ok (.iinc 2 1, 3) := by decide +kernel
theorem dX4_fill_21 : decode cX4_fill 21 = .ok (.goto (-19), 3) := by decide +kernel
theorem dX4_fill_24 : decode cX4_fill 24 = .ok (.return_, 1) := by decide +kernel
theorem dX4_copyFrom_0 : decode cX4_copyFrom 0 = .ok (.iconst 0, 1) := by decide +kernel
theorem dX4_copyFrom_1 : decode cX4_copyFrom 1 = .ok (.istore_n 3, 1) := by decide +kernel
theorem dX4_copyFrom_2 : decode cX4_copyFrom 2 = .ok (.iload_n 3, 1) := by decide +kernel
theorem dX4_copyFrom_3 : decode cX4_copyFrom 3 = .ok (.iload_n 2, 1) := by decide +kernel
theorem dX4_copyFrom_4 : decode cX4_copyFrom 4 = .ok (.if_icmp .ge 19, 3) := by decide +kernel
theorem dX4_copyFrom_7 : decode cX4_copyFrom 7 = .ok (.aload_n 0, 1) := by decide +kernel
theorem dX4_copyFrom_8 : decode cX4_copyFrom 8 = .ok (.iload_n 3, 1) := by decide +kernel
theorem dX4_copyFrom_9 : decode cX4_copyFrom 9 = .ok (.aload_n 1, 1) := by decide +kernel
theorem dX4_copyFrom_10 : decode cX4_copyFrom 10 = .ok (.iload_n 3, 1) := by decide +kernel
theorem dX4_copyFrom_11 : decode cX4_copyFrom 11 = .ok (.invokevirtual 19, 3) := by decide +kernel
theorem dX4_copyFrom_14 : decode cX4_copyFrom 14 = .ok (.invokevirtual 23, 3) := by decide +kernel
theorem dX4_copyFrom_17 : decode cX4_copyFrom 17 = .ok (.iinc 3 1, 3) := by decide +kernel
theorem dX4_copyFrom_20 : decode cX4_copyFrom 20 = .ok (.goto (-18), 3) := by decide +kernel
theorem dX4_copyFrom_23 : decode cX4_copyFrom 23 = .ok (.return_, 1) := by decide +kernel
theorem dX5_init_0 : decode cX5_init 0 = .ok (.aload_n 0, 1) := by decide +kernel
theorem dX5_init_1 : decode cX5_init 1 = .ok (.invokespecial 3, 3) := by decide +kernel
theorem dX5_init_4 : decode cX5_init 4 = .ok (.aload_n 0, 1) := by decide +kernel
theorem dX5_init_5 : decode cX5_init 5 = .ok (.new 9, 3) := by decide +kernel
theorem dX5_init_8 : decode cX5_init 8 = .ok (.dup, 1) := by decide +kernel
theorem dX5_init_9 : decode cX5_init 9 = .ok (.bipush 120, 2) := by decide +kernel
theorem dX5_init_11 : decode cX5_init 11 = .ok (.invokespecial 11, 3) := by decide +kernel
theorem dX5_init_14 : decode cX5_init 14 = .ok (.putfield 14, 3) := by decide +kernel
theorem dX5_init_17 : decode cX5_init 17 = .ok (.aload_n 0, 1) := by decide +kernel
theorem dX5_init_18 : decode cX5_init 18 = .ok (.new 9, 3) := by decide +kernel
theorem dX5_init_21 : decode cX5_init 21 = .ok (.dup, 1) := by decide +kernel
theorem dX5_init_22 : decode cX5_init 22 = .ok (.iconst 3, 1) := by decide +kernel
theorem dX5_init_23 : decode cX5_init 23 = .ok (.invokespecial 11, 3) := by decide +kernel
theorem dX5_init_26 : decode cX5_init 26 = .ok (.putfield 20, 3) := by decide +kernel
theorem dX5_init_29 : decode cX5_init 29 = .ok (.aload_n 0, 1) := by decide +kernel
theorem dX5_init_30 : decode cX5_init 30 = .ok (.iconst 0, 1) := by decide +kernel
theorem dX5_init_31 : decode cX5_init 31 = .ok (.putfield 23, 3) := by decide +kernel
theorem dX5_init_34 : decode cX5_init 34 = .ok (.aload_n 0, 1) := by decide +kernel
theorem dX5_init_35 : decode cX5_init 35 = .ok (.iconst 0, 1) := by decide +kernel
theorem dX5_init_36 : decode cX5_init 36 = .ok (.putfield 27, 3) := by decide +kernel
theorem dX5_init_39 : decode cX5_init 39 = .ok (.aload_n 0, 1) := by decide +kernel
theorem dX5_init_40 : decode cX5_init 40 = .ok (.iconst 1, 1) := by decide +kernel
theorem dX5_init_41 : decode cX5_init 41 = .ok (.putfield 30, 3) := by decide +kernel
theorem dX5_init_44 : decode cX5_init 44 = .ok (.aload_n 0, 1) := by decide +kernel
theorem dX5_init_45 : decode cX5_init 45 = .ok (.getfield 20, 3) := by decide +kernel
theorem dX5_init_48 : decode cX5_init 48 = .ok (.iconst 1, 1) := by decide +kernel
theorem dX5_init_49 : decode cX5_init 49 = .ok (.invokevirtual 33, 3) := by decide +kernel
theorem dX5_init_52 : decode cX5_init 52 = .ok (.return_, 1) := by decide +kernel
theorem dX5_becomeLike_0 : decode cX5_becomeLike 0 = .ok (.aload_n 0, 1) := by decide +kernel
theorem dX5_becomeLike_1 : decode cX5_becomeLike 1 = .ok (.aload_n 1, 1) := by decide +kernel
theorem dX5_becomeLike_2 : decode cX5_becomeLike 2 = .ok (.getfield 14, 3) := by decide +kernel
theorem dX5_becomeLike_5 : decode cX5_becomeLike 5 = .ok (.aload_n 1, 1) := by decide +kernel
theorem dX5_becomeLike_6 : decode cX5_becomeLike 6 = .ok (.getfield 23, 3) := by decide +kernel
theorem dX5_becomeLike_9 : decode cX5_becomeLike 9 = .ok (.invokevirtual 36, 3) := by decide +kernel
theorem dX5_becomeLike_12 : decode cX5_becomeLike 12 = .ok (.aload_n 0, 1) := by decide +kernel
theorem dX5_becomeLike_13 : decode cX5_becomeLike 13 = .ok (.aload_n 1, 1) := by decide +kernel
theorem dX5_becomeLike_14 : decode cX5_becomeLike 14 = .ok (.getfield 27, 3) := by decide +kernel
theorem dX5_becomeLike_17 : decode cX5_becomeLike 17 = .ok (.putfield 27, 3) := by decide +kernel
theorem dX5_becomeLike_20 : decode cX5_becomeLike 20 = .ok (.aload_n 0, 1) := by decide +kernel
theorem dX5_becomeLike_21 : decode cX5_becomeLike 21 = .ok (.aload_n 1, 1) := by decide +kernel
theorem dX5_becomeLike_22 : decode cX5_becomeLike 22 = .ok (.getfield 30, 3) := by decide +kernel
theorem dX5_becomeLike_25 : decode cX5_becomeLike 25 = .ok (.putfield 30, 3) := by decide +kernel
theorem dX5_becomeLike_28 : decode cX5_becomeLike 28 = .ok (.aload_n 0, 1) := by decide +kernel
theorem dX5_becomeLike_29 : decode cX5_becomeLike 29 = .ok (.getfield 20, 3) := by decide +kernel
theorem dX5_becomeLike_32 : decode cX5_becomeLike 32 = .ok (.aload_n 1, 1) := by decide +kernel
theorem dX5_becomeLike_33 : decode cX5_becomeLike 33 = .ok (.getfield 20, 3) := by decide +kernel
theorem dX5_becomeLike_36 : decode cX5_becomeLike 36 = .ok (.iconst 3, 1) := by decide +kernel
theorem dX5_becomeLike_37 : decode cX5_becomeLike 37 = .ok (.invokevirtual 40, 3) := by decide +kernel
theorem dX5_becomeLike_40 : decode cX5_becomeLike 40 = .ok (.return_, 1) := by decide +kernel
theorem dX5_replaceBy_0 : decode cX5_replaceBy 0 = .ok (.aload_n 0, 1) := by decide +kernel
theorem dX5_replaceBy_1 : decode cX5_replaceBy 1 = .ok (.iload_n 2, 1) := by decide +kernel
theorem dX5_replaceBy_2 : decode cX5_replaceBy 2 = .ok (.bipush 120, 2) := by decide +kernel
theorem dX5_replaceBy_4 : decode cX5_replaceBy 4 = .ok (.invokestatic 43, 3) := by decide +kernel
theorem dX5_replaceBy_7 : decode cX5_replaceBy 7 = .ok (.putfield 23, 3) := by decide +kernel
theorem dX5_replaceBy_10 : decode cX5_replaceBy 10 = .ok (.aload_n 0, 1) := by decide +kernel
theorem dX5_replaceBy_11 : decode cX5_replaceBy 11 = .ok (.getfield 14, 3) := by decide +kernel
theorem dX5_replaceBy_14 : decode cX5_replaceBy 14 = .ok (.aload_n 1, 1) := by decide +kernel
theorem dX5_replaceBy_15 : decode cX5_replaceBy 15 = .ok (.aload_n 0, 1) := by decide +kernel
theorem dX5_replaceBy_16 : decode cX5_replaceBy 16 = .ok (.getfield 23, 3) := by decide +kernel
theorem dX5_replaceBy_19 : decode cX5_replaceBy 19 = .ok (.invokevirtual 40, 3) := by decide +kernel
theorem dX5_replaceBy_22 : decode cX5_replaceBy 22 = .ok (.return_, 1) := by decide +kernel
theorem dX5_insert_0 : decode cX5_insert 0 = .ok (.aload_n 0, 1) := by decide +kernel
theorem dX5_insert_1 : decode cX5_insert 1 = .ok (.getfield 23, 3) := by decide +kernel
theorem dX5_insert_4 : decode cX5_insert 4 = .ok (.istore_n 3, 1) := by decide +kernel
theorem dX5_insert_5 : decode cX5_insert 5 = .ok (.iload_n 3, 1) := by decide +kernel
theorem dX5_insert_6 : decode cX5_insert 6 = .ok (.iload_n 1, 1) := by decide +kernel
theorem dX5_insert_7 : decode cX5_insert 7 = .ok (.if_icmp .le 27, 3) := by decide +kernel
theorem dX5_insert_10 : decode cX5_insert 10 = .ok (.aload_n 0, 1) := by decide +kernel
theorem dX5_insert_11 : decode cX5_insert 11 = .ok (.getfield 14, 3) := by decide +kernel
theorem dX5_insert_14 : decode cX5_insert 14 = .ok (.iload_n 3, 1) := by decide +kernel
theorem dX5_insert_15 : decode cX5_insert 15 = .ok (.aload_n 0, 1) := by decide +kernel
theorem dX5_insert_16 : decode cX5_insert 16 = .ok (.getfield 14, 3) := by decide +kernel
theorem dX5_insert_19 : decode cX5_insert 19 = .ok (.iload_n 3, 1) := by decide +kernel
theorem dX5_insert_20 : decode cX5_insert 20 = .ok (.iconst 1, 1) := by decide +kernel
theorem dX5_insert_21 : decode cX5_insert 21 = .ok (.isub, 1) := by decide +kernel
theorem dX5_insert_22 : decode cX5_insert 22 = .ok (.invokevirtual 49, 3) := by decide +kernel
theorem dX5_insert_25 : decode cX5_insert 25 = .ok (.invokevirtual 53, 3) := by decide +kernel
theorem dX5_insert_28 : decode cX5_insert 28 = .ok (.iinc 3 (-1), 3) := by decide +kernel
theorem dX5_insert_31 : decode cX5_insert 31 = .ok (.goto (-26), 3) := by decide +kernel
theorem dX5_insert_34 : decode cX5_insert 34 = .ok (.aload_n 0, 1) := by decide +kernel
theorem dX5_insert_35 : decode cX5_insert 35 = .ok (.getfield 14, 3) := by decide +kernel
theorem dX5_insert_38 : decode cX5_insert 38 = .ok (.iload_n 1, 1) := by decide +kernel
theorem dX5_insert_39 : decode cX5_insert 39 = .ok (.iload_n 2, 1) := by decide +kernel
theorem dX5_insert_40 : decode cX5_insert 40 = .ok (.invokevirtual 53, 3) := by decide +kernel
theorem dX5_insert_43 : decode cX5_insert 43 = .ok (.aload_n 0, 1) := by decide +kernel
theorem dX5_insert_44 : decode cX5_insert 44 = .ok (.aload_n 0, 1) := by decide +kernel
theorem dX5_insert_45 : decode cX5_insert 45 = .ok (.getfield 23, 3) := by decide +kernel
theorem dX5_insert_48 : decode cX5_insert 48 = .ok (.iconst 1, 1) := by decide +kernel
theorem dX5_insert_49 : decode cX5_insert 49 = .ok (.iadd, 1) := by decide +kernel
theorem dX5_insert_50 : decode cX5_insert 50 = .ok (.bipush 120, 2) := by decide +kernel
theorem dX5_insert_52 : decode cX5_insert 52 = .ok (.invokestatic 43, 3) := by decide +kernel
theorem dX5_insert_55 : decode cX5_insert 55 = .ok (.putfield 23, 3) := by decide +kernel
theorem dX5_insert_58 : decode cX5_insert 58 = .ok (.return_, 1) := by decide +kernel
theorem dX5_remove_0 : decode cX5_remove 0 = .ok (.iload_n 1, 1) := by decide +kernel
theorem dX5_remove_1 : decode cX5_remove 1 = .ok (.istore_n 2, 1) := by decide +kernel
theorem dX5_remove_2 : decode cX5_remove 2 = .ok (.iload_n 2, 1) := by decide +kernel
theorem dX5_remove_3 : decode cX5_remove 3 = .ok (.aload_n 0, 1) := by decide +kernel
theorem dX5_remove_4 : decode cX5_remove 4 = .ok (.getfield 23, 3) := by decide +kernel
theorem dX5_remove_7 : decode cX5_remove 7 = .ok (.iconst 1, 1) := by decide +kernel
theorem dX5_remove_8 : decode cX5_remove 8 = .ok (.isub, 1) := by decide +kernel
theorem dX5_remove_9 : decode cX5_remove 9 = .ok (.if_icmp .ge 27, 3) := by decide +kernel
theorem dX5_remove_12 : decode cX5_remove 12 = .ok (.aload_n 0, 1) := by decide +kernel
theorem dX5_remove_13 : decode cX5_remove 13 = .ok (.getfield 14, 3) := by decide +kernel
theorem dX5_remove_16 : decode cX5_remove 16 = .ok (.iload_n 2, 1) := by decide +kernel
theorem dX5_remove_17 : decode cX5_remove 17 = .ok (.aload_n 0, 1) := by decide +kernel
theorem dX5_remove_18 : decode cX5_remove 18 = .ok (.getfield 14, 3) := by decide +kernel
theorem dX5_remove_21 : decode cX5_remove 21 = .ok (.iload_n 2, 1) := by decide +kernel
theorem dX5_remove_22 : decode cX5_remove 22 = .ok (.iconst 1, 1) := by decide +kernel
theorem dX5_remove_23 : decode cX5_remove 23 = .ok (.iadd, 1) := by decide +kernel
theorem dX5_remove_24 : decode cX5_remove 24 = .ok (.invokevirtual 49, 3) := by decide +kernel
theorem dX5_remove_27 : decode cX5_remove 27 = .ok (.invokevirtual 53, 3) := by decide +kernel
theorem dX5_remove_30 : decode cX5_remove 30 = .ok (.iinc 2 1, 3) := by decide +kernel
theorem dX5_remove_33 : decode cX5_remove 33 = .ok (.goto (-31), 3) := by decide +kernel
theorem dX5_remove_36 : decode cX5_remove 36 = .ok (.aload_n 0, 1) := by decide +kernel
theorem dX5_remove_37 : decode cX5_remove 37 = .ok (.aload_n 0, 1) := by decide +kernel
theorem dX5_remove_38 : decode cX5_remove 38 = .ok (.getfield 23, 3) := by decide +kernel
theorem dX5_remove_41 : decode cX5_remove 41 = .ok (.iconst 1, 1) := by decide +kernel
theorem dX5_remove_42 : decode cX5_remove 42 = .ok (.isub, 1) := by decide +kernel
theorem dX5_remove_43 : decode cX5_remove 43 = .ok (.iconst 0, 1) := by decide +kernel
theorem dX5_remove_44 : decode cX5_remove 44 = .ok (.invokestatic 57, 3) := by decide +kernel
theorem dX5_remove_47 : decode cX5_remove 47 = .ok (.putfield 23, 3) := by decide +kernel
theorem dX5_remove_50 : decode cX5_remove 50 = .ok (.return_, 1) := by decide +kernel
theorem dX5_marks_0 : decode cX5_marks 0 = .ok (.iconst 0, 1) := by decide +kernel
theorem dX5_marks_1 : decode cX5_marks 1 = .ok (.istore_n 1, 1) := by decide +kernel
theorem dX5_marks_2 : decode cX5_marks 2 = .ok (.iconst 0, 1) := by decide +kernel
theorem dX5_marks_3 : decode cX5_marks 3 = .ok (.istore_n 2, 1) := by decide +kernel
theorem dX5_marks_4 : decode cX5_marks 4 = .ok (.iload_n 2, 1) := by decide +kernel
theorem dX5_marks_5 : decode cX5_marks 5 = .ok (.aload_n 0, 1) := by decide +kernel
theorem dX5_marks_6 : decode cX5_marks 6 = .ok (.getfield 23, 3) := by decide +kernel
theorem dX5_marks_9 : decode cX5_marks 9 = .ok (.if_icmp .ge 26, 3) := by decide +kernel
theorem dX5_marks_12 : decode cX5_marks 12 = .ok (.aload_n 0, 1) := by decide +kernel
theorem dX5_marks_13 : decode cX5_marks 13 = .ok (.getfield 14, 3) := by decide +kernel
theorem dX5_marks_16 : decode cX5_marks 16 = .ok (.iload_n 2, 1) := by decide +kernel
theorem dX5_marks_17 : decode cX5_marks 17 = .ok (.invokevirtual 49, 3) := by decide +kernel
theorem dX5_marks_20 : decode cX5_marks 20 = .ok (.invokestatic 60, 3) := by decide +kernel
theorem dX5_marks_23 : decode cX5_marks 23 = .ok (.ifCond .eq 6, 3) := by decide +kernel
theorem dX5_marks_26 : decode cX5_marks 26 = .ok (.iinc 1 1, 3) := by decide +kernel
theorem dX5_marks_29 : decode cX5_marks 29 = .ok (.iinc 2 1, 3) := by decide +kernel
theorem dX5_marks_32 : decode cX5_marks 32 = .ok (.goto (-28), 3) := by decide +kernel
theorem dX5_marks_35 : decode cX5_marks 35 = .ok (.iload_n 1, 1) := by decide +kernel
theorem dX5_marks_36 : decode cX5_marks 36 = .ok (.ireturn, 1) := by decide +kernel
theorem dX6_init_0 : decode cX6_init 0 = .ok (.aload_n 0, 1) := by decide +kernel
theorem dX6_init_1 : decode cX6_init 1 = .ok (.invokespecial 3, 3) := by decide +kernel
theorem dX6_init_4 : decode cX6_init 4 = .ok (.aload_n 0, 1) := by decide +kernel
theorem dX6_init_5 : decode cX6_init 5 = .ok (.new 9, 3) := by decide +kernel
theorem dX6_init_8 : decode cX6_init 8 = .ok (.dup, 1) := by decide +kernel
theorem dX6_init_9 : decode cX6_init 9 = .ok (.sipush 200, 3) := by decide +kernel
theorem dX6_init_12 : decode cX6_init 12 = .ok (.invokespecial 11, 3) := by decide +kernel
theorem dX6_init_15 : decode cX6_init 15 = .ok (.putfield 14, 3) := by decide +kernel
theorem dX6_init_18 : decode cX6_init 18 = .ok (.aload_n 0, 1) := by decide +kernel
theorem dX6_init_19 : decode cX6_init 19 = .ok (.new 18, 3) := by decide +kernel
theorem dX6_init_22 : decode cX6_init 22 = .ok (.dup, 1) := by decide +kernel
theorem dX6_init_23 : decode cX6_init 23 = .ok (.invokespecial 20, 3) := by decide +kernel
theorem dX6_init_26 : decode cX6_init 26 = .ok (.putfield 21, 3) := by decide +kernel
theorem dX6_init_29 : decode cX6_init 29 = .ok (.aload_n 0, 1) := by decide +kernel
theorem dX6_init_30 : decode cX6_init 30 = .ok (.new 25, 3) := by decide +kernel
theorem dX6_init_33 : decode cX6_init 33 = .ok (.dup, 1) := by decide +kernel
theorem dX6_init_34 : decode cX6_init 34 = .ok (.invokespecial 27, 3) := by decide +kernel
theorem dX6_init_37 : decode cX6_init 37 = .ok (.putfield 28, 3) := by decide +kernel
theorem dX6_init_40 : decode cX6_init 40 = .ok (.aload_n 0, 1) := by decide +kernel
theorem dX6_init_41 : decode cX6_init 41 = .ok (.new 32, 3) := by decide +kernel
theorem dX6_init_44 : decode cX6_init 44 = .ok (.dup, 1) := by decide +kernel
theorem dX6_init_45 : decode cX6_init 45 = .ok (.invokespecial 34, 3) := by decide +kernel
theorem dX6_init_48 : decode cX6_init 48 = .ok (.putfield 35, 3) := by decide +kernel
theorem dX6_init_51 : decode cX6_init 51 = .ok (.aload_n 0, 1) := by decide +kernel
theorem dX6_init_52 : decode cX6_init 52 = .ok (.new 39, 3) := by decide +kernel
theorem dX6_init_55 : decode cX6_init 55 = .ok (.dup, 1) := by decide +kernel
theorem dX6_init_56 : decode cX6_init 56 = .ok (.invokespecial 41, 3) := by decide +kernel
theorem dX6_init_59 : decode cX6_init 59 = .ok (.putfield 42, 3) := by decide +kernel
theorem dX6_init_62 : decode cX6_init 62 = .ok (.aload_n 0, 1) := by decide +kernel
theorem dX6_init_63 : decode cX6_init 63 = .ok (.iconst 0, 1) := by decide +kernel
theorem dX6_init_64 : decode cX6_init 64 = .ok (.putfield 46, 3) := by decide +kernel
theorem dX6_init_67 : decode cX6_init 67 = .ok (.aload_n 0, 1) := by decide +kernel
theorem dX6_init_68 : decode cX6_init 68 = .ok (.iconst 0, 1) := by decide +kernel
theorem dX6_init_69 : decode cX6_init 69 = .ok (.putfield 50, 3) := by decide +kernel
theorem dX6_init_72 : decode cX6_init 72 = .ok (.aload_n 0, 1) := by decide +kernel
theorem dX6_init_73 : decode cX6_init 73 = .ok (.iconst 0, 1) := by decide +kernel
theorem dX6_init_74 : decode cX6_init 74 = .ok (.putfield 54, 3) := by decide +kernel
theorem dX6_init_77 : decode cX6_init 77 = .ok (.return_, 1) := by decide +kernel
theorem dX6_write_0 : decode cX6_write 0 = .ok (.iload_n 1, 1) := by decide +kernel
theorem dX6_write_1 : decode cX6_write 1 = .ok (.bipush 32, 2) := by decide +kernel
theorem dX6_write_3 : decode cX6_write 3 = .ok (.if_icmp .lt 9, 3) := by decide +kernel
theorem dX6_write_6 : decode cX6_write 6 = .ok (.iload_n 1, 1) := by decide +kernel
theorem dX6_write_7 : decode cX6_write 7 = .ok (.bipush 126, 2) := by decide +kernel
theorem dX6_write_9 : decode cX6_write 9 = .ok (.if_icmp .le 5, 3) := by decide +kernel
theorem dX6_write_12 : decode cX6_write 12 = .ok (.iconst (-1), 1) := by decide +kernel
theorem dX6_write_13 : decode cX6_write 13 = .ok (.ireturn, 1) := by decide +kernel
theorem dX6_write_14 : decode cX6_write 14 = .ok (.aload_n 0, 1) := by decide +kernel
theorem dX6_write_15 : decode cX6_write 15 = .ok (.getfield 46, 3) := by decide +kernel
theorem dX6_write_18 : decode cX6_write 18 = .ok (.sipush 200, 3) := by decide +kernel
theorem dX6_write_21 : decode cX6_write 21 = .ok (.if_icmp .lt 6, 3) := by decide +kernel
theorem dX6_write_24 : decode cX6_write 24 = .ok (.bipush (-3), 2) := by decide +kernel
theorem dX6_write_26 : decode cX6_write 26 = .ok (.ireturn, 1) := by decide +kernel
theorem dX6_write_27 : decode cX6_write 27 = .ok (.aload_n 0, 1) := by decide +kernel
theorem dX6_write_28 : decode cX6_write 28 = .ok (.getfield 14, 3) := by decide +kernel
theorem dX6_write_31 : decode cX6_write 31 = .ok (.aload_n 0, 1) := by decide +kernel
theorem dX6_write_32 : decode cX6_write 32 = .ok (.getfield 46, 3) := by decide +kernel
theorem dX6_write_35 : decode cX6_write 35 = .ok (.iload_n 1, 1) := by decide +kernel
theorem dX6_write_36 : decode cX6_write 36 = .ok (.invokevirtual 57, 3) := by decide +kernel
theorem dX6_write_39 : decode cX6_write 39 = .ok (.aload_n 0, 1) := by decide +kernel
theorem dX6_write_40 : decode cX6_write 40 = .ok (.dup, 1) := by decide +kernel
theorem dX6_write_41 : decode cX6_write 41 = .ok (.getfield 46, 3) := by decide +kernel
theorem dX6_write_44 : decode cX6_write 44 = .ok (.iconst 1, 1) := by decide +kernel
theorem dX6_write_45 : decode cX6_write 45 = .ok (.iadd, 1) := by decide +kernel
theorem dX6_write_46 : decode cX6_write 46 = .ok (.putfield 46, 3) := by decide +kernel
theorem dX6_write_49 : decode cX6_write 49 = .ok (.aload_n 0, 1) := by decide +kernel
theorem dX6_write_50 : decode cX6_write 50 = .ok (.getfield 46, 3) := by decide +kernel
theorem dX6_write_53 : decode cX6_write 53 = .ok (.ireturn, 1) := by decide +kernel
theorem dX6_wipe_0 : decode cX6_wipe 0 = .ok (.aload_n 0, 1) := by decide +kernel
theorem dX6_wipe_1 : decode cX6_wipe 1 = .ok (.getfield 46, 3) := by decide +kernel
theorem dX6_wipe_4 : decode cX6_wipe 4 = .ok (.istore_n 1, 1) := by decide +kernel
theorem dX6_wipe_5 : decode cX6_wipe 5 = .ok (.aload_n 0, 1) := by decide +kernel
theorem dX6_wipe_6 : decode cX6_wipe 6 = .ok (.iconst 0, 1) := by decide +kernel
theorem dX6_wipe_7 : decode cX6_wipe 7 = .ok (.putfield 46, 3) := by decide +kernel
theorem dX6_wipe_10 : decode cX6_wipe 10 = .ok (.iload_n 1, 1) := by decide +kernel
theorem dX6_wipe_11 : decode cX6_wipe 11 = .ok (.ireturn, 1) := by decide +kernel
theorem dX6_fault_0 : decode cX6_fault 0 = .ok (.iconst 0, 1) := by decide +kernel
theorem dX6_fault_1 : decode cX6_fault 1 = .ok (.istore_n 1, 1) := by decide +kernel
theorem dX6_fault_2 : decode cX6_fault 2 = .ok (.iload_n 1, 1) := by decide +kernel
theorem dX6_fault_3 : decode cX6_fault 3 = .ok (.aload_n 0, 1) := by decide +kernel
theorem dX6_fault_4 : decode cX6_fault 4 = .ok (.getfield 46, 3) := by decide +kernel
theorem dX6_fault_7 : decode cX6_fault 7 = .ok (.if_icmp .ge 31, 3) := by decide +kernel
theorem dX6_fault_10 : decode cX6_fault 10 = .ok (.iload_n 1, 1) := by decide +kernel
theorem dX6_fault_11 : decode cX6_fault 11 = .ok (.bipush 120, 2) := by decide +kernel
theorem dX6_fault_13 : decode cX6_fault 13 = .ok (.if_icmp .ge 17, 3) := by decide +kernel
theorem dX6_fault_16 : decode cX6_fault 16 = .ok (.aload_n 0, 1) := by decide +kernel
theorem dX6_fault_17 : decode cX6_fault 17 = .ok (.getfield 14, 3) := by decide +kernel
theorem dX6_fault_20 : decode cX6_fault 20 = .ok (.iload_n 1, 1) := by decide +kernel
theorem dX6_fault_21 : decode cX6_fault 21 = .ok (.invokevirtual 61, 3) := by decide +kernel
theorem dX6_fault_24 : decode cX6_fault 24 = .ok (.invokestatic 65, 3) := by decide +kernel
theorem dX6_fault_27 : decode cX6_fault 27 = .ok (.ifCond .ne 5, 3) := by decide +kernel
theorem dX6_fault_30 : decode cX6_fault 30 = .ok (.iload_n 1, 1) := by decide +kernel
theorem dX6_fault_31 : decode cX6_fault 31 = .ok (.ireturn, 1) := by decide +kernel
theorem dX6_fault_32 : decode cX6_fault 32 = .ok (.iinc 1 1, 3) := by decide +kernel
theorem dX6_fault_35 : decode cX6_fault 35 = .ok (.goto (-33), 3) := by decide +kernel
theorem dX6_fault_38 : decode cX6_fault 38 = .ok (.bipush (-4), 2) := by decide +kernel
theorem dX6_fault_40 : decode cX6_fault 40 = .ok (.ireturn, 1) := by decide +kernel
theorem dX6_lay_0 : decode cX6_lay 0 = .ok (.aload_n 0, 1) := by decide +kernel
theorem dX6_lay_1 : decode cX6_lay 1 = .ok (.invokevirtual 69, 3) := by decide +kernel
theorem dX6_lay_4 : decode cX6_lay 4 = .ok (.bipush (-4), 2) := by decide +kernel
theorem dX6_lay_6 : decode cX6_lay 6 = .ok (.if_icmp .eq 6, 3) := by decide +kernel
theorem dX6_lay_9 : decode cX6_lay 9 = .ok (.bipush (-2), 2) := by decide +kernel
theorem dX6_lay_11 : decode cX6_lay 11 = .ok (.ireturn, 1) := by decide +kernel
theorem dX6_lay_12 : decode cX6_lay 12 = .ok (.aload_n 0, 1) := by decide +kernel
theorem dX6_lay_13 : decode cX6_lay 13 = .ok (.getfield 21, 3) := by decide +kernel
theorem dX6_lay_16 : decode cX6_lay 16 = .ok (.aload_n 0, 1) := by decide +kernel
theorem dX6_lay_17 : decode cX6_lay 17 = .ok (.getfield 14, 3) := by decide +kernel
theorem dX6_lay_20 : decode cX6_lay 20 = .ok (.aload_n 0, 1) := by decide +kernel
theorem dX6_lay_21 : decode cX6_lay 21 = .ok (.getfield 46, 3) := by decide +kernel
theorem dX6_lay_24 : decode cX6_lay 24 = .ok (.invokevirtual 73, 3) := by decide +kernel
theorem dX6_lay_27 : decode cX6_lay 27 = .ok (.aload_n 0, 1) := by decide +kernel
theorem dX6_lay_28 : decode cX6_lay 28 = .ok (.getfield 28, 3) := by decide +kernel
theorem dX6_lay_31 : decode cX6_lay 31 = .ok (.invokevirtual 77, 3) := by decide +kernel
theorem dX6_lay_34 : decode cX6_lay 34 = .ok (.aload_n 0, 1) := by decide +kernel
theorem dX6_lay_35 : decode cX6_lay 35 = .ok (.invokevirtual 80, 3) := by decide +kernel
theorem dX6_lay_38 : decode cX6_lay 38 = .ok (.aload_n 0, 1) := by decide +kernel
theorem dX6_lay_39 : decode cX6_lay 39 = .ok (.getfield 21, 3) := by decide +kernel
theorem dX6_lay_42 : decode cX6_lay 42 = .ok (.getfield 83, 3) := by decide +kernel
theorem dX6_lay_45 : decode cX6_lay 45 = .ok (.ireturn, 1) := by decide +kernel
theorem dX6_speak_0 : decode cX6_speak 0 = .ok (.aload_n 0, 1) := by decide +kernel
theorem dX6_speak_1 : decode cX6_speak 1 = .ok (.invokevirtual 86, 3) := by decide +kernel
theorem dX6_speak_4 : decode cX6_speak 4 = .ok (.istore_n 1, 1) := by decide +kernel
theorem dX6_speak_5 : decode cX6_speak 5 = .ok (.iload_n 1, 1) := by decide +kernel
theorem dX6_speak_6 : decode cX6_speak 6 = .ok (.bipush (-4), 2) := by decide +kernel
theorem dX6_speak_8 : decode cX6_speak 8 = .ok (.if_icmp .ne 6, 3) := by decide +kernel
theorem dX6_speak_11 : decode cX6_speak 11 = .ok (.bipush (-4), 2) := by decide +kernel
theorem dX6_speak_13 : decode cX6_speak 13 = .ok (.ireturn, 1) := by decide +kernel
theorem dX6_speak_14 : decode cX6_speak 14 = .ok (.iload_n 1, 1) := by decide +kernel
theorem dX6_speak_15 : decode cX6_speak 15 = .ok (.aload_n 0, 1) := by decide +kernel
theorem dX6_speak_16 : decode cX6_speak 16 = .ok (.getfield 21, 3) := by decide +kernel
theorem dX6_speak_19 : decode cX6_speak 19 = .ok (.getfield 89, 3) := by decide +kernel
theorem dX6_speak_22 : decode cX6_speak 22 = .ok (.if_icmp .ne 6, 3) := by decide +kernel
theorem dX6_speak_25 : decode cX6_speak 25 = .ok (.bipush (-2), 2) := by decide +kernel
theorem dX6_speak_27 : decode cX6_speak 27 = .ok (.ireturn, 1) := by decide +kernel
theorem dX6_speak_28 : decode cX6_speak 28 = .ok (.aload_n 0, 1) := by decide +kernel
theorem dX6_speak_29 : decode cX6_speak 29 = .ok (.invokevirtual 92, 3) := by decide +kernel
theorem dX6_speak_32 : decode cX6_speak 32 = .ok (.aload_n 0, 1) := by decide +kernel
theorem dX6_speak_33 : decode cX6_speak 33 = .ok (.getfield 21, 3) := by decide +kernel
theorem dX6_speak_36 : decode cX6_speak 36 = .ok (.iload_n 1, 1) := by decide +kernel
theorem dX6_speak_37 : decode cX6_speak 37 = .ok (.putfield 89, 3) := by decide +kernel
theorem dX6_speak_40 : decode cX6_speak 40 = .ok (.iload_n 1, 1) := by decide +kernel
theorem dX6_speak_41 : decode cX6_speak 41 = .ok (.ireturn, 1) := by decide +kernel
theorem dX6_rule_0 : decode cX6_rule 0 = .ok (.iload_n 1, 1) := by decide +kernel
theorem dX6_rule_1 : decode cX6_rule 1 = .ok (.iconst 3, 1) := by decide +kernel
theorem dX6_rule_2 : decode cX6_rule 2 = .ok (.invokestatic 95, 3) := by decide +kernel
theorem dX6_rule_5 : decode cX6_rule 5 = .ok (.ifCond .ne 5, 3) := by decide +kernel
theorem dX6_rule_8 : decode cX6_rule 8 = .ok (.iconst (-1), 1) := by decide +kernel
theorem dX6_rule_9 : decode cX6_rule 9 = .ok (.ireturn, 1) := by decide +kernel
theorem dX6_rule_10 : decode cX6_rule 10 = .ok (.iload_n 1, 1) := by decide +kernel
theorem dX6_rule_11 : decode cX6_rule 11 = .ok (.aload_n 0, 1) := by decide +kernel
theorem dX6_rule_12 : decode cX6_rule 12 = .ok (.getfield 21, 3) := by decide +kernel
theorem dX6_rule_15 : decode cX6_rule 15 = .ok (.getfield 99, 3) := by decide +kernel
theorem dX6_rule_18 : decode cX6_rule 18 = .ok (.if_icmp .ne 6, 3) := by decide +kernel
theorem dX6_rule_21 : decode cX6_rule 21 = .ok (.bipush (-2), 2) := by decide +kernel
theorem dX6_rule_23 : decode cX6_rule 23 = .ok (.ireturn, 1) := by decide +kernel
theorem dX6_rule_24 : decode cX6_rule 24 = .ok (.aload_n 0, 1) := by decide +kernel
theorem dX6_rule_25 : decode cX6_rule 25 = .ok (.invokevirtual 92, 3) := by decide +kernel
theorem dX6_rule_28 : decode cX6_rule 28 = .ok (.aload_n 0, 1) := by decide +kernel
theorem dX6_rule_29 : decode cX6_rule 29 = .ok (.getfield 21, 3) := by decide +kernel
theorem dX6_rule_32 : decode cX6_rule 32 = .ok (.getfield 99, 3) := by decide +kernel
theorem dX6_rule_35 : decode cX6_rule 35 = .ok (.istore_n 2, 1) := by decide +kernel
theorem dX6_rule_36 : decode cX6_rule 36 = .ok (.aload_n 0, 1) := by decide +kernel
theorem dX6_rule_37 : decode cX6_rule 37 = .ok (.getfield 21, 3) := by decide +kernel
theorem dX6_rule_40 : decode cX6_rule 40 = .ok (.iload_n 1, 1) := by decide +kernel
theorem dX6_rule_41 : decode cX6_rule 41 = .ok (.putfield 99, 3) := by decide +kernel
theorem dX6_rule_44 : decode cX6_rule 44 = .ok (.iload_n 2, 1) := by decide +kernel
theorem dX6_rule_45 : decode cX6_rule 45 = .ok (.ireturn, 1) := by decide +kernel
theorem dX6_weigh_0 : decode cX6_weigh 0 = .ok (.iload_n 1, 1) := by decide +kernel
theorem dX6_weigh_1 : decode cX6_weigh 1 = .ok (.iconst 3, 1) := by decide +kernel
theorem dX6_weigh_2 : decode cX6_weigh 2 = .ok (.invokestatic 95, 3) := by decide +kernel
theorem dX6_weigh_5 : decode cX6_weigh 5 = .ok (.ifCond .eq 14, 3) := by decide +kernel
theorem dX6_weigh_8 : decode cX6_weigh 8 = .ok (.iload_n 2, 1) := by decide +kernel
theorem dX6_weigh_9 : decode cX6_weigh 9 = .ok (.iconst 1, 1) := by decide +kernel
theorem dX6_weigh_10 : decode cX6_weigh 10 = .ok (.if_icmp .lt 9, 3) := by decide +kernel
theorem dX6_weigh_13 : decode cX6_weigh 13 = .ok (.iload_n 2, 1) := by decide +kernel
theorem dX6_weigh_14 : decode cX6_weigh 14 = .ok (.bipush 9, 2) := by decide +kernel
theorem dX6_weigh_16 : decode cX6_weigh 16 = .ok (.if_icmp .le 5, 3) := by decide +kernel
theorem dX6_weigh_19 : decode cX6_weigh 19 = .ok (.iconst (-1), 1) := by decide +kernel
theorem dX6_weigh_20 : decode cX6_weigh 20 = .ok (.ireturn, 1) := by decide +kernel
theorem dX6_weigh_21 : decode cX6_weigh 21 = .ok (.aload_n 0, 1) := by decide +kernel
theorem dX6_weigh_22 : decode cX6_weigh 22 = .ok (.getfield 21, 3) := by decide +kernel
theorem dX6_weigh_25 : decode cX6_weigh 25 = .ok (.getfield 102, 3) := by decide +kernel
theorem dX6_weigh_28 : decode cX6_weigh 28 = .ok (.iload_n 1, 1) := by decide +kernel
theorem dX6_weigh_29 : decode cX6_weigh 29 = .ok (.invokevirtual 61, 3) := by decide +kernel
theorem dX6_weigh_32 : decode cX6_weigh 32 = .ok (.istore_n 3, 1) := by decide +kernel
theorem dX6_weigh_33 : decode cX6_weigh 33 = .ok (.iload_n 2, 1) := by decide +kernel
theorem dX6_weigh_34 : decode cX6_weigh 34 = .ok (.iload_n 3, 1) := by decide +kernel
theorem dX6_weigh_35 : decode cX6_weigh 35 = .ok (.if_icmp .ne 6, 3) := by decide +kernel
theorem dX6_weigh_38 : decode cX6_weigh 38 = .ok (.bipush (-2), 2) := by decide +kernel
theorem dX6_weigh_40 : decode cX6_weigh 40 = .ok (.ireturn, 1) := by decide +kernel
theorem dX6_weigh_41 : decode cX6_weigh 41 = .ok (.aload_n 0, 1) := by decide +kernel
theorem dX6_weigh_42 : decode cX6_weigh 42 = .ok (.invokevirtual 92, 3) := by decide +kernel
theorem dX6_weigh_45 : decode cX6_weigh 45 = .ok (.aload_n 0, 1) := by decide +kernel
theorem dX6_weigh_46 : decode cX6_weigh 46 = .ok (.getfield 21, 3) := by decide +kernel
theorem dX6_weigh_49 : decode cX6_weigh 49 = .ok (.getfield 102, 3) := by decide +kernel
theorem dX6_weigh_52 : decode cX6_weigh 52 = .ok (.iload_n 1, 1) := by decide +kernel
theorem dX6_weigh_53 : decode cX6_weigh 53 = .ok (.iload_n 2, 1) := by decide +kernel
theorem dX6_weigh_54 : decode cX6_weigh 54 = .ok (.invokevirtual 57, 3) := by decide +kernel
theorem dX6_weigh_57 : decode cX6_weigh 57 = .ok (.iload_n 3, 1) := by decide +kernel
theorem dX6_weigh_58 : decode cX6_weigh 58 = .ok (.ireturn, 1) := by decide +kernel
theorem dX6_put_0 : decode cX6_put 0 = .ok (.iload_n 1, 1) := by decide +kernel
theorem dX6_put_1 : decode cX6_put 1 = .ok (.ifCond .lt 21, 3) := by decide +kernel
theorem dX6_put_4 : decode cX6_put 4 = .ok (.iload_n 1, 1) := by decide +kernel
theorem dX6_put_5 : decode cX6_put 5 = .ok (.aload_n 0, 1) := by decide +kernel
theorem dX6_put_6 : decode cX6_put 6 = .ok (.getfield 21, 3) := by decide +kernel
theorem dX6_put_9 : decode cX6_put 9 = .ok (.getfield 83, 3) := by decide +kernel
theorem dX6_put_12 : decode cX6_put 12 = .ok (.if_icmp .gt 10, 3) := by decide +kernel
theorem dX6_put_15 : decode cX6_put 15 = .ok (.iload_n 2, 1) := by decide +kernel
theorem dX6_put_16 : decode cX6_put 16 = .ok (.invokestatic 65, 3) := by decide +kernel
theorem dX6_put_19 : decode cX6_put 19 = .ok (.ifCond .ne 5, 3) := by decide +kernel
theorem dX6_put_22 : decode cX6_put 22 = .ok (.iconst (-1), 1) := by decide +kernel
theorem dX6_put_23 : decode cX6_put 23 = .ok (.ireturn, 1) := by decide +kernel
theorem dX6_put_24 : decode cX6_put 24 = .ok (.aload_n 0, 1) := by decide +kernel
theorem dX6_put_25 : decode cX6_put 25 = .ok (.getfield 21, 3) := by decide +kernel
theorem dX6_put_28 : decode cX6_put 28 = .ok (.getfield 83, 3) := by decide +kernel
theorem dX6_put_31 : decode cX6_put 31 = .ok (.bipush 120, 2) := by decide +kernel
theorem dX6_put_33 : decode cX6_put 33 = .ok (.if_icmp .lt 6, 3) := by decide +kernel
theorem dX6_put_36 : decode cX6_put 36 = .ok (.bipush (-3), 2) := by decide +kernel
theorem dX6_put_38 : decode cX6_put 38 = .ok (.ireturn, 1) := by decide +kernel
theorem dX6_put_39 : decode cX6_put 39 = .ok (.aload_n 0, 1) := by decide +kernel
theorem dX6_put_40 : decode cX6_put 40 = .ok (.invokevirtual 92, 3) := by decide +kernel
theorem dX6_put_43 : decode cX6_put 43 = .ok (.aload_n 0, 1) := by decide +kernel
theorem dX6_put_44 : decode cX6_put 44 = .ok (.getfield 21, 3) := by decide +kernel
theorem dX6_put_47 : decode cX6_put 47 = .ok (.iload_n 1, 1) := by decide +kernel
theorem dX6_put_48 : decode cX6_put 48 = .ok (.iload_n 2, 1) := by decide +kernel
theorem dX6_put_49 : decode cX6_put 49 = .ok (.invokevirtual 105, 3) := by decide +kernel
theorem dX6_put_52 : decode cX6_put 52 = .ok (.aload_n 0, 1) := by decide +kernel
theorem dX6_put_53 : decode cX6_put 53 = .ok (.getfield 21, 3) := by decide +kernel
theorem dX6_put_56 : decode cX6_put 56 = .ok (.getfield 83, 3) := by decide +kernel
theorem dX6_put_59 : decode cX6_put 59 = .ok (.ireturn, 1) := by decide +kernel
theorem dX6_take_0 : decode cX6_take 0 = .ok (.iload_n 1, 1) := by decide +kernel
theorem dX6_take_1 : decode cX6_take 1 = .ok (.aload_n 0, 1) := by decide +kernel
theorem dX6_take_2 : decode cX6_take 2 = .ok (.getfield 21, 3) := by decide +kernel
theorem dX6_take_5 : decode cX6_take 5 = .ok (.getfield 83, 3) := by decide +kernel
theorem dX6_take_8 : decode cX6_take 8 = .ok (.invokestatic 95, 3) := by decide +kernel
theorem dX6_take_11 : decode cX6_take 11 = .ok (.ifCond .ne 5, 3) := by decide +kernel
theorem dX6_take_14 : decode cX6_take 14 = .ok (.iconst (-1), 1) := by decide +kernel
theorem dX6_take_15 : decode cX6_take 15 = .ok (.ireturn, 1) := by decide +kernel
theorem dX6_take_16 : decode cX6_take 16 = .ok (.aload_n 0, 1) := by decide +kernel
theorem dX6_take_17 : decode cX6_take 17 = .ok (.getfield 21, 3) := by decide +kernel
theorem dX6_take_20 : decode cX6_take 20 = .ok (.getfield 108, 3) := by decide +kernel
theorem dX6_take_23 : decode cX6_take 23 = .ok (.iload_n 1, 1) := by decide +kernel
theorem dX6_take_24 : decode cX6_take 24 = .ok (.invokevirtual 61, 3) := by decide +kernel
theorem dX6_take_27 : decode cX6_take 27 = .ok (.istore_n 2, 1) := by decide +kernel
theorem dX6_take_28 : decode cX6_take 28 = .ok (.aload_n 0, 1) := by decide +kernel
theorem dX6_take_29 : decode cX6_take 29 = .ok (.invokevirtual 92, 3) := by decide +kernel
theorem dX6_take_32 : decode cX6_take 32 = .ok (.aload_n 0, 1) := by decide +kernel
theorem dX6_take_33 : decode cX6_take 33 = .ok (.getfield 21, 3) := by decide +kernel
theorem dX6_take_36 : decode cX6_take 36 = .ok (.iload_n 1, 1) := by decide +kernel
theorem dX6_take_37 : decode cX6_take 37 = .ok (.invokevirtual 111, 3) := by decide +kernel
theorem dX6_take_40 : decode cX6_take 40 = .ok (.iload_n 2, 1) := by decide +kernel
theorem dX6_take_41 : decode cX6_take 41 = .ok (.ireturn, 1) := by decide +kernel
theorem dX6_alter_0 : decode cX6_alter 0 = .ok (.iload_n 1, 1) := by decide +kernel
theorem dX6_alter_1 : decode cX6_alter 1 = .ok (.aload_n 0, 1) := by decide +kernel
theorem dX6_alter_2 : decode cX6_alter 2 = .ok (.getfield 21, 3) := by decide +kernel
theorem dX6_alter_5 : decode cX6_alter 5 = .ok (.getfield 83, 3) := by decide +kernel
theorem dX6_alter_8 : decode cX6_alter 8 = .ok (.invokestatic 95, 3) := by decide +kernel
theorem dX6_alter_11 : decode cX6_alter 11 = .ok (.ifCond .eq 10, 3) := by decide +kernel
theorem dX6_alter_14 : decode cX6_alter 14 = .ok (.iload_n 2, 1) := by decide +kernel
theorem dX6_alter_15 : decode cX6_alter 15 = .ok (.invokestatic 65, 3) := by decide +kernel
theorem dX6_alter_18 : decode cX6_alter 18 = .ok (.ifCond .ne 5, 3) := by decide +kernel
theorem dX6_alter_21 : decode cX6_alter 21 = .ok (.iconst (-1), 1) := by decide +kernel
theorem dX6_alter_22 : decode cX6_alter 22 = .ok (.ireturn, 1) := by decide +kernel
theorem dX6_alter_23 : decode cX6_alter 23 = .ok (.aload_n 0, 1) := by decide +kernel
theorem dX6_alter_24 : decode cX6_alter 24 = .ok (.getfield 21, 3) := by decide +kernel
theorem dX6_alter_27 : decode cX6_alter 27 = .ok (.getfield 108, 3) := by decide +kernel
theorem dX6_alter_30 : decode cX6_alter 30 = .ok (.iload_n 1, 1) := by decide +kernel
theorem dX6_alter_31 : decode cX6_alter 31 = .ok (.invokevirtual 61, 3) := by decide +kernel
theorem dX6_alter_34 : decode cX6_alter 34 = .ok (.istore_n 3, 1) := by decide +kernel
theorem dX6_alter_35 : decode cX6_alter 35 = .ok (.iload_n 2, 1) := by decide +kernel
theorem dX6_alter_36 : decode cX6_alter 36 = .ok (.iload_n 3, 1) := by decide +kernel
theorem dX6_alter_37 : decode cX6_alter 37 = .ok (.if_icmp .ne 6, 3) := by decide +kernel
theorem dX6_alter_40 : decode cX6_alter 40 = .ok (.bipush (-2), 2) := by decide +kernel
theorem dX6_alter_42 : decode cX6_alter 42 = .ok (.ireturn, 1) := by decide +kernel
theorem dX6_alter_43 : decode cX6_alter 43 = .ok (.aload_n 0, 1) := by decide +kernel
theorem dX6_alter_44 : decode cX6_alter 44 = .ok (.invokevirtual 92, 3) := by decide +kernel
theorem dX6_alter_47 : decode cX6_alter 47 = .ok (.aload_n 0, 1) := by decide +kernel
theorem dX6_alter_48 : decode cX6_alter 48 = .ok (.getfield 21, 3) := by decide +kernel
theorem dX6_alter_51 : decode cX6_alter 51 = .ok (.getfield 108, 3) := by decide +kernel
theorem dX6_alter_54 : decode cX6_alter 54 = .ok (.iload_n 1, 1) := by decide +kernel
theorem dX6_alter_55 : decode cX6_alter 55 = .ok (.iload_n 2, 1) := by decide +kernel
theorem dX6_alter_56 : decode cX6_alter 56 = .ok (.invokevirtual 57, 3) := by decide +kernel
theorem dX6_alter_59 : decode cX6_alter 59 = .ok (.iload_n 3, 1) := by decide +kernel
theorem dX6_alter_60 : decode cX6_alter 60 = .ok (.ireturn, 1) := by decide +kernel
theorem dX6_undo_0 : decode cX6_undo 0 = .ok (.aload_n 0, 1) := by decide +kernel
theorem dX6_undo_1 : decode cX6_undo 1 = .ok (.getfield 28, 3) := by decide +kernel
theorem dX6_undo_4 : decode cX6_undo 4 = .ok (.getfield 114, 3) := by decide +kernel
theorem dX6_undo_7 : decode cX6_undo 7 = .ok (.ifCond .ne 6, 3) := by decide +kernel
theorem dX6_undo_10 : decode cX6_undo 10 = .ok (.bipush (-2), 2) := by decide +kernel
theorem dX6_undo_12 : decode cX6_undo 12 = .ok (.ireturn, 1) := by decide +kernel
theorem dX6_undo_13 : decode cX6_undo 13 = .ok (.aload_n 0, 1) := by decide +kernel
theorem dX6_undo_14 : decode cX6_undo 14 = .ok (.getfield 28, 3) := by decide +kernel
theorem dX6_undo_17 : decode cX6_undo 17 = .ok (.aload_n 0, 1) := by decide +kernel
theorem dX6_undo_18 : decode cX6_undo 18 = .ok (.getfield 21, 3) := by decide +kernel
theorem dX6_undo_21 : decode cX6_undo 21 = .ok (.invokevirtual 117, 3) := by decide +kernel
theorem dX6_undo_24 : decode cX6_undo 24 = .ok (.aload_n 0, 1) := by decide +kernel
theorem dX6_undo_25 : decode cX6_undo 25 = .ok (.invokevirtual 80, 3) := by decide +kernel
theorem dX6_undo_28 : decode cX6_undo 28 = .ok (.aload_n 0, 1) := by decide +kernel
theorem dX6_undo_29 : decode cX6_undo 29 = .ok (.getfield 28, 3) := by decide +kernel
theorem dX6_undo_32 : decode cX6_undo 32 = .ok (.getfield 114, 3) := by decide +kernel
theorem dX6_undo_35 : decode cX6_undo 35 = .ok (.ireturn, 1) := by decide +kernel
theorem dX6_sign_0 : decode cX6_sign 0 = .ok (.iload_n 1, 1) := by decide +kernel
theorem dX6_sign_1 : decode cX6_sign 1 = .ok (.aload_n 0, 1) := by decide +kernel
theorem dX6_sign_2 : decode cX6_sign 2 = .ok (.getfield 21, 3) := by decide +kernel
theorem dX6_sign_5 : decode cX6_sign 5 = .ok (.getfield 83, 3) := by decide +kernel
theorem dX6_sign_8 : decode cX6_sign 8 = .ok (.invokestatic 95, 3) := by decide +kernel
theorem dX6_sign_11 : decode cX6_sign 11 = .ok (.ifCond .eq 17, 3) := by decide +kernel
theorem dX6_sign_14 : decode cX6_sign 14 = .ok (.aload_n 0, 1) := by decide +kernel
theorem dX6_sign_15 : decode cX6_sign 15 = .ok (.getfield 21, 3) := by decide +kernel
theorem dX6_sign_18 : decode cX6_sign 18 = .ok (.getfield 108, 3) := by decide +kernel
theorem dX6_sign_21 : decode cX6_sign 21 = .ok (.iload_n 1, 1) := by decide +kernel
theorem dX6_sign_22 : decode cX6_sign 22 = .ok (.invokevirtual 61, 3) := by decide +kernel
theorem dX6_sign_25 : decode cX6_sign 25 = .ok (.goto 4, 3) := by decide +kernel
theorem dX6_sign_28 : decode cX6_sign 28 = .ok (.iconst (-1), 1) := by decide +kernel
theorem dX6_sign_29 : decode cX6_sign 29 = .ok (.ireturn, 1) := by decide +kernel
theorem dX6_kind_0 : decode cX6_kind 0 = .ok (.iload_n 1, 1) := by decide +kernel
theorem dX6_kind_1 : decode cX6_kind 1 = .ok (.aload_n 0, 1) := by decide +kernel
theorem dX6_kind_2 : decode cX6_kind 2 = .ok (.getfield 21, 3) := by decide +kernel
theorem dX6_kind_5 : decode cX6_kind 5 = .ok (.getfield 83, 3) := by decide +kernel
theorem dX6_kind_8 : decode cX6_kind 8 = .ok (.invokestatic 95, 3) := by decide +kernel
theorem dX6_kind_11 : decode cX6_kind 11 = .ok (.ifCond .eq 17, 3) := by decide +kernel
theorem dX6_kind_14 : decode cX6_kind 14 = .ok (.aload_n 0, 1) := by decide +kernel
theorem dX6_kind_15 : decode cX6_kind 15 = .ok (.invokevirtual 121, 3) := by decide +kernel
theorem dX6_kind_18 : decode cX6_kind 18 = .ok (.getfield 125, 3) := by decide +kernel
theorem dX6_kind_21 : decode cX6_kind 21 = .ok (.iload_n 1, 1) := by decide +kernel
theorem dX6_kind_22 : decode cX6_kind 22 = .ok (.invokevirtual 61, 3) := by decide +kernel
theorem dX6_kind_25 : decode cX6_kind 25 = .ok (.goto 4, 3) := by decide +kernel
theorem dX6_kind_28 : decode cX6_kind 28 = .ok (.iconst (-1), 1) := by decide +kernel
theorem dX6_kind_29 : decode cX6_kind 29 = .ok (.ireturn, 1) := by decide +kernel
theorem dX6_depth_0 : decode cX6_depth 0 = .ok (.iload_n 1, 1) := by decide +kernel
theorem dX6_depth_1 : decode cX6_depth 1 = .ok (.aload_n 0, 1) := by decide +kernel
theorem dX6_depth_2 : decode cX6_depth 2 = .ok (.getfield 21, 3) := by decide +kernel
theorem dX6_depth_5 : decode cX6_depth 5 = .ok (.getfield 83, 3) := by decide +kernel
theorem dX6_depth_8 : decode cX6_depth 8 = .ok (.invokestatic 95, 3) := by decide +kernel
theorem dX6_depth_11 : decode cX6_depth 11 = .ok (.ifCond .eq 17, 3) := by decide +kernel
theorem dX6_depth_14 : decode cX6_depth 14 = .ok (.aload_n 0, 1) := by decide +kernel
theorem dX6_depth_15 : decode cX6_depth 15 = .ok (.invokevirtual 121, 3) := by decide +kernel
theorem dX6_depth_18 : decode cX6_depth 18 = .ok (.getfield 128, 3) := by decide +kernel
theorem dX6_depth_21 : decode cX6_depth 21 = .ok (.iload_n 1, 1) := by decide +kernel
theorem dX6_depth_22 : decode cX6_depth 22 = .ok (.invokevirtual 61, 3) := by decide +kernel
theorem dX6_depth_25 : decode cX6_depth 25 = .ok (.goto 4, 3) := by decide +kernel
theorem dX6_depth_28 : decode cX6_depth 28 = .ok (.iconst (-1), 1) := by decide +kernel
theorem dX6_depth_29 : decode cX6_depth 29 = .ok (.ireturn, 1) := by decide +kernel
theorem dX6_partner_0 : decode cX6_partner 0 = .ok (.iload_n 1, 1) := by decide +kernel
theorem dX6_partner_1 : decode cX6_partner 1 = .ok (.aload_n 0, 1) := by decide +kernel
theorem dX6_partner_2 : decode cX6_partner 2 = .ok (.getfield 21, 3) := by decide +kernel
theorem dX6_partner_5 : decode cX6_partner 5 = .ok (.getfield 83, 3) := by decide +kernel
theorem dX6_partner_8 : decode cX6_partner 8 = .ok (.invokestatic 95, 3) := by decide +kernel
theorem dX6_partner_11 : decode cX6_partner 11 = .ok (.ifCond .ne 5, 3) := by decide +kernel
theorem dX6_partner_14 : decode cX6_partner 14 = .ok (.iconst (-1), 1) := by decide +kernel
theorem dX6_partner_15 : decode cX6_partner 15 = .ok (.ireturn, 1) := by decide +kernel
theorem dX6_partner_16 : decode cX6_partner 16 = .ok (.aload_n 0, 1) := by decide +kernel
theorem dX6_partner_17 : decode cX6_partner 17 = .ok (.invokevirtual 121, 3) := by decide +kernel
theorem dX6_partner_20 : decode cX6_partner 20 = .ok (.getfield 125, 3) := by decide +kernel
theorem dX6_partner_23 : decode cX6_partner 23 = .ok (.iload_n 1, 1) := by decide +kernel
theorem dX6_partner_24 : decode cX6_partner 24 = .ok (.invokevirtual 61, 3) := by decide +kernel
theorem dX6_partner_27 : decode cX6_partner 27 = .ok (.istore_n 2, 1) := by decide +kernel
theorem dX6_partner_28 : decode cX6_partner 28 = .ok (.iload_n 2, 1) := by decide +kernel
theorem dX6_partner_29 : decode cX6_partner 29 = .ok (.iconst 3, 1) := by decide +kernel
theorem dX6_partner_30 : decode cX6_partner 30 = .ok (.if_icmp .eq 8, 3) := by decide +kernel
theorem dX6_partner_33 : decode cX6_partner 33 = .ok (.iload_n 2, 1) := by decide +kernel
theorem dX6_partner_34 : decode cX6_partner 34 = .ok (.iconst 4, 1) := by decide +kernel
theorem dX6_partner_35 : decode cX6_partner 35 = .ok (.if_icmp .ne 17, 3) := by decide +kernel
theorem dX6_partner_38 : decode cX6_partner 38 = .ok (.aload_n 0, 1) := by decide +kernel
theorem dX6_partner_39 : decode cX6_partner 39 = .ok (.getfield 35, 3) := by decide +kernel
theorem dX6_partner_42 : decode cX6_partner 42 = .ok (.getfield 131, 3) := by decide +kernel
theorem dX6_partner_45 : decode cX6_partner 45 = .ok (.iload_n 1, 1) := by decide +kernel
theorem dX6_partner_46 : decode cX6_partner 46 = .ok (.invokevirtual 61, 3) := by decide +kernel
theorem dX6_partner_49 : decode cX6_partner 49 = .ok (.goto 5, 3) := by decide +kernel
theorem dX6_partner_52 : decode cX6_partner 52 = .ok (.bipush (-2), 2) := by decide +kernel
theorem dX6_partner_54 : decode cX6_partner 54 = .ok (.ireturn, 1) := by decide +kernel
theorem dX6_wrong_0 : decode cX6_wrong 0 = .ok (.iload_n 1, 1) := by decide +kernel
theorem dX6_wrong_1 : decode cX6_wrong 1 = .ok (.iconst (-1), 1) := by decide +kernel
theorem dX6_wrong_2 : decode cX6_wrong 2 = .ok (.if_icmp .lt 11, 3) := by decide +kernel
theorem dX6_wrong_5 : decode cX6_wrong 5 = .ok (.iload_n 2, 1) := by decide +kernel
theorem dX6_wrong_6 : decode cX6_wrong 6 = .ok (.iconst 2, 1) := by decide +kernel
theorem dX6_wrong_7 : decode cX6_wrong 7 = .ok (.invokestatic 95, 3) := by decide +kernel
theorem dX6_wrong_10 : decode cX6_wrong 10 = .ok (.ifCond .ne 5, 3) := by decide +kernel
theorem dX6_wrong_13 : decode cX6_wrong 13 = .ok (.iconst (-1), 1) := by decide +kernel
theorem dX6_wrong_14 : decode cX6_wrong 14 = .ok (.ireturn, 1) := by decide +kernel
theorem dX6_wrong_15 : decode cX6_wrong 15 = .ok (.aload_n 0, 1) := by decide +kernel
theorem dX6_wrong_16 : decode cX6_wrong 16 = .ok (.invokevirtual 121, 3) := by decide +kernel
theorem dX6_wrong_19 : decode cX6_wrong 19 = .ok (.getfield 134, 3) := by decide +kernel
theorem dX6_wrong_22 : decode cX6_wrong 22 = .ok (.aload_n 0, 1) := by decide +kernel
theorem dX6_wrong_23 : decode cX6_wrong 23 = .ok (.getfield 35, 3) := by decide +kernel
theorem dX6_wrong_26 : decode cX6_wrong 26 = .ok (.getfield 137, 3) := by decide +kernel
theorem dX6_wrong_29 : decode cX6_wrong 29 = .ok (.iconst 2, 1) := by decide +kernel
theorem dX6_wrong_30 : decode cX6_wrong 30 = .ok (.iload_n 1, 1) := by decide +kernel
theorem dX6_wrong_31 : decode cX6_wrong 31 = .ok (.iload_n 2, 1) := by decide +kernel
theorem dX6_wrong_32 : decode cX6_wrong 32 = .ok (.invokestatic 140, 3) := by decide +kernel
theorem dX6_wrong_35 : decode cX6_wrong 35 = .ok (.ireturn, 1) := by decide +kernel
theorem dX6_quote_0 : decode cX6_quote 0 = .ok (.iload_n 1, 1) := by decide +kernel
theorem dX6_quote_1 : decode cX6_quote 1 = .ok (.iconst (-1), 1) := by decide +kernel
theorem dX6_quote_2 : decode cX6_quote 2 = .ok (.if_icmp .lt 12, 3) := by decide +kernel
theorem dX6_quote_5 : decode cX6_quote 5 = .ok (.iload_n 2, 1) := by decide +kernel
theorem dX6_quote_6 : decode cX6_quote 6 = .ok (.bipush 7, 2) := by decide +kernel
theorem dX6_quote_8 : decode cX6_quote 8 = .ok (.invokestatic 95, 3) := by decide +kernel
theorem dX6_quote_11 : decode cX6_quote 11 = .ok (.ifCond .ne 5, 3) := by decide +kernel
theorem dX6_quote_14 : decode cX6_quote 14 = .ok (.iconst (-1), 1) := by decide +kernel
theorem dX6_quote_15 : decode cX6_quote 15 = .ok (.ireturn, 1) := by decide +kernel
theorem dX6_quote_16 : decode cX6_quote 16 = .ok (.aload_n 0, 1) := by decide +kernel
theorem dX6_quote_17 : decode cX6_quote 17 = .ok (.invokevirtual 121, 3) := by decide +kernel
theorem dX6_quote_20 : decode cX6_quote 20 = .ok (.getfield 144, 3) := by decide +kernel
theorem dX6_quote_23 : decode cX6_quote 23 = .ok (.aload_n 0, 1) := by decide +kernel
theorem dX6_quote_24 : decode cX6_quote 24 = .ok (.getfield 35, 3) := by decide +kernel
theorem dX6_quote_27 : decode cX6_quote 27 = .ok (.getfield 147, 3) := by decide +kernel
theorem dX6_quote_30 : decode cX6_quote 30 = .ok (.bipush 7, 2) := by decide +kernel
theorem dX6_quote_32 : decode cX6_quote 32 = .ok (.iload_n 1, 1) := by decide +kernel
theorem dX6_quote_33 : decode cX6_quote 33 = .ok (.iload_n 2, 1) := by decide +kernel
theorem dX6_quote_34 : decode cX6_quote 34 = .ok (.invokestatic 140, 3) := by decide +kernel
theorem dX6_quote_37 : decode cX6_quote 37 = .ok (.ireturn, 1) := by decide +kernel
theorem dX6_said_0 : decode cX6_said 0 = .ok (.iload_n 1, 1) := by decide +kernel
theorem dX6_said_1 : decode cX6_said 1 = .ok (.ifCond .lt 23, 3) := by decide +kernel
theorem dX6_said_4 : decode cX6_said 4 = .ok (.iload_n 1, 1) := by decide +kernel
theorem dX6_said_5 : decode cX6_said 5 = .ok (.bipush 6, 2) := by decide +kernel
theorem dX6_said_7 : decode cX6_said 7 = .ok (.if_icmp .gt 17, 3) := by decide +kernel
theorem dX6_said_10 : decode cX6_said 10 = .ok (.aload_n 0, 1) := by decide +kernel
theorem dX6_said_11 : decode cX6_said 11 = .ok (.invokevirtual 121, 3) := by decide +kernel
theorem dX6_said_14 : decode cX6_said 14 = .ok (.getfield 150, 3) := by decide +kernel
theorem dX6_said_17 : decode cX6_said 17 = .ok (.iload_n 1, 1) := by decide +kernel
theorem dX6_said_18 : decode cX6_said 18 = .ok (.invokevirtual 61, 3) := by decide +kernel
theorem dX6_said_21 : decode cX6_said 21 = .ok (.goto 4, 3) := by decide +kernel
theorem dX6_said_24 : decode cX6_said 24 = .ok (.iconst (-1), 1) := by decide +kernel
theorem dX6_said_25 : decode cX6_said 25 = .ok (.ireturn, 1) := by decide +kernel
theorem dX6_paragraph_0 : decode cX6_paragraph 0 = .ok (.iload_n 1, 1) := by decide +kernel
theorem dX6_paragraph_1 : decode cX6_paragraph 1 = .ok (.iconst (-1), 1) := by decide +kernel
theorem dX6_paragraph_2 : decode cX6_paragraph 2 = .ok (.if_icmp .lt 11, 3) := by decide +kernel
theorem dX6_paragraph_5 : decode cX6_paragraph 5 = .ok (.iload_n 2, 1) := by decide +kernel
theorem dX6_paragraph_6 : decode cX6_paragraph 6 = .ok (.iconst 3, 1) := by decide +kernel
theorem dX6_paragraph_7 : decode cX6_paragraph 7 = .ok (.invokestatic 95, 3) := by decide +kernel
theorem dX6_paragraph_10 : decode cX6_paragraph 10 = .ok (.ifCond .ne 5, 3) := by decide +kernel
theorem dX6_paragraph_13 : decode cX6_paragraph 13 = .ok (.iconst (-1), 1) := by decide +kernel
theorem dX6_paragraph_14 : decode cX6_paragraph 14 = .ok (.ireturn, 1) := by decide +kernel
theorem dX6_paragraph_15 : decode cX6_paragraph 15 = .ok (.aload_n 0, 1) := by decide +kernel
theorem dX6_paragraph_16 : decode cX6_paragraph 16 = .ok (.invokevirtual 121, 3) := by decide +kernel
theorem dX6_paragraph_19 : decode cX6_paragraph 19 = .ok (.getfield 153, 3) := by decide +kernel
theorem dX6_paragraph_22 : decode cX6_paragraph 22 = .ok (.aload_n 0, 1) := by decide +kernel
theorem dX6_paragraph_23 : decode cX6_paragraph 23 = .ok (.getfield 35, 3) := by decide +kernel
theorem dX6_paragraph_26 : decode cX6_paragraph 26 = .ok (.getfield 156, 3) := by decide +kernel
theorem dX6_paragraph_29 : decode cX6_paragraph 29 = .ok (.iconst 3, 1) := by decide +kernel
theorem dX6_paragraph_30 : decode cX6_paragraph 30 = .ok (.iload_n 1, 1) := by decide +kernel
theorem dX6_paragraph_31 : decode cX6_paragraph 31 = .ok (.iload_n 2, 1) := by decide +kernel
theorem dX6_paragraph_32 : decode cX6_paragraph 32 = .ok (.invokestatic 140, 3) := by decide +kernel
theorem dX6_paragraph_35 : decode cX6_paragraph 35 = .ok (.ireturn, 1) := by decide +kernel
theorem dX6_least_0 : decode cX6_least 0 = .ok (.aload_n 0, 1) := by decide +kernel
theorem dX6_least_1 : decode cX6_least 1 = .ok (.invokevirtual 159, 3) := by decide +kernel
theorem dX6_least_4 : decode cX6_least 4 = .ok (.invokevirtual 163, 3) := by decide +kernel
theorem dX6_least_7 : decode cX6_least 7 = .ok (.ireturn, 1) := by decide +kernel
theorem dX6_changes_0 : decode cX6_changes 0 = .ok (.iload_n 1, 1) := by decide +kernel
theorem dX6_changes_1 : decode cX6_changes 1 = .ok (.iconst 3, 1) := by decide +kernel
theorem dX6_changes_2 : decode cX6_changes 2 = .ok (.invokestatic 95, 3) := by decide +kernel
theorem dX6_changes_5 : decode cX6_changes 5 = .ok (.ifCond .eq 17, 3) := by decide +kernel
theorem dX6_changes_8 : decode cX6_changes 8 = .ok (.aload_n 0, 1) := by decide +kernel
theorem dX6_changes_9 : decode cX6_changes 9 = .ok (.invokevirtual 159, 3) := by decide +kernel
theorem dX6_changes_12 : decode cX6_changes 12 = .ok (.getfield 166, 3) := by decide +kernel
theorem dX6_changes_15 : decode cX6_changes 15 = .ok (.iload_n 1, 1) := by decide +kernel
theorem dX6_changes_16 : decode cX6_changes 16 = .ok (.invokevirtual 61, 3) := by decide +kernel
theorem dX6_changes_19 : decode cX6_changes 19 = .ok (.goto 4, 3) := by decide +kernel
theorem dX6_changes_22 : decode cX6_changes 22 = .ok (.iconst (-1), 1) := by decide +kernel
theorem dX6_changes_23 : decode cX6_changes 23 = .ok (.ireturn, 1) := by decide +kernel
theorem dX6_mended_0 : decode cX6_mended 0 = .ok (.iload_n 1, 1) := by decide +kernel
theorem dX6_mended_1 : decode cX6_mended 1 = .ok (.iconst (-1), 1) := by decide +kernel
theorem dX6_mended_2 : decode cX6_mended 2 = .ok (.if_icmp .ge 5, 3) := by decide +kernel
theorem dX6_mended_5 : decode cX6_mended 5 = .ok (.iconst (-1), 1) := by decide +kernel
theorem dX6_mended_6 : decode cX6_mended 6 = .ok (.ireturn, 1) := by decide +kernel
theorem dX6_mended_7 : decode cX6_mended 7 = .ok (.aload_n 0, 1) := by decide +kernel
theorem dX6_mended_8 : decode cX6_mended 8 = .ok (.invokevirtual 159, 3) := by decide +kernel
theorem dX6_mended_11 : decode cX6_mended 11 = .ok (.getfield 169, 3) := by decide +kernel
theorem dX6_mended_14 : decode cX6_mended 14 = .ok (.aload_n 0, 1) := by decide +kernel
theorem dX6_mended_15 : decode cX6_mended 15 = .ok (.getfield 42, 3) := by decide +kernel
theorem dX6_mended_18 : decode cX6_mended 18 = .ok (.getfield 172, 3) := by decide +kernel
theorem dX6_mended_21 : decode cX6_mended 21 = .ok (.iconst 1, 1) := by decide +kernel
theorem dX6_mended_22 : decode cX6_mended 22 = .ok (.iload_n 1, 1) := by decide +kernel
theorem dX6_mended_23 : decode cX6_mended 23 = .ok (.iconst 0, 1) := by decide +kernel
theorem dX6_mended_24 : decode cX6_mended 24 = .ok (.invokestatic 140, 3) := by decide +kernel
theorem dX6_mended_27 : decode cX6_mended 27 = .ok (.ireturn, 1) := by decide +kernel
theorem dX6_mend_0 : decode cX6_mend 0 = .ok (.aload_n 0, 1) := by decide +kernel
theorem dX6_mend_1 : decode cX6_mend 1 = .ok (.invokevirtual 121, 3) := by decide +kernel
theorem dX6_mend_4 : decode cX6_mend 4 = .ok (.getfield 137, 3) := by decide +kernel
theorem dX6_mend_7 : decode cX6_mend 7 = .ok (.ifCond .ne 6, 3) := by decide +kernel
theorem dX6_mend_10 : decode cX6_mend 10 = .ok (.bipush (-2), 2) := by decide +kernel
theorem dX6_mend_12 : decode cX6_mend 12 = .ok (.ireturn, 1) := by decide +kernel
theorem dX6_mend_13 : decode cX6_mend 13 = .ok (.aload_n 0, 1) := by decide +kernel
theorem dX6_mend_14 : decode cX6_mend 14 = .ok (.invokevirtual 159, 3) := by decide +kernel
theorem dX6_mend_17 : decode cX6_mend 17 = .ok (.invokevirtual 163, 3) := by decide +kernel
theorem dX6_mend_20 : decode cX6_mend 20 = .ok (.istore_n 1, 1) := by decide +kernel
theorem dX6_mend_21 : decode cX6_mend 21 = .ok (.aload_n 0, 1) := by decide +kernel
theorem dX6_mend_22 : decode cX6_mend 22 = .ok (.getfield 42, 3) := by decide +kernel
theorem dX6_mend_25 : decode cX6_mend 25 = .ok (.getfield 172, 3) := by decide +kernel
theorem dX6_mend_28 : decode cX6_mend 28 = .ok (.bipush 120, 2) := by decide +kernel
theorem dX6_mend_30 : decode cX6_mend 30 = .ok (.if_icmp .le 6, 3) := by decide +kernel
theorem dX6_mend_33 : decode cX6_mend 33 = .ok (.bipush (-3), 2) := by decide +kernel
theorem dX6_mend_35 : decode cX6_mend 35 = .ok (.ireturn, 1) := by decide +kernel
theorem dX6_mend_36 : decode cX6_mend 36 = .ok (.aload_n 0, 1) := by decide +kernel
theorem dX6_mend_37 : decode cX6_mend 37 = .ok (.invokevirtual 92, 3) := by decide +kernel
theorem dX6_mend_40 : decode cX6_mend 40 = .ok (.aload_n 0, 1) := by decide +kernel
theorem dX6_mend_41 : decode cX6_mend 41 = .ok (.getfield 21, 3) := by decide +kernel
theorem dX6_mend_44 : decode cX6_mend 44 = .ok (.aload_n 0, 1) := by decide +kernel
theorem dX6_mend_45 : decode cX6_mend 45 = .ok (.getfield 42, 3) := by decide +kernel
theorem dX6_mend_48 : decode cX6_mend 48 = .ok (.getfield 169, 3) := by decide +kernel
theorem dX6_mend_51 : decode cX6_mend 51 = .ok (.aload_n 0, 1) := by decide +kernel
theorem dX6_mend_52 : decode cX6_mend 52 = .ok (.getfield 42, 3) := by decide +kernel
theorem dX6_mend_55 : decode cX6_mend 55 = .ok (.getfield 172, 3) := by decide +kernel
theorem dX6_mend_58 : decode cX6_mend 58 = .ok (.invokevirtual 73, 3) := by decide +kernel
theorem dX6_mend_61 : decode cX6_mend 61 = .ok (.iload_n 1, 1) := by decide +kernel
theorem dX6_mend_62 : decode cX6_mend 62 = .ok (.ireturn, 1) := by decide +kernel
theorem dX6_would_0 : decode cX6_would 0 = .ok (.iload_n 1, 1) := by decide +kernel
theorem dX6_would_1 : decode cX6_would 1 = .ok (.iconst 4, 1) := by decide +kernel
theorem dX6_would_2 : decode cX6_would 2 = .ok (.invokestatic 95, 3) := by decide +kernel
theorem dX6_would_5 : decode cX6_would 5 = .ok (.ifCond .eq 11, 3) := by decide +kernel
theorem dX6_would_8 : decode cX6_would 8 = .ok (.iload_n 2, 1) := by decide +kernel
theorem dX6_would_9 : decode cX6_would 9 = .ok (.iconst 3, 1) := by decide +kernel
theorem dX6_would_10 : decode cX6_would 10 = .ok (.invokestatic 95, 3) := by decide +kernel
theorem dX6_would_13 : decode cX6_would 13 = .ok (.ifCond .ne 5, 3) := by decide +kernel
theorem dX6_would_16 : decode cX6_would 16 = .ok (.iconst (-1), 1) := by decide +kernel
theorem dX6_would_17 : decode cX6_would 17 = .ok (.ireturn, 1) := by decide +kernel
theorem dX6_would_18 : decode cX6_would 18 = .ok (.aload_n 0, 1) := by decide +kernel
theorem dX6_would_19 : decode cX6_would 19 = .ok (.getfield 42, 3) := by decide +kernel
theorem dX6_would_22 : decode cX6_would 22 = .ok (.aload_n 0, 1) := by decide +kernel
theorem dX6_would_23 : decode cX6_would 23 = .ok (.getfield 21, 3) := by decide +kernel
theorem dX6_would_26 : decode cX6_would 26 = .ok (.iload_n 1, 1) := by decide +kernel
theorem dX6_would_27 : decode cX6_would 27 = .ok (.iload_n 2, 1) := by decide +kernel
theorem dX6_would_28 : decode cX6_would 28 = .ok (.invokevirtual 173, 3) := by decide +kernel
theorem dX6_would_31 : decode cX6_would 31 = .ok (.aload_n 0, 1) := by decide +kernel
theorem dX6_would_32 : decode cX6_would 32 = .ok (.iconst 0, 1) := by decide +kernel
theorem dX6_would_33 : decode cX6_would 33 = .ok (.putfield 54, 3) := by decide +kernel
theorem dX6_would_36 : decode cX6_would 36 = .ok (.aload_n 0, 1) := by decide +kernel
theorem dX6_would_37 : decode cX6_would 37 = .ok (.getfield 42, 3) := by decide +kernel
theorem dX6_would_40 : decode cX6_would 40 = .ok (.invokevirtual 163, 3) := by decide +kernel
theorem dX6_would_43 : decode cX6_would 43 = .ok (.ireturn, 1) := by decide +kernel
theorem dX6_retell_0 : decode cX6_retell 0 = .ok (.iload_n 1, 1) := by decide +kernel
theorem dX6_retell_1 : decode cX6_retell 1 = .ok (.iconst 4, 1) := by decide +kernel
theorem dX6_retell_2 : decode cX6_retell 2 = .ok (.invokestatic 95, 3) := by decide +kernel
theorem dX6_retell_5 : decode cX6_retell 5 = .ok (.ifCond .ne 5, 3) := by decide +kernel
theorem dX6_retell_8 : decode cX6_retell 8 = .ok (.iconst (-1), 1) := by decide +kernel
theorem dX6_retell_9 : decode cX6_retell 9 = .ok (.ireturn, 1) := by decide +kernel
theorem dX6_retell_10 : decode cX6_retell 10 = .ok (.iload_n 1, 1) := by decide +kernel
theorem dX6_retell_11 : decode cX6_retell 11 = .ok (.aload_n 0, 1) := by decide +kernel
theorem dX6_retell_12 : decode cX6_retell 12 = .ok (.getfield 21, 3) := by decide +kernel
theorem dX6_retell_15 : decode cX6_retell 15 = .ok (.getfield 89, 3) := by decide +kernel
theorem dX6_retell_18 : decode cX6_retell 18 = .ok (.if_icmp .eq 13, 3) := by decide +kernel
theorem dX6_retell_21 : decode cX6_retell 21 = .ok (.aload_n 0, 1) := by decide +kernel
theorem dX6_retell_22 : decode cX6_retell 22 = .ok (.invokevirtual 121, 3) := by decide +kernel
theorem dX6_retell_25 : decode cX6_retell 25 = .ok (.getfield 137, 3) := by decide +kernel
theorem dX6_retell_28 : decode cX6_retell 28 = .ok (.ifCond .le 6, 3) := by decide +kernel
theorem dX6_retell_31 : decode cX6_retell 31 = .ok (.bipush (-2), 2) := by decide +kernel
theorem dX6_retell_33 : decode cX6_retell 33 = .ok (.ireturn, 1) := by decide +kernel
theorem dX6_retell_34 : decode cX6_retell 34 = .ok (.aload_n 0, 1) := by decide +kernel
theorem dX6_retell_35 : decode cX6_retell 35 = .ok (.invokevirtual 92, 3) := by decide +kernel
theorem dX6_retell_38 : decode cX6_retell 38 = .ok (.aload_n 0, 1) := by decide +kernel
theorem dX6_retell_39 : decode cX6_retell 39 = .ok (.getfield 21, 3) := by decide +kernel
theorem dX6_retell_42 : decode cX6_retell 42 = .ok (.getfield 89, 3) := by decide +kernel
theorem dX6_retell_45 : decode cX6_retell 45 = .ok (.istore_n 2, 1) := by decide +kernel
theorem dX6_retell_46 : decode cX6_retell 46 = .ok (.iconst 0, 1) := by decide +kernel
theorem dX6_retell_47 : decode cX6_retell 47 = .ok (.istore_n 3, 1) := by decide +kernel
theorem dX6_retell_48 : decode cX6_retell 48 = .ok (.iload_n 3, 1) := by decide +kernel
theorem dX6_retell_49 : decode cX6_retell 49 = .ok (.aload_n 0, 1) := by decide +kernel
theorem dX6_retell_50 : decode cX6_retell 50 = .ok (.getfield 21, 3) := by decide +kernel
theorem dX6_retell_53 : decode cX6_retell 53 = .ok (.getfield 83, 3) := by decide +kernel
theorem dX6_retell_56 : decode cX6_retell 56 = .ok (.if_icmp .ge 15, 3) := by decide +kernel
theorem dX6_retell_59 : decode cX6_retell 59 = .ok (.aload_n 0, 1) := by decide +kernel
theorem dX6_retell_60 : decode cX6_retell 60 = .ok (.iload_n 3, 1) := by decide +kernel
theorem dX6_retell_61 : decode cX6_retell 61 = .ok (.iload_n 1, 1) := by decide +kernel
theorem dX6_retell_62 : decode cX6_retell 62 = .ok (.invokevirtual 177, 3) := by decide +kernel
theorem dX6_retell_65 : decode cX6_retell 65 = .ok (.iinc 3 1, 3) := by decide +kernel
theorem dX6_retell_68 : decode cX6_retell 68 = .ok (.goto (-20), 3) := by decide +kernel
theorem dX6_retell_71 : decode cX6_retell 71 = .ok (.aload_n 0, 1) := by decide +kernel
theorem dX6_retell_72 : decode cX6_retell 72 = .ok (.getfield 21, 3) := by decide +kernel
theorem dX6_retell_75 : decode cX6_retell 75 = .ok (.iload_n 1, 1) := by decide +kernel
theorem dX6_retell_76 : decode cX6_retell 76 = .ok (.putfield 89, 3) := by decide +kernel
theorem dX6_retell_79 : decode cX6_retell 79 = .ok (.iload_n 2, 1) := by decide +kernel
theorem dX6_retell_80 : decode cX6_retell 80 = .ok (.ireturn, 1) := by decide +kernel
theorem dX6_count_0 : decode cX6_count 0 = .ok (.iload_n 1, 1) := by decide +kernel
theorem dX6_count_1 : decode cX6_count 1 = .ok (.tableswitch 159 0 10 #[59, 67, 75, 83, 91, 103, 115, 127, 132, 140, 148], 59) := by decide +kernel
theorem dX6_count_60 : decode cX6_count 60 = .ok (.aload_n 0, 1) := by decide +kernel
theorem dX6_count_61 : decode cX6_count 61 = .ok (.getfield 21, 3) := by decide +kernel
theorem dX6_count_64 : decode cX6_count 64 = .ok (.getfield 83, 3) := by decide +kernel
theorem dX6_count_67 : decode cX6_count 67 = .ok (.ireturn, 1) := by decide +kernel
theorem dX6_count_68 : decode cX6_count 68 = .ok (.aload_n 0, 1) := by decide +kernel
theorem dX6_count_69 : decode cX6_count 69 = .ok (.getfield 21, 3) := by decide +kernel
theorem dX6_count_72 : decode cX6_count 72 = .ok (.invokevirtual 180, 3) := by decide +kernel
theorem dX6_count_75 : decode cX6_count 75 = .ok (.ireturn, 1) := by decide +kernel
theorem dX6_count_76 : decode cX6_count 76 = .ok (.aload_n 0, 1) := by decide +kernel
theorem dX6_count_77 : decode cX6_count 77 = .ok (.getfield 21, 3) := by decide +kernel
theorem dX6_count_80 : decode cX6_count 80 = .ok (.getfield 89, 3) := by decide +kernel
theorem dX6_count_83 : decode cX6_count 83 = .ok (.ireturn, 1) := by decide +kernel
theorem dX6_count_84 : decode cX6_count 84 = .ok (.aload_n 0, 1) := by decide +kernel
theorem dX6_count_85 : decode cX6_count 85 = .ok (.getfield 21, 3) := by decide +kernel
theorem dX6_count_88 : decode cX6_count 88 = .ok (.getfield 99, 3) := by decide +kernel
theorem dX6_count_91 : decode cX6_count 91 = .ok (.ireturn, 1) := by decide +kernel
theorem dX6_count_92 : decode cX6_count 92 = .ok (.aload_n 0, 1) := by decide +kernel
theorem dX6_count_93 : decode cX6_count 93 = .ok (.getfield 21, 3) := by decide +kernel
theorem dX6_count_96 : decode cX6_count 96 = .ok (.getfield 102, 3) := by decide +kernel
theorem dX6_count_99 : decode cX6_count 99 = .ok (.iconst 0, 1) := by decide +kernel
theorem dX6_count_100 : decode cX6_count 100 = .ok (.invokevirtual 61, 3) := by decide +kernel
theorem dX6_count_103 : decode cX6_count 103 = .ok (.ireturn, 1) := by decide +kernel
theorem dX6_count_104 : decode cX6_count 104 = .ok (.aload_n 0, 1) := by decide +kernel
theorem dX6_count_105 : decode cX6_count 105 = .ok (.getfield 21, 3) := by decide +kernel
theorem dX6_count_108 : decode cX6_count 108 = .ok (.getfield 102, 3) := by decide +kernel
theorem dX6_count_111 : decode cX6_count 111 = .ok (.iconst 1, 1) := by decide +kernel
theorem dX6_count_112 : decode cX6_count 112 = .ok (.invokevirtual 61, 3) := by decide +kernel
theorem dX6_count_115 : decode cX6_count 115 = .ok (.ireturn, 1) := by decide +kernel
theorem dX6_count_116 : decode cX6_count 116 = .ok (.aload_n 0, 1) := by decide +kernel
theorem dX6_count_117 : decode cX6_count 117 = .ok (.getfield 21, 3) := by decide +kernel
theorem dX6_count_120 : decode cX6_count 120 = .ok (.getfield 102, 3) := by decide +kernel
theorem dX6_count_123 : decode cX6_count 123 = .ok (.iconst 2, 1) := by decide +kernel
theorem dX6_count_124 : decode cX6_count 124 = .ok (.invokevirtual 61, 3) := by decide +kernel
theorem dX6_count_127 : decode cX6_count 127 = .ok (.ireturn, 1) := by decide +kernel
theorem dX6_count_128 : decode cX6_count 128 = .ok (.aload_n 0, 1) := by decide +kernel
theorem dX6_count_129 : decode cX6_count 129 = .ok (.getfield 46, 3) := by decide +kernel
theorem dX6_count_132 : decode cX6_count 132 = .ok (.ireturn, 1) := by decide +kernel
theorem dX6_count_133 : decode cX6_count 133 = .ok (.aload_n 0, 1) := by decide +kernel
theorem dX6_count_134 : decode cX6_count 134 = .ok (.getfield 28, 3) := by decide +kernel
theorem dX6_count_137 : decode cX6_count 137 = .ok (.getfield 114, 3) := by decide +kernel
theorem dX6_count_140 : decode cX6_count 140 = .ok (.ireturn, 1) := by decide +kernel
theorem dX6_count_141 : decode cX6_count 141 = .ok (.aload_n 0, 1) := by decide +kernel
theorem dX6_count_142 : decode cX6_count 142 = .ok (.invokevirtual 121, 3) := by decide +kernel
theorem dX6_count_145 : decode cX6_count 145 = .ok (.getfield 183, 3) := by decide +kernel
theorem dX6_count_148 : decode cX6_count 148 = .ok (.ireturn, 1) := by decide +kernel
theorem dX6_count_149 : decode cX6_count 149 = .ok (.aload_n 0, 1) := by decide +kernel
theorem dX6_count_150 : decode cX6_count 150 = .ok (.invokevirtual 121, 3) := by decide +kernel
theorem dX6_count_153 : decode cX6_count 153 = .ok (.getfield 186, 3) := by decide +kernel
theorem dX6_count_156 : decode cX6_count 156 = .ok (.invokestatic 189, 3) := by decide +kernel
theorem dX6_count_159 : decode cX6_count 159 = .ok (.ireturn, 1) := by decide +kernel
theorem dX6_count_160 : decode cX6_count 160 = .ok (.iconst (-1), 1) := by decide +kernel
theorem dX6_count_161 : decode cX6_count 161 = .ok (.ireturn, 1) := by decide +kernel
theorem dX6_beginChange_0 : decode cX6_beginChange 0 = .ok (.aload_n 0, 1) := by decide +kernel
theorem dX6_beginChange_1 : decode cX6_beginChange 1 = .ok (.getfield 28, 3) := by decide +kernel
theorem dX6_beginChange_4 : decode cX6_beginChange 4 = .ok (.aload_n 0, 1) := by decide +kernel
theorem dX6_beginChange_5 : decode cX6_beginChange 5 = .ok (.getfield 21, 3) := by decide +kernel
theorem dX6_beginChange_8 : decode cX6_beginChange 8 = .ok (.invokevirtual 194, 3) := by decide +kernel
theorem dX6_beginChange_11 : decode cX6_beginChange 11 = .ok (.aload_n 0, 1) := by decide +kernel
theorem dX6_beginChange_12 : decode cX6_beginChange 12 = .ok (.invokevirtual 80, 3) := by decide +kernel
theorem dX6_beginChange_15 : decode cX6_beginChange 15 = .ok (.return_, 1) := by decide +kernel
theorem dX6_outdate_0 : decode cX6_outdate 0 = .ok (.aload_n 0, 1) := by decide +kernel
theorem dX6_outdate_1 : decode cX6_outdate 1 = .ok (.iconst 0, 1) := by decide +kernel
theorem dX6_outdate_2 : decode cX6_outdate 2 = .ok (.putfield 50, 3) := by decide +kernel
theorem dX6_outdate_5 : decode cX6_outdate 5 = .ok (.aload_n 0, 1) := by decide +kernel
theorem dX6_outdate_6 : decode cX6_outdate 6 = .ok (.iconst 0, 1) := by decide +kernel
theorem dX6_outdate_7 : decode cX6_outdate 7 = .ok (.putfield 54, 3) := by decide +kernel
theorem dX6_outdate_10 : decode cX6_outdate 10 = .ok (.return_, 1) := by decide +kernel
theorem dX6_freshReading_0 : decode cX6_freshReading 0 = .ok (.aload_n 0, 1) := by decide +kernel
theorem dX6_freshReading_1 : decode cX6_freshReading 1 = .ok (.getfield 50, 3) := by decide +kernel
theorem dX6_freshReading_4 : decode cX6_freshReading 4 = .ok (.ifCond .ne 19, 3) := by decide +kernel
theorem dX6_freshReading_7 : decode cX6_freshReading 7 = .ok (.aload_n 0, 1) := by decide +kernel
theorem dX6_freshReading_8 : decode cX6_freshReading 8 = .ok (.getfield 35, 3) := by decide +kernel
theorem dX6_freshReading_11 : decode cX6_freshReading 11 = .ok (.aload_n 0, 1) := by decide +kernel
theorem dX6_freshReading_12 : decode cX6_freshReading 12 = .ok (.getfield 21, 3) := by decide +kernel
theorem dX6_freshReading_15 : decode cX6_freshReading 15 = .ok (.invokevirtual 197, 3) := by decide +kernel
theorem dX6_freshReading_18 : decode cX6_freshReading 18 = .ok (.aload_n 0, 1) := by decide +kernel
theorem dX6_freshReading_19 : decode cX6_freshReading 19 = .ok (.iconst 1, 1) := by decide +kernel
theorem dX6_freshReading_20 : decode cX6_freshReading 20 = .ok (.putfield 50, 3) := by decide +kernel
theorem dX6_freshReading_23 : decode cX6_freshReading 23 = .ok (.aload_n 0, 1) := by decide +kernel
theorem dX6_freshReading_24 : decode cX6_freshReading 24 = .ok (.getfield 35, 3) := by decide +kernel
theorem dX6_freshReading_27 : decode cX6_freshReading 27 = .ok (.areturn, 1) := by decide +kernel
theorem dX6_freshMending_0 : decode cX6_freshMending 0 = .ok (.aload_n 0, 1) := by decide +kernel
theorem dX6_freshMending_1 : decode cX6_freshMending 1 = .ok (.getfield 54, 3) := by decide +kernel
theorem dX6_freshMending_4 : decode cX6_freshMending 4 = .ok (.ifCond .ne 40, 3) := by decide +kernel
theorem dX6_freshMending_7 : decode cX6_freshMending 7 = .ok (.aload_n 0, 1) := by decide +kernel
theorem dX6_freshMending_8 : decode cX6_freshMending 8 = .ok (.getfield 42, 3) := by decide +kernel
theorem dX6_freshMending_11 : decode cX6_freshMending 11 = .ok (.aload_n 0, 1) := by decide +kernel
theorem dX6_freshMending_12 : decode cX6_freshMending 12 = .ok (.getfield 21, 3) := by decide +kernel
theorem dX6_freshMending_15 : decode cX6_freshMending 15 = .ok (.aload_n 0, 1) := by decide +kernel
theorem dX6_freshMending_16 : decode cX6_freshMending 16 = .ok (.getfield 21, 3) := by decide +kernel
theorem dX6_freshMending_19 : decode cX6_freshMending 19 = .ok (.getfield 89, 3) := by decide +kernel
theorem dX6_freshMending_22 : decode cX6_freshMending 22 = .ok (.aload_n 0, 1) := by decide +kernel
theorem dX6_freshMending_23 : decode cX6_freshMending 23 = .ok (.getfield 21, 3) := by decide +kernel
theorem dX6_freshMending_26 : decode cX6_freshMending 26 = .ok (.getfield 99, 3) := by decide +kernel
theorem dX6_freshMending_29 : decode cX6_freshMending 29 = .ok (.invokevirtual 173, 3) := by decide +kernel
theorem dX6_freshMending_32 : decode cX6_freshMending 32 = .ok (.aload_n 0, 1) := by decide +kernel
theorem dX6_freshMending_33 : decode cX6_freshMending 33 = .ok (.getfield 42, 3) := by decide +kernel
theorem dX6_freshMending_36 : decode cX6_freshMending 36 = .ok (.invokevirtual 200, 3) := by decide +kernel
theorem dX6_freshMending_39 : decode cX6_freshMending 39 = .ok (.aload_n 0, 1) := by decide +kernel
theorem dX6_freshMending_40 : decode cX6_freshMending 40 = .ok (.iconst 1, 1) := by decide +kernel
theorem dX6_freshMending_41 : decode cX6_freshMending 41 = .ok (.putfield 54, 3) := by decide +kernel
theorem dX6_freshMending_44 : decode cX6_freshMending 44 = .ok (.aload_n 0, 1) := by decide +kernel
theorem dX6_freshMending_45 : decode cX6_freshMending 45 = .ok (.getfield 42, 3) := by decide +kernel
theorem dX6_freshMending_48 : decode cX6_freshMending 48 = .ok (.areturn, 1) := by decide +kernel
theorem dX6_retellSign_0 : decode cX6_retellSign 0 = .ok (.aload_n 0, 1) := by decide +kernel
theorem dX6_retellSign_1 : decode cX6_retellSign 1 = .ok (.getfield 35, 3) := by decide +kernel
theorem dX6_retellSign_4 : decode cX6_retellSign 4 = .ok (.getfield 125, 3) := by decide +kernel
theorem dX6_retellSign_7 : decode cX6_retellSign 7 = .ok (.iload_n 1, 1) := by decide +kernel
theorem dX6_retellSign_8 : decode cX6_retellSign 8 = .ok (.invokevirtual 61, 3) := by decide +kernel
theorem dX6_retellSign_11 : decode cX6_retellSign 11 = .ok (.istore_n 3, 1) := by decide +kernel
theorem dX6_retellSign_12 : decode cX6_retellSign 12 = .ok (.aload_n 0, 1) := by decide +kernel
theorem dX6_retellSign_13 : decode cX6_retellSign 13 = .ok (.getfield 35, 3) := by decide +kernel
theorem dX6_retellSign_16 : decode cX6_retellSign 16 = .ok (.getfield 203, 3) := by decide +kernel
theorem dX6_retellSign_19 : decode cX6_retellSign 19 = .ok (.iload_n 1, 1) := by decide +kernel
theorem dX6_retellSign_20 : decode cX6_retellSign 20 = .ok (.invokevirtual 61, 3) := by decide +kernel
theorem dX6_retellSign_23 : decode cX6_retellSign 23 = .ok (.istore 4, 2) := by decide +kernel
theorem dX6_retellSign_25 : decode cX6_retellSign 25 = .ok (.iload_n 3, 1) := by decide +kernel
theorem dX6_retellSign_26 : decode cX6_retellSign 26 = .ok (.iconst 3, 1) := by decide +kernel
theorem dX6_retellSign_27 : decode cX6_retellSign 27 = .ok (.if_icmp .eq 8, 3) := by decide +kernel
theorem dX6_retellSign_30 : decode cX6_retellSign 30 = .ok (.iload_n 3, 1) := by decide +kernel
end
section
theorem dX6_retellSign_31 : decode cX6_retellSign 31 = .ok (.iconst 5, 1) := by decide +kernel
theorem dX6_retellSign_32 : decode cX6_retellSign 32 = .ok (.if_icmp .ne 23, 3) := by decide +kernel
theorem dX6_retellSign_35 : decode cX6_retellSign 35 = .ok (.aload_n 0, 1) := by decide +kernel
theorem dX6_retellSign_36 : decode cX6_retellSign 36 = .ok (.getfield 21, 3) := by decide +kernel
theorem dX6_retellSign_39 : decode cX6_retellSign 39 = .ok (.getfield 108, 3) := by decide +kernel
theorem dX6_retellSign_42 : decode cX6_retellSign 42 = .ok (.iload_n 1, 1) := by decide +kernel
theorem dX6_retellSign_43 : decode cX6_retellSign 43 = .ok (.iload_n 2, 1) := by decide +kernel
theorem dX6_retellSign_44 : decode cX6_retellSign 44 = .ok (.iload 4, 2) := by decide +kernel
theorem dX6_retellSign_46 : decode cX6_retellSign 46 = .ok (.invokestatic 206, 3) := by decide +kernel
theorem dX6_retellSign_49 : decode cX6_retellSign 49 = .ok (.invokevirtual 57, 3) := by decide +kernel
theorem dX6_retellSign_52 : decode cX6_retellSign 52 = .ok (.goto 25, 3) := by decide +kernel
theorem dX6_retellSign_55 : decode cX6_retellSign 55 = .ok (.iload_n 3, 1) := by decide +kernel
theorem dX6_retellSign_56 : decode cX6_retellSign 56 = .ok (.iconst 4, 1) := by decide +kernel
theorem dX6_retellSign_57 : decode cX6_retellSign 57 = .ok (.if_icmp .ne 20, 3) := by decide +kernel
theorem dX6_retellSign_60 : decode cX6_retellSign 60 = .ok (.aload_n 0, 1) := by decide +kernel
theorem dX6_retellSign_61 : decode cX6_retellSign 61 = .ok (.getfield 21, 3) := by decide +kernel
theorem dX6_retellSign_64 : decode cX6_retellSign 64 = .ok (.getfield 108, 3) := by decide +kernel
theorem dX6_retellSign_67 : decode cX6_retellSign 67 = .ok (.iload_n 1, 1) := by decide +kernel
theorem dX6_retellSign_68 : decode cX6_retellSign 68 = .ok (.iload_n 2, 1) := by decide +kernel
theorem dX6_retellSign_69 : decode cX6_retellSign 69 = .ok (.iload 4, 2) := by decide +kernel
theorem dX6_retellSign_71 : decode cX6_retellSign 71 = .ok (.invokestatic 210, 3) := by decide +kernel
theorem dX6_retellSign_74 : decode cX6_retellSign 74 = .ok (.invokevirtual 57, 3) := by decide +kernel
theorem dX6_retellSign_77 : decode cX6_retellSign 77 = .ok (.return_, 1) := by decide +kernel
theorem dX6_tongueNamed_0 : decode cX6_tongueNamed 0 = .ok (.iconst 0, 1) := by decide +kernel
theorem dX6_tongueNamed_1 : decode cX6_tongueNamed 1 = .ok (.istore_n 1, 1) := by decide +kernel
theorem dX6_tongueNamed_2 : decode cX6_tongueNamed 2 = .ok (.iload_n 1, 1) := by decide +kernel
theorem dX6_tongueNamed_3 : decode cX6_tongueNamed 3 = .ok (.iconst 4, 1) := by decide +kernel
theorem dX6_tongueNamed_4 : decode cX6_tongueNamed 4 = .ok (.if_icmp .ge 22, 3) := by decide +kernel
theorem dX6_tongueNamed_7 : decode cX6_tongueNamed 7 = .ok (.aload_n 0, 1) := by decide +kernel
theorem dX6_tongueNamed_8 : decode cX6_tongueNamed 8 = .ok (.iload_n 1, 1) := by decide +kernel
theorem dX6_tongueNamed_9 : decode cX6_tongueNamed 9 = .ok (.invokestatic 213, 3) := by decide +kernel
theorem dX6_tongueNamed_12 : decode cX6_tongueNamed 12 = .ok (.invokevirtual 217, 3) := by decide +kernel
theorem dX6_tongueNamed_15 : decode cX6_tongueNamed 15 = .ok (.ifCond .eq 5, 3) := by decide +kernel
theorem dX6_tongueNamed_18 : decode cX6_tongueNamed 18 = .ok (.iload_n 1, 1) := by decide +kernel
theorem dX6_tongueNamed_19 : decode cX6_tongueNamed 19 = .ok (.ireturn, 1) := by decide +kernel
theorem dX6_tongueNamed_20 : decode cX6_tongueNamed 20 = .ok (.iinc 1 1, 3) := by decide +kernel
theorem dX6_tongueNamed_23 : decode cX6_tongueNamed 23 = .ok (.goto (-21), 3) := by decide +kernel
theorem dX6_tongueNamed_26 : decode cX6_tongueNamed 26 = .ok (.bipush (-4), 2) := by decide +kernel
theorem dX6_tongueNamed_28 : decode cX6_tongueNamed 28 = .ok (.ireturn, 1) := by decide +kernel
theorem dX6_textIs_0 : decode cX6_textIs 0 = .ok (.aload_n 1, 1) := by decide +kernel
theorem dX6_textIs_1 : decode cX6_textIs 1 = .ok (.invokevirtual 221, 3) := by decide +kernel
theorem dX6_textIs_4 : decode cX6_textIs 4 = .ok (.aload_n 0, 1) := by decide +kernel
theorem dX6_textIs_5 : decode cX6_textIs 5 = .ok (.getfield 46, 3) := by decide +kernel
theorem dX6_textIs_8 : decode cX6_textIs 8 = .ok (.if_icmp .eq 5, 3) := by decide +kernel
theorem dX6_textIs_11 : decode cX6_textIs 11 = .ok (.iconst 0, 1) := by decide +kernel
theorem dX6_textIs_12 : decode cX6_textIs 12 = .ok (.ireturn, 1) := by decide +kernel
theorem dX6_textIs_13 : decode cX6_textIs 13 = .ok (.iconst 0, 1) := by decide +kernel
theorem dX6_textIs_14 : decode cX6_textIs 14 = .ok (.istore_n 2, 1) := by decide +kernel
theorem dX6_textIs_15 : decode cX6_textIs 15 = .ok (.iload_n 2, 1) := by decide +kernel
theorem dX6_textIs_16 : decode cX6_textIs 16 = .ok (.aload_n 1, 1) := by decide +kernel
theorem dX6_textIs_17 : decode cX6_textIs 17 = .ok (.invokevirtual 221, 3) := by decide +kernel
theorem dX6_textIs_20 : decode cX6_textIs 20 = .ok (.if_icmp .ge 27, 3) := by decide +kernel
theorem dX6_textIs_23 : decode cX6_textIs 23 = .ok (.aload_n 1, 1) := by decide +kernel
theorem dX6_textIs_24 : decode cX6_textIs 24 = .ok (.iload_n 2, 1) := by decide +kernel
theorem dX6_textIs_25 : decode cX6_textIs 25 = .ok (.invokevirtual 226, 3) := by decide +kernel
theorem dX6_textIs_28 : decode cX6_textIs 28 = .ok (.aload_n 0, 1) := by decide +kernel
theorem dX6_textIs_29 : decode cX6_textIs 29 = .ok (.getfield 14, 3) := by decide +kernel
theorem dX6_textIs_32 : decode cX6_textIs 32 = .ok (.iload_n 2, 1) := by decide +kernel
theorem dX6_textIs_33 : decode cX6_textIs 33 = .ok (.invokevirtual 61, 3) := by decide +kernel
theorem dX6_textIs_36 : decode cX6_textIs 36 = .ok (.if_icmp .eq 5, 3) := by decide +kernel
theorem dX6_textIs_39 : decode cX6_textIs 39 = .ok (.iconst 0, 1) := by decide +kernel
theorem dX6_textIs_40 : decode cX6_textIs 40 = .ok (.ireturn, 1) := by decide +kernel
theorem dX6_textIs_41 : decode cX6_textIs 41 = .ok (.iinc 2 1, 3) := by decide +kernel
theorem dX6_textIs_44 : decode cX6_textIs 44 = .ok (.goto (-29), 3) := by decide +kernel
theorem dX6_textIs_47 : decode cX6_textIs 47 = .ok (.iconst 1, 1) := by decide +kernel
theorem dX6_textIs_48 : decode cX6_textIs 48 = .ok (.ireturn, 1) := by decide +kernel
theorem dX6_nameOf_0 : decode cX6_nameOf 0 = .ok (.iload_n 0, 1) := by decide +kernel
theorem dX6_nameOf_1 : decode cX6_nameOf 1 = .ok (.tableswitch 36 0 2 #[27, 30, 33], 27) := by decide +kernel
theorem dX6_nameOf_28 : decode cX6_nameOf 28 = .ok (.ldc 230, 2) := by decide +kernel
theorem dX6_nameOf_30 : decode cX6_nameOf 30 = .ok (.areturn, 1) := by decide +kernel
theorem dX6_nameOf_31 : decode cX6_nameOf 31 = .ok (.ldc 232, 2) := by decide +kernel
theorem dX6_nameOf_33 : decode cX6_nameOf 33 = .ok (.areturn, 1) := by decide +kernel
theorem dX6_nameOf_34 : decode cX6_nameOf 34 = .ok (.ldc 234, 2) := by decide +kernel
theorem dX6_nameOf_36 : decode cX6_nameOf 36 = .ok (.areturn, 1) := by decide +kernel
theorem dX6_nameOf_37 : decode cX6_nameOf 37 = .ok (.ldc 236, 2) := by decide +kernel
theorem dX6_nameOf_39 : decode cX6_nameOf 39 = .ok (.areturn, 1) := by decide +kernel
theorem dX6_fact_0 : decode cX6_fact 0 = .ok (.iload_n 3, 1) := by decide +kernel
theorem dX6_fact_1 : decode cX6_fact 1 = .ok (.iconst (-1), 1) := by decide +kernel
theorem dX6_fact_2 : decode cX6_fact 2 = .ok (.if_icmp .ne 5, 3) := by decide +kernel
theorem dX6_fact_5 : decode cX6_fact 5 = .ok (.iload_n 1, 1) := by decide +kernel
theorem dX6_fact_6 : decode cX6_fact 6 = .ok (.ireturn, 1) := by decide +kernel
theorem dX6_fact_7 : decode cX6_fact 7 = .ok (.iload_n 3, 1) := by decide +kernel
theorem dX6_fact_8 : decode cX6_fact 8 = .ok (.iload_n 1, 1) := by decide +kernel
theorem dX6_fact_9 : decode cX6_fact 9 = .ok (.invokestatic 95, 3) := by decide +kernel
theorem dX6_fact_12 : decode cX6_fact 12 = .ok (.ifCond .eq 16, 3) := by decide +kernel
theorem dX6_fact_15 : decode cX6_fact 15 = .ok (.aload_n 0, 1) := by decide +kernel
theorem dX6_fact_16 : decode cX6_fact 16 = .ok (.iload_n 3, 1) := by decide +kernel
theorem dX6_fact_17 : decode cX6_fact 17 = .ok (.iload_n 2, 1) := by decide +kernel
theorem dX6_fact_18 : decode cX6_fact 18 = .ok (.imul, 1) := by decide +kernel
theorem dX6_fact_19 : decode cX6_fact 19 = .ok (.iload 4, 2) := by decide +kernel
theorem dX6_fact_21 : decode cX6_fact 21 = .ok (.iadd, 1) := by decide +kernel
theorem dX6_fact_22 : decode cX6_fact 22 = .ok (.invokevirtual 61, 3) := by decide +kernel
theorem dX6_fact_25 : decode cX6_fact 25 = .ok (.goto 5, 3) := by decide +kernel
theorem dX6_fact_28 : decode cX6_fact 28 = .ok (.bipush (-4), 2) := by decide +kernel
theorem dX6_fact_30 : decode cX6_fact 30 = .ok (.ireturn, 1) := by decide +kernel
theorem dX6_isBelow_0 : decode cX6_isBelow 0 = .ok (.iload_n 0, 1) := by decide +kernel
theorem dX6_isBelow_1 : decode cX6_isBelow 1 = .ok (.ifCond .lt 12, 3) := by decide +kernel
theorem dX6_isBelow_4 : decode cX6_isBelow 4 = .ok (.iload_n 0, 1) := by decide +kernel
theorem dX6_isBelow_5 : decode cX6_isBelow 5 = .ok (.iload_n 1, 1) := by decide +kernel
theorem dX6_isBelow_6 : decode cX6_isBelow 6 = .ok (.if_icmp .ge 7, 3) := by decide +kernel
theorem dX6_isBelow_9 : decode cX6_isBelow 9 = .ok (.iconst 1, 1) := by decide +kernel
theorem dX6_isBelow_10 : decode cX6_isBelow 10 = .ok (.goto 4, 3) := by decide +kernel
theorem dX6_isBelow_13 : decode cX6_isBelow 13 = .ok (.iconst 0, 1) := by decide +kernel
theorem dX6_isBelow_14 : decode cX6_isBelow 14 = .ok (.ireturn, 1) := by decide +kernel
theorem dX6_isSign_0 : decode cX6_isSign 0 = .ok (.iload_n 0, 1) := by decide +kernel
theorem dX6_isSign_1 : decode cX6_isSign 1 = .ok (.invokestatic 238, 3) := by decide +kernel
theorem dX6_isSign_4 : decode cX6_isSign 4 = .ok (.ifCond .ne 22, 3) := by decide +kernel
theorem dX6_isSign_7 : decode cX6_isSign 7 = .ok (.iload_n 0, 1) := by decide +kernel
theorem dX6_isSign_8 : decode cX6_isSign 8 = .ok (.bipush 32, 2) := by decide +kernel
theorem dX6_isSign_10 : decode cX6_isSign 10 = .ok (.if_icmp .eq 16, 3) := by decide +kernel
theorem dX6_isSign_13 : decode cX6_isSign 13 = .ok (.iload_n 0, 1) := by decide +kernel
theorem dX6_isSign_14 : decode cX6_isSign 14 = .ok (.bipush 124, 2) := by decide +kernel
theorem dX6_isSign_16 : decode cX6_isSign 16 = .ok (.if_icmp .eq 10, 3) := by decide +kernel
theorem dX6_isSign_19 : decode cX6_isSign 19 = .ok (.iload_n 0, 1) := by decide +kernel
theorem dX6_isSign_20 : decode cX6_isSign 20 = .ok (.invokestatic 241, 3) := by decide +kernel
theorem dX6_isSign_23 : decode cX6_isSign 23 = .ok (.ifCond .eq 7, 3) := by decide +kernel
theorem dX6_isSign_26 : decode cX6_isSign 26 = .ok (.iconst 1, 1) := by decide +kernel
theorem dX6_isSign_27 : decode cX6_isSign 27 = .ok (.goto 4, 3) := by decide +kernel
theorem dX6_isSign_30 : decode cX6_isSign 30 = .ok (.iconst 0, 1) := by decide +kernel
theorem dX6_isSign_31 : decode cX6_isSign 31 = .ok (.ireturn, 1) := by decide +kernel
theorem dX6_isLetter_0 : decode cX6_isLetter 0 = .ok (.iload_n 0, 1) := by decide +kernel
theorem dX6_isLetter_1 : decode cX6_isLetter 1 = .ok (.bipush 97, 2) := by decide +kernel
theorem dX6_isLetter_3 : decode cX6_isLetter 3 = .ok (.if_icmp .lt 13, 3) := by decide +kernel
theorem dX6_isLetter_6 : decode cX6_isLetter 6 = .ok (.iload_n 0, 1) := by decide +kernel
theorem dX6_isLetter_7 : decode cX6_isLetter 7 = .ok (.bipush 122, 2) := by decide +kernel
theorem dX6_isLetter_9 : decode cX6_isLetter 9 = .ok (.if_icmp .gt 7, 3) := by decide +kernel
theorem dX6_isLetter_12 : decode cX6_isLetter 12 = .ok (.iconst 1, 1) := by decide +kernel
theorem dX6_isLetter_13 : decode cX6_isLetter 13 = .ok (.goto 4, 3) := by decide +kernel
theorem dX6_isLetter_16 : decode cX6_isLetter 16 = .ok (.iconst 0, 1) := by decide +kernel
theorem dX6_isLetter_17 : decode cX6_isLetter 17 = .ok (.ireturn, 1) := by decide +kernel
theorem dX6_isMark_0 : decode cX6_isMark 0 = .ok (.iconst 0, 1) := by decide +kernel
theorem dX6_isMark_1 : decode cX6_isMark 1 = .ok (.istore_n 1, 1) := by decide +kernel
theorem dX6_isMark_2 : decode cX6_isMark 2 = .ok (.iload_n 1, 1) := by decide +kernel
theorem dX6_isMark_3 : decode cX6_isMark 3 = .ok (.ldc 244, 2) := by decide +kernel
theorem dX6_isMark_5 : decode cX6_isMark 5 = .ok (.invokevirtual 221, 3) := by decide +kernel
theorem dX6_isMark_8 : decode cX6_isMark 8 = .ok (.if_icmp .ge 21, 3) := by decide +kernel
theorem dX6_isMark_11 : decode cX6_isMark 11 = .ok (.ldc 244, 2) := by decide +kernel
theorem dX6_isMark_13 : decode cX6_isMark 13 = .ok (.iload_n 1, 1) := by decide +kernel
theorem dX6_isMark_14 : decode cX6_isMark 14 = .ok (.invokevirtual 226, 3) := by decide +kernel
theorem dX6_isMark_17 : decode cX6_isMark 17 = .ok (.iload_n 0, 1) := by decide +kernel
theorem dX6_isMark_18 : decode cX6_isMark 18 = .ok (.if_icmp .ne 5, 3) := by decide +kernel
theorem dX6_isMark_21 : decode cX6_isMark 21 = .ok (.iconst 1, 1) := by decide +kernel
theorem dX6_isMark_22 : decode cX6_isMark 22 = .ok (.ireturn, 1) := by decide +kernel
theorem dX6_isMark_23 : decode cX6_isMark 23 = .ok (.iinc 1 1, 3) := by decide +kernel
theorem dX6_isMark_26 : decode cX6_isMark 26 = .ok (.goto (-24), 3) := by decide +kernel
theorem dX6_isMark_29 : decode cX6_isMark 29 = .ok (.iconst 0, 1) := by decide +kernel
theorem dX6_isMark_30 : decode cX6_isMark 30 = .ok (.ireturn, 1) := by decide +kernel
theorem dX6_openerOf_0 : decode cX6_openerOf 0 = .ok (.iload_n 0, 1) := by decide +kernel
theorem dX6_openerOf_1 : decode cX6_openerOf 1 = .ok (.iload_n 1, 1) := by decide +kernel
theorem dX6_openerOf_2 : decode cX6_openerOf 2 = .ok (.iconst 1, 1) := by decide +kernel
theorem dX6_openerOf_3 : decode cX6_openerOf 3 = .ok (.iand, 1) := by decide +kernel
theorem dX6_openerOf_4 : decode cX6_openerOf 4 = .ok (.iconst 2, 1) := by decide +kernel
theorem dX6_openerOf_5 : decode cX6_openerOf 5 = .ok (.imul, 1) := by decide +kernel
theorem dX6_openerOf_6 : decode cX6_openerOf 6 = .ok (.invokestatic 246, 3) := by decide +kernel
theorem dX6_openerOf_9 : decode cX6_openerOf 9 = .ok (.ireturn, 1) := by decide +kernel
theorem dX6_closerOf_0 : decode cX6_closerOf 0 = .ok (.iload_n 0, 1) := by decide +kernel
theorem dX6_closerOf_1 : decode cX6_closerOf 1 = .ok (.iload_n 1, 1) := by decide +kernel
theorem dX6_closerOf_2 : decode cX6_closerOf 2 = .ok (.iconst 1, 1) := by decide +kernel
theorem dX6_closerOf_3 : decode cX6_closerOf 3 = .ok (.isub, 1) := by decide +kernel
theorem dX6_closerOf_4 : decode cX6_closerOf 4 = .ok (.iconst 1, 1) := by decide +kernel
theorem dX6_closerOf_5 : decode cX6_closerOf 5 = .ok (.iand, 1) := by decide +kernel
theorem dX6_closerOf_6 : decode cX6_closerOf 6 = .ok (.iconst 2, 1) := by decide +kernel
theorem dX6_closerOf_7 : decode cX6_closerOf 7 = .ok (.imul, 1) := by decide +kernel
theorem dX6_closerOf_8 : decode cX6_closerOf 8 = .ok (.iconst 1, 1) := by decide +kernel
theorem dX6_closerOf_9 : decode cX6_closerOf 9 = .ok (.iadd, 1) := by decide +kernel
theorem dX6_closerOf_10 : decode cX6_closerOf 10 = .ok (.invokestatic 246, 3) := by decide +kernel
theorem dX6_closerOf_13 : decode cX6_closerOf 13 = .ok (.ireturn, 1) := by decide +kernel
theorem dX6_pairSign_0 : decode cX6_pairSign 0 = .ok (.iload_n 0, 1) := by decide +kernel
theorem dX6_pairSign_1 : decode cX6_pairSign 1 = .ok (.iconst 4, 1) := by decide +kernel
theorem dX6_pairSign_2 : decode cX6_pairSign 2 = .ok (.imul, 1) := by decide +kernel
theorem dX6_pairSign_3 : decode cX6_pairSign 3 = .ok (.iload_n 1, 1) := by decide +kernel
theorem dX6_pairSign_4 : decode cX6_pairSign 4 = .ok (.iadd, 1) := by decide +kernel
theorem dX6_pairSign_5 : decode cX6_pairSign 5 = .ok (.istore_n 2, 1) := by decide +kernel
theorem dX6_pairSign_6 : decode cX6_pairSign 6 = .ok (.iload_n 2, 1) := by decide +kernel
theorem dX6_pairSign_7 : decode cX6_pairSign 7 = .ok (.ifCond .lt 19, 3) := by decide +kernel
theorem dX6_pairSign_10 : decode cX6_pairSign 10 = .ok (.iload_n 2, 1) := by decide +kernel
theorem dX6_pairSign_11 : decode cX6_pairSign 11 = .ok (.getstatic 249, 3) := by decide +kernel
theorem dX6_pairSign_14 : decode cX6_pairSign 14 = .ok (.arraylength, 1) := by decide +kernel
theorem dX6_pairSign_15 : decode cX6_pairSign 15 = .ok (.if_icmp .ge 11, 3) := by decide +kernel
theorem dX6_pairSign_18 : decode cX6_pairSign 18 = .ok (.getstatic 249, 3) := by decide +kernel
theorem dX6_pairSign_21 : decode cX6_pairSign 21 = .ok (.iload_n 2, 1) := by decide +kernel
theorem dX6_pairSign_22 : decode cX6_pairSign 22 = .ok (.caload, 1) := by decide +kernel
theorem dX6_pairSign_23 : decode cX6_pairSign 23 = .ok (.goto 4, 3) := by decide +kernel
theorem dX6_pairSign_26 : decode cX6_pairSign 26 = .ok (.iconst 0, 1) := by decide +kernel
theorem dX6_pairSign_27 : decode cX6_pairSign 27 = .ok (.ireturn, 1) := by decide +kernel
theorem dL_law_0 : decode cL_law 0 = .ok (.new 7, 3) := by decide +kernel
theorem dL_law_3 : decode cL_law 3 = .ok (.dup, 1) := by decide +kernel
theorem dL_law_4 : decode cL_law 4 = .ok (.invokespecial 9, 3) := by decide +kernel
theorem dL_law_7 : decode cL_law 7 = .ok (.astore_n 1, 1) := by decide +kernel
theorem dL_law_8 : decode cL_law 8 = .ok (.new 10, 3) := by decide +kernel
theorem dL_law_11 : decode cL_law 11 = .ok (.dup, 1) := by decide +kernel
theorem dL_law_12 : decode cL_law 12 = .ok (.invokespecial 12, 3) := by decide +kernel
theorem dL_law_15 : decode cL_law 15 = .ok (.astore_n 2, 1) := by decide +kernel
theorem dL_law_16 : decode cL_law 16 = .ok (.iconst 0, 1) := by decide +kernel
theorem dL_law_17 : decode cL_law 17 = .ok (.istore_n 3, 1) := by decide +kernel
theorem dL_law_18 : decode cL_law 18 = .ok (.iload_n 3, 1) := by decide +kernel
theorem dL_law_19 : decode cL_law 19 = .ok (.aload_n 0, 1) := by decide +kernel
theorem dL_law_20 : decode cL_law 20 = .ok (.arraylength, 1) := by decide +kernel
theorem dL_law_21 : decode cL_law 21 = .ok (.iconst 3, 1) := by decide +kernel
theorem dL_law_22 : decode cL_law 22 = .ok (.isub, 1) := by decide +kernel
theorem dL_law_23 : decode cL_law 23 = .ok (.if_icmp .gt 733, 3) := by decide +kernel
theorem dL_law_26 : decode cL_law 26 = .ok (.aload_n 0, 1) := by decide +kernel
theorem dL_law_27 : decode cL_law 27 = .ok (.iload_n 3, 1) := by decide +kernel
theorem dL_law_28 : decode cL_law 28 = .ok (.iaload, 1) := by decide +kernel
theorem dL_law_29 : decode cL_law 29 = .ok (.bipush 31, 2) := by decide +kernel
theorem dL_law_31 : decode cL_law 31 = .ok (.iand, 1) := by decide +kernel
theorem dL_law_32 : decode cL_law 32 = .ok (.tableswitch 718 0 25 #[120, 143, 156, 169, 182, 195, 218, 251, 284, 307, 340, 353, 376, 399, 422, 445, 478, 511, 534, 567, 580, 603, 626, 639, 672, 695], 120) := by decide +kernel
theorem dL_law_152 : decode cL_law 152 = .ok (.aload_n 1, 1) := by decide +kernel
theorem dL_law_153 : decode cL_law 153 = .ok (.aload_n 0, 1) := by decide +kernel
theorem dL_law_154 : decode cL_law 154 = .ok (.iload_n 3, 1) := by decide +kernel
theorem dL_law_155 : decode cL_law 155 = .ok (.iconst 1, 1) := by decide +kernel
theorem dL_law_156 : decode cL_law 156 = .ok (.iadd, 1) := by decide +kernel
theorem dL_law_157 : decode cL_law 157 = .ok (.iaload, 1) := by decide +kernel
theorem dL_law_158 : decode cL_law 158 = .ok (.invokevirtual 13, 3) := by decide +kernel
theorem dL_law_161 : decode cL_law 161 = .ok (.aload_n 2, 1) := by decide +kernel
theorem dL_law_162 : decode cL_law 162 = .ok (.aload_n 0, 1) := by decide +kernel
theorem dL_law_163 : decode cL_law 163 = .ok (.iload_n 3, 1) := by decide +kernel
theorem dL_law_164 : decode cL_law 164 = .ok (.iconst 1, 1) := by decide +kernel
theorem dL_law_165 : decode cL_law 165 = .ok (.iadd, 1) := by decide +kernel
theorem dL_law_166 : decode cL_law 166 = .ok (.iaload, 1) := by decide +kernel
theorem dL_law_167 : decode cL_law 167 = .ok (.invokevirtual 17, 3) := by decide +kernel
theorem dL_law_170 : decode cL_law 170 = .ok (.if_icmp .eq 580, 3) := by decide +kernel
theorem dL_law_173 : decode cL_law 173 = .ok (.iconst 0, 1) := by decide +kernel
theorem dL_law_174 : decode cL_law 174 = .ok (.ireturn, 1) := by decide +kernel
theorem dL_law_175 : decode cL_law 175 = .ok (.aload_n 1, 1) := by decide +kernel
theorem dL_law_176 : decode cL_law 176 = .ok (.invokevirtual 18, 3) := by decide +kernel
theorem dL_law_179 : decode cL_law 179 = .ok (.aload_n 2, 1) := by decide +kernel
theorem dL_law_180 : decode cL_law 180 = .ok (.invokevirtual 22, 3) := by decide +kernel
theorem dL_law_183 : decode cL_law 183 = .ok (.if_icmp .eq 567, 3) := by decide +kernel
theorem dL_law_186 : decode cL_law 186 = .ok (.iconst 0, 1) := by decide +kernel
theorem dL_law_187 : decode cL_law 187 = .ok (.ireturn, 1) := by decide +kernel
theorem dL_law_188 : decode cL_law 188 = .ok (.aload_n 1, 1) := by decide +kernel
theorem dL_law_189 : decode cL_law 189 = .ok (.invokevirtual 23, 3) := by decide +kernel
theorem dL_law_192 : decode cL_law 192 = .ok (.aload_n 2, 1) := by decide +kernel
theorem dL_law_193 : decode cL_law 193 = .ok (.invokevirtual 26, 3) := by decide +kernel
theorem dL_law_196 : decode cL_law 196 = .ok (.if_icmp .eq 554, 3) := by decide +kernel
theorem dL_law_199 : decode cL_law 199 = .ok (.iconst 0, 1) := by decide +kernel
theorem dL_law_200 : decode cL_law 200 = .ok (.ireturn, 1) := by decide +kernel
theorem dL_law_201 : decode cL_law 201 = .ok (.aload_n 1, 1) := by decide +kernel
theorem dL_law_202 : decode cL_law 202 = .ok (.invokevirtual 27, 3) := by decide +kernel
theorem dL_law_205 : decode cL_law 205 = .ok (.aload_n 2, 1) := by decide +kernel
theorem dL_law_206 : decode cL_law 206 = .ok (.invokevirtual 30, 3) := by decide +kernel
theorem dL_law_209 : decode cL_law 209 = .ok (.if_icmp .eq 541, 3) := by decide +kernel
theorem dL_law_212 : decode cL_law 212 = .ok (.iconst 0, 1) := by decide +kernel
theorem dL_law_213 : decode cL_law 213 = .ok (.ireturn, 1) := by decide +kernel
theorem dL_law_214 : decode cL_law 214 = .ok (.aload_n 1, 1) := by decide +kernel
theorem dL_law_215 : decode cL_law 215 = .ok (.invokevirtual 31, 3) := by decide +kernel
theorem dL_law_218 : decode cL_law 218 = .ok (.aload_n 2, 1) := by decide +kernel
theorem dL_law_219 : decode cL_law 219 = .ok (.invokevirtual 34, 3) := by decide +kernel
theorem dL_law_222 : decode cL_law 222 = .ok (.if_icmp .eq 528, 3) := by decide +kernel
theorem dL_law_225 : decode cL_law 225 = .ok (.iconst 0, 1) := by decide +kernel
theorem dL_law_226 : decode cL_law 226 = .ok (.ireturn, 1) := by decide +kernel
theorem dL_law_227 : decode cL_law 227 = .ok (.aload_n 1, 1) := by decide +kernel
theorem dL_law_228 : decode cL_law 228 = .ok (.aload_n 0, 1) := by decide +kernel
theorem dL_law_229 : decode cL_law 229 = .ok (.iload_n 3, 1) := by decide +kernel
theorem dL_law_230 : decode cL_law 230 = .ok (.iconst 1, 1) := by decide +kernel
theorem dL_law_231 : decode cL_law 231 = .ok (.iadd, 1) := by decide +kernel
theorem dL_law_232 : decode cL_law 232 = .ok (.iaload, 1) := by decide +kernel
theorem dL_law_233 : decode cL_law 233 = .ok (.invokevirtual 35, 3) := by decide +kernel
theorem dL_law_236 : decode cL_law 236 = .ok (.aload_n 2, 1) := by decide +kernel
theorem dL_law_237 : decode cL_law 237 = .ok (.aload_n 0, 1) := by decide +kernel
theorem dL_law_238 : decode cL_law 238 = .ok (.iload_n 3, 1) := by decide +kernel
theorem dL_law_239 : decode cL_law 239 = .ok (.iconst 1, 1) := by decide +kernel
theorem dL_law_240 : decode cL_law 240 = .ok (.iadd, 1) := by decide +kernel
theorem dL_law_241 : decode cL_law 241 = .ok (.iaload, 1) := by decide +kernel
theorem dL_law_242 : decode cL_law 242 = .ok (.invokevirtual 38, 3) := by decide +kernel
theorem dL_law_245 : decode cL_law 245 = .ok (.if_icmp .eq 505, 3) := by decide +kernel
theorem dL_law_248 : decode cL_law 248 = .ok (.iconst 0, 1) := by decide +kernel
theorem dL_law_249 : decode cL_law 249 = .ok (.ireturn, 1) := by decide +kernel
theorem dL_law_250 : decode cL_law 250 = .ok (.aload_n 1, 1) := by decide +kernel
theorem dL_law_251 : decode cL_law 251 = .ok (.aload_n 0, 1) := by decide +kernel
theorem dL_law_252 : decode cL_law 252 = .ok (.iload_n 3, 1) := by decide +kernel
theorem dL_law_253 : decode cL_law 253 = .ok (.iconst 1, 1) := by decide +kernel
theorem dL_law_254 : decode cL_law 254 = .ok (.iadd, 1) := by decide +kernel
theorem dL_law_255 : decode cL_law 255 = .ok (.iaload, 1) := by decide +kernel
theorem dL_law_256 : decode cL_law 256 = .ok (.aload_n 0, 1) := by decide +kernel
theorem dL_law_257 : decode cL_law 257 = .ok (.iload_n 3, 1) := by decide +kernel
theorem dL_law_258 : decode cL_law 258 = .ok (.iconst 2, 1) := by decide +kernel
theorem dL_law_259 : decode cL_law 259 = .ok (.iadd, 1) := by decide +kernel
theorem dL_law_260 : decode cL_law 260 = .ok (.iaload, 1) := by decide +kernel
theorem dL_law_261 : decode cL_law 261 = .ok (.invokevirtual 39, 3) := by decide +kernel
theorem dL_law_264 : decode cL_law 264 = .ok (.aload_n 2, 1) := by decide +kernel
theorem dL_law_265 : decode cL_law 265 = .ok (.aload_n 0, 1) := by decide +kernel
theorem dL_law_266 : decode cL_law 266 = .ok (.iload_n 3, 1) := by decide +kernel
theorem dL_law_267 : decode cL_law 267 = .ok (.iconst 1, 1) := by decide +kernel
theorem dL_law_268 : decode cL_law 268 = .ok (.iadd, 1) := by decide +kernel
theorem dL_law_269 : decode cL_law 269 = .ok (.iaload, 1) := by decide +kernel
theorem dL_law_270 : decode cL_law 270 = .ok (.aload_n 0, 1) := by decide +kernel
theorem dL_law_271 : decode cL_law 271 = .ok (.iload_n 3, 1) := by decide +kernel
theorem dL_law_272 : decode cL_law 272 = .ok (.iconst 2, 1) := by decide +kernel
theorem dL_law_273 : decode cL_law 273 = .ok (.iadd, 1) := by decide +kernel
theorem dL_law_274 : decode cL_law 274 = .ok (.iaload, 1) := by decide +kernel
theorem dL_law_275 : decode cL_law 275 = .ok (.invokevirtual 43, 3) := by decide +kernel
theorem dL_law_278 : decode cL_law 278 = .ok (.if_icmp .eq 472, 3) := by decide +kernel
theorem dL_law_281 : decode cL_law 281 = .ok (.iconst 0, 1) := by decide +kernel
theorem dL_law_282 : decode cL_law 282 = .ok (.ireturn, 1) := by decide +kernel
theorem dL_law_283 : decode cL_law 283 = .ok (.aload_n 1, 1) := by decide +kernel
theorem dL_law_284 : decode cL_law 284 = .ok (.aload_n 0, 1) := by decide +kernel
theorem dL_law_285 : decode cL_law 285 = .ok (.iload_n 3, 1) := by decide +kernel
theorem dL_law_286 : decode cL_law 286 = .ok (.iconst 1, 1) := by decide +kernel
theorem dL_law_287 : decode cL_law 287 = .ok (.iadd, 1) := by decide +kernel
theorem dL_law_288 : decode cL_law 288 = .ok (.iaload, 1) := by decide +kernel
theorem dL_law_289 : decode cL_law 289 = .ok (.aload_n 0, 1) := by decide +kernel
theorem dL_law_290 : decode cL_law 290 = .ok (.iload_n 3, 1) := by decide +kernel
theorem dL_law_291 : decode cL_law 291 = .ok (.iconst 2, 1) := by decide +kernel
theorem dL_law_292 : decode cL_law 292 = .ok (.iadd, 1) := by decide +kernel
theorem dL_law_293 : decode cL_law 293 = .ok (.iaload, 1) := by decide +kernel
theorem dL_law_294 : decode cL_law 294 = .ok (.invokevirtual 44, 3) := by decide +kernel
theorem dL_law_297 : decode cL_law 297 = .ok (.aload_n 2, 1) := by decide +kernel
theorem dL_law_298 : decode cL_law 298 = .ok (.aload_n 0, 1) := by decide +kernel
theorem dL_law_299 : decode cL_law 299 = .ok (.iload_n 3, 1) := by decide +kernel
theorem dL_law_300 : decode cL_law 300 = .ok (.iconst 1, 1) := by decide +kernel
theorem dL_law_301 : decode cL_law 301 = .ok (.iadd, 1) := by decide +kernel
theorem dL_law_302 : decode cL_law 302 = .ok (.iaload, 1) := by decide +kernel
theorem dL_law_303 : decode cL_law 303 = .ok (.aload_n 0, 1) := by decide +kernel
theorem dL_law_304 : decode cL_law 304 = .ok (.iload_n 3, 1) := by decide +kernel
theorem dL_law_305 : decode cL_law 305 = .ok (.iconst 2, 1) := by decide +kernel
theorem dL_law_306 : decode cL_law 306 = .ok (.iadd, 1) := by decide +kernel
theorem dL_law_307 : decode cL_law 307 = .ok (.iaload, 1) := by decide +kernel
theorem dL_law_308 : decode cL_law 308 = .ok (.invokevirtual 47, 3) := by decide +kernel
theorem dL_law_311 : decode cL_law 311 = .ok (.if_icmp .eq 439, 3) := by decide +kernel
theorem dL_law_314 : decode cL_law 314 = .ok (.iconst 0, 1) := by decide +kernel
theorem dL_law_315 : decode cL_law 315 = .ok (.ireturn, 1) := by decide +kernel
theorem dL_law_316 : decode cL_law 316 = .ok (.aload_n 1, 1) := by decide +kernel
theorem dL_law_317 : decode cL_law 317 = .ok (.aload_n 0, 1) := by decide +kernel
theorem dL_law_318 : decode cL_law 318 = .ok (.iload_n 3, 1) := by decide +kernel
theorem dL_law_319 : decode cL_law 319 = .ok (.iconst 1, 1) := by decide +kernel
theorem dL_law_320 : decode cL_law 320 = .ok (.iadd, 1) := by decide +kernel
theorem dL_law_321 : decode cL_law 321 = .ok (.iaload, 1) := by decide +kernel
theorem dL_law_322 : decode cL_law 322 = .ok (.invokevirtual 48, 3) := by decide +kernel
theorem dL_law_325 : decode cL_law 325 = .ok (.aload_n 2, 1) := by decide +kernel
theorem dL_law_326 : decode cL_law 326 = .ok (.aload_n 0, 1) := by decide +kernel
theorem dL_law_327 : decode cL_law 327 = .ok (.iload_n 3, 1) := by decide +kernel
theorem dL_law_328 : decode cL_law 328 = .ok (.iconst 1, 1) := by decide +kernel
theorem dL_law_329 : decode cL_law 329 = .ok (.iadd, 1) := by decide +kernel
theorem dL_law_330 : decode cL_law 330 = .ok (.iaload, 1) := by decide +kernel
theorem dL_law_331 : decode cL_law 331 = .ok (.invokevirtual 51, 3) := by decide +kernel
theorem dL_law_334 : decode cL_law 334 = .ok (.if_icmp .eq 416, 3) := by decide +kernel
theorem dL_law_337 : decode cL_law 337 = .ok (.iconst 0, 1) := by decide +kernel
theorem dL_law_338 : decode cL_law 338 = .ok (.ireturn, 1) := by decide +kernel
theorem dL_law_339 : decode cL_law 339 = .ok (.aload_n 1, 1) := by decide +kernel
theorem dL_law_340 : decode cL_law 340 = .ok (.aload_n 0, 1) := by decide +kernel
theorem dL_law_341 : decode cL_law 341 = .ok (.iload_n 3, 1) := by decide +kernel
theorem dL_law_342 : decode cL_law 342 = .ok (.iconst 1, 1) := by decide +kernel
theorem dL_law_343 : decode cL_law 343 = .ok (.iadd, 1) := by decide +kernel
theorem dL_law_344 : decode cL_law 344 = .ok (.iaload, 1) := by decide +kernel
theorem dL_law_345 : decode cL_law 345 = .ok (.aload_n 0, 1) := by decide +kernel
theorem dL_law_346 : decode cL_law 346 = .ok (.iload_n 3, 1) := by decide +kernel
theorem dL_law_347 : decode cL_law 347 = .ok (.iconst 2, 1) := by decide +kernel
theorem dL_law_348 : decode cL_law 348 = .ok (.iadd, 1) := by decide +kernel
theorem dL_law_349 : decode cL_law 349 = .ok (.iaload, 1) := by decide +kernel
theorem dL_law_350 : decode cL_law 350 = .ok (.invokevirtual 52, 3) := by decide +kernel
theorem dL_law_353 : decode cL_law 353 = .ok (.aload_n 2, 1) := by decide +kernel
theorem dL_law_354 : decode cL_law 354 = .ok (.aload_n 0, 1) := by decide +kernel
theorem dL_law_355 : decode cL_law 355 = .ok (.iload_n 3, 1) := by decide +kernel
theorem dL_law_356 : decode cL_law 356 = .ok (.iconst 1, 1) := by decide +kernel
theorem dL_law_357 : decode cL_law 357 = .ok (.iadd, 1) := by decide +kernel
theorem dL_law_358 : decode cL_law 358 = .ok (.iaload, 1) := by decide +kernel
theorem dL_law_359 : decode cL_law 359 = .ok (.aload_n 0, 1) := by decide +kernel
theorem dL_law_360 : decode cL_law 360 = .ok (.iload_n 3, 1) := by decide +kernel
theorem dL_law_361 : decode cL_law 361 = .ok (.iconst 2, 1) := by decide +kernel
theorem dL_law_362 : decode cL_law 362 = .ok (.iadd, 1) := by decide +kernel
theorem dL_law_363 : decode cL_law 363 = .ok (.iaload, 1) := by decide +kernel
theorem dL_law_364 : decode cL_law 364 = .ok (.invokevirtual 55, 3) := by decide +kernel
theorem dL_law_367 : decode cL_law 367 = .ok (.if_icmp .eq 383, 3) := by decide +kernel
theorem dL_law_370 : decode cL_law 370 = .ok (.iconst 0, 1) := by decide +kernel
theorem dL_law_371 : decode cL_law 371 = .ok (.ireturn, 1) := by decide +kernel
theorem dL_law_372 : decode cL_law 372 = .ok (.aload_n 1, 1) := by decide +kernel
theorem dL_law_373 : decode cL_law 373 = .ok (.invokevirtual 56, 3) := by decide +kernel
theorem dL_law_376 : decode cL_law 376 = .ok (.aload_n 2, 1) := by decide +kernel
theorem dL_law_377 : decode cL_law 377 = .ok (.invokevirtual 59, 3) := by decide +kernel
theorem dL_law_380 : decode cL_law 380 = .ok (.if_icmp .eq 370, 3) := by decide +kernel
theorem dL_law_383 : decode cL_law 383 = .ok (.iconst 0, 1) := by decide +kernel
theorem dL_law_384 : decode cL_law 384 = .ok (.ireturn, 1) := by decide +kernel
theorem dL_law_385 : decode cL_law 385 = .ok (.aload_n 1, 1) := by decide +kernel
theorem dL_law_386 : decode cL_law 386 = .ok (.aload_n 0, 1) := by decide +kernel
theorem dL_law_387 : decode cL_law 387 = .ok (.iload_n 3, 1) := by decide +kernel
theorem dL_law_388 : decode cL_law 388 = .ok (.iconst 1, 1) := by decide +kernel
theorem dL_law_389 : decode cL_law 389 = .ok (.iadd, 1) := by decide +kernel
theorem dL_law_390 : decode cL_law 390 = .ok (.iaload, 1) := by decide +kernel
theorem dL_law_391 : decode cL_law 391 = .ok (.invokevirtual 60, 3) := by decide +kernel
theorem dL_law_394 : decode cL_law 394 = .ok (.aload_n 2, 1) := by decide +kernel
theorem dL_law_395 : decode cL_law 395 = .ok (.aload_n 0, 1) := by decide +kernel
theorem dL_law_396 : decode cL_law 396 = .ok (.iload_n 3, 1) := by decide +kernel
theorem dL_law_397 : decode cL_law 397 = .ok (.iconst 1, 1) := by decide +kernel
theorem dL_law_398 : decode cL_law 398 = .ok (.iadd, 1) := by decide +kernel
theorem dL_law_399 : decode cL_law 399 = .ok (.iaload, 1) := by decide +kernel
theorem dL_law_400 : decode cL_law 400 = .ok (.invokevirtual 63, 3) := by decide +kernel
theorem dL_law_403 : decode cL_law 403 = .ok (.if_icmp .eq 347, 3) := by decide +kernel
theorem dL_law_406 : decode cL_law 406 = .ok (.iconst 0, 1) := by decide +kernel
theorem dL_law_407 : decode cL_law 407 = .ok (.ireturn, 1) := by decide +kernel
theorem dL_law_408 : decode cL_law 408 = .ok (.aload_n 1, 1) := by decide +kernel
theorem dL_law_409 : decode cL_law 409 = .ok (.aload_n 0, 1) := by decide +kernel
theorem dL_law_410 : decode cL_law 410 = .ok (.iload_n 3, 1) := by decide +kernel
theorem dL_law_411 : decode cL_law 411 = .ok (.iconst 1, 1) := by decide +kernel
theorem dL_law_412 : decode cL_law 412 = .ok (.iadd, 1) := by decide +kernel
theorem dL_law_413 : decode cL_law 413 = .ok (.iaload, 1) := by decide +kernel
theorem dL_law_414 : decode cL_law 414 = .ok (.invokevirtual 64, 3) := by decide +kernel
theorem dL_law_417 : decode cL_law 417 = .ok (.aload_n 2, 1) := by decide +kernel
theorem dL_law_418 : decode cL_law 418 = .ok (.aload_n 0, 1) := by decide +kernel
theorem dL_law_419 : decode cL_law 419 = .ok (.iload_n 3, 1) := by decide +kernel
theorem dL_law_420 : decode cL_law 420 = .ok (.iconst 1, 1) := by decide +kernel
theorem dL_law_421 : decode cL_law 421 = .ok (.iadd, 1) := by decide +kernel
theorem dL_law_422 : decode cL_law 422 = .ok (.iaload, 1) := by decide +kernel
theorem dL_law_423 : decode cL_law 423 = .ok (.invokevirtual 67, 3) := by decide +kernel
theorem dL_law_426 : decode cL_law 426 = .ok (.if_icmp .eq 324, 3) := by decide +kernel
theorem dL_law_429 : decode cL_law 429 = .ok (.iconst 0, 1) := by decide +kernel
theorem dL_law_430 : decode cL_law 430 = .ok (.ireturn, 1) := by decide +kernel
theorem dL_law_431 : decode cL_law 431 = .ok (.aload_n 1, 1) := by decide +kernel
theorem dL_law_432 : decode cL_law 432 = .ok (.aload_n 0, 1) := by decide +kernel
theorem dL_law_433 : decode cL_law 433 = .ok (.iload_n 3, 1) := by decide +kernel
theorem dL_law_434 : decode cL_law 434 = .ok (.iconst 1, 1) := by decide +kernel
theorem dL_law_435 : decode cL_law 435 = .ok (.iadd, 1) := by decide +kernel
theorem dL_law_436 : decode cL_law 436 = .ok (.iaload, 1) := by decide +kernel
theorem dL_law_437 : decode cL_law 437 = .ok (.invokevirtual 68, 3) := by decide +kernel
theorem dL_law_440 : decode cL_law 440 = .ok (.aload_n 2, 1) := by decide +kernel
theorem dL_law_441 : decode cL_law 441 = .ok (.aload_n 0, 1) := by decide +kernel
theorem dL_law_442 : decode cL_law 442 = .ok (.iload_n 3, 1) := by decide +kernel
theorem dL_law_443 : decode cL_law 443 = .ok (.iconst 1, 1) := by decide +kernel
theorem dL_law_444 : decode cL_law 444 = .ok (.iadd, 1) := by decide +kernel
theorem dL_law_445 : decode cL_law 445 = .ok (.iaload, 1) := by decide +kernel
theorem dL_law_446 : decode cL_law 446 = .ok (.invokevirtual 71, 3) := by decide +kernel
theorem dL_law_449 : decode cL_law 449 = .ok (.if_icmp .eq 301, 3) := by decide +kernel
theorem dL_law_452 : decode cL_law 452 = .ok (.iconst 0, 1) := by decide +kernel
theorem dL_law_453 : decode cL_law 453 = .ok (.ireturn, 1) := by decide +kernel
theorem dL_law_454 : decode cL_law 454 = .ok (.aload_n 1, 1) := by decide +kernel
theorem dL_law_455 : decode cL_law 455 = .ok (.aload_n 0, 1) := by decide +kernel
theorem dL_law_456 : decode cL_law 456 = .ok (.iload_n 3, 1) := by decide +kernel
theorem dL_law_457 : decode cL_law 457 = .ok (.iconst 1, 1) := by decide +kernel
theorem dL_law_458 : decode cL_law 458 = .ok (.iadd, 1) := by decide +kernel
theorem dL_law_459 : decode cL_law 459 = .ok (.iaload, 1) := by decide +kernel
theorem dL_law_460 : decode cL_law 460 = .ok (.invokevirtual 72, 3) := by decide +kernel
theorem dL_law_463 : decode cL_law 463 = .ok (.aload_n 2, 1) := by decide +kernel
theorem dL_law_464 : decode cL_law 464 = .ok (.aload_n 0, 1) := by decide +kernel
theorem dL_law_465 : decode cL_law 465 = .ok (.iload_n 3, 1) := by decide +kernel
theorem dL_law_466 : decode cL_law 466 = .ok (.iconst 1, 1) := by decide +kernel
theorem dL_law_467 : decode cL_law 467 = .ok (.iadd, 1) := by decide +kernel
theorem dL_law_468 : decode cL_law 468 = .ok (.iaload, 1) := by decide +kernel
theorem dL_law_469 : decode cL_law 469 = .ok (.invokevirtual 75, 3) := by decide +kernel
theorem dL_law_472 : decode cL_law 472 = .ok (.if_icmp .eq 278, 3) := by decide +kernel
theorem dL_law_475 : decode cL_law 475 = .ok (.iconst 0, 1) := by decide +kernel
theorem dL_law_476 : decode cL_law 476 = .ok (.ireturn, 1) := by decide +kernel
theorem dL_law_477 : decode cL_law 477 = .ok (.aload_n 1, 1) := by decide +kernel
theorem dL_law_478 : decode cL_law 478 = .ok (.aload_n 0, 1) := by decide +kernel
theorem dL_law_479 : decode cL_law 479 = .ok (.iload_n 3, 1) := by decide +kernel
theorem dL_law_480 : decode cL_law 480 = .ok (.iconst 1, 1) := by decide +kernel
theorem dL_law_481 : decode cL_law 481 = .ok (.iadd, 1) := by decide +kernel
theorem dL_law_482 : decode cL_law 482 = .ok (.iaload, 1) := by decide +kernel
theorem dL_law_483 : decode cL_law 483 = .ok (.aload_n 0, 1) := by decide +kernel
theorem dL_law_484 : decode cL_law 484 = .ok (.iload_n 3, 1) := by decide +kernel
theorem dL_law_485 : decode cL_law 485 = .ok (.iconst 2, 1) := by decide +kernel
theorem dL_law_486 : decode cL_law 486 = .ok (.iadd, 1) := by decide +kernel
theorem dL_law_487 : decode cL_law 487 = .ok (.iaload, 1) := by decide +kernel
theorem dL_law_488 : decode cL_law 488 = .ok (.invokevirtual 76, 3) := by decide +kernel
theorem dL_law_491 : decode cL_law 491 = .ok (.aload_n 2, 1) := by decide +kernel
theorem dL_law_492 : decode cL_law 492 = .ok (.aload_n 0, 1) := by decide +kernel
theorem dL_law_493 : decode cL_law 493 = .ok (.iload_n 3, 1) := by decide +kernel
theorem dL_law_494 : decode cL_law 494 = .ok (.iconst 1, 1) := by decide +kernel
theorem dL_law_495 : decode cL_law 495 = .ok (.iadd, 1) := by decide +kernel
theorem dL_law_496 : decode cL_law 496 = .ok (.iaload, 1) := by decide +kernel
theorem dL_law_497 : decode cL_law 497 = .ok (.aload_n 0, 1) := by decide +kernel
theorem dL_law_498 : decode cL_law 498 = .ok (.iload_n 3, 1) := by decide +kernel
theorem dL_law_499 : decode cL_law 499 = .ok (.iconst 2, 1) := by decide +kernel
theorem dL_law_500 : decode cL_law 500 = .ok (.iadd, 1) := by decide +kernel
theorem dL_law_501 : decode cL_law 501 = .ok (.iaload, 1) := by decide +kernel
theorem dL_law_502 : decode cL_law 502 = .ok (.invokevirtual 79, 3) := by decide +kernel
theorem dL_law_505 : decode cL_law 505 = .ok (.if_icmp .eq 245, 3) := by decide +kernel
theorem dL_law_508 : decode cL_law 508 = .ok (.iconst 0, 1) := by decide +kernel
theorem dL_law_509 : decode cL_law 509 = .ok (.ireturn, 1) := by decide +kernel
theorem dL_law_510 : decode cL_law 510 = .ok (.aload_n 1, 1) := by decide +kernel
theorem dL_law_511 : decode cL_law 511 = .ok (.aload_n 0, 1) := by decide +kernel
theorem dL_law_512 : decode cL_law 512 = .ok (.iload_n 3, 1) := by decide +kernel
theorem dL_law_513 : decode cL_law 513 = .ok (.iconst 1, 1) := by decide +kernel
theorem dL_law_514 : decode cL_law 514 = .ok (.iadd, 1) := by decide +kernel
theorem dL_law_515 : decode cL_law 515 = .ok (.iaload, 1) := by decide +kernel
theorem dL_law_516 : decode cL_law 516 = .ok (.aload_n 0, 1) := by decide +kernel
theorem dL_law_517 : decode cL_law 517 = .ok (.iload_n 3, 1) := by decide +kernel
theorem dL_law_518 : decode cL_law 518 = .ok (.iconst 2, 1) := by decide +kernel
theorem dL_law_519 : decode cL_law 519 = .ok (.iadd, 1) := by decide +kernel
theorem dL_law_520 : decode cL_law 520 = .ok (.iaload, 1) := by decide +kernel
theorem dL_law_521 : decode cL_law 521 = .ok (.invokevirtual 80, 3) := by decide +kernel
theorem dL_law_524 : decode cL_law 524 = .ok (.aload_n 2, 1) := by decide +kernel
theorem dL_law_525 : decode cL_law 525 = .ok (.aload_n 0, 1) := by decide +kernel
theorem dL_law_526 : decode cL_law 526 = .ok (.iload_n 3, 1) := by decide +kernel
theorem dL_law_527 : decode cL_law 527 = .ok (.iconst 1, 1) := by decide +kernel
theorem dL_law_528 : decode cL_law 528 = .ok (.iadd, 1) := by decide +kernel
theorem dL_law_529 : decode cL_law 529 = .ok (.iaload, 1) := by decide +kernel
theorem dL_law_530 : decode cL_law 530 = .ok (.aload_n 0, 1) := by decide +kernel
theorem dL_law_531 : decode cL_law 531 = .ok (.iload_n 3, 1) := by decide +kernel
theorem dL_law_532 : decode cL_law 532 = .ok (.iconst 2, 1) := by decide +kernel
theorem dL_law_533 : decode cL_law 533 = .ok (.iadd, 1) := by decide +kernel
theorem dL_law_534 : decode cL_law 534 = .ok (.iaload, 1) := by decide +kernel
theorem dL_law_535 : decode cL_law 535 = .ok (.invokevirtual 83, 3) := by decide +kernel
theorem dL_law_538 : decode cL_law 538 = .ok (.if_icmp .eq 212, 3) := by decide +kernel
theorem dL_law_541 : decode cL_law 541 = .ok (.iconst 0, 1) := by decide +kernel
theorem dL_law_542 : decode cL_law 542 = .ok (.ireturn, 1) := by decide +kernel
theorem dL_law_543 : decode cL_law 543 = .ok (.aload_n 1, 1) := by decide +kernel
theorem dL_law_544 : decode cL_law 544 = .ok (.aload_n 0, 1) := by decide +kernel
theorem dL_law_545 : decode cL_law 545 = .ok (.iload_n 3, 1) := by decide +kernel
theorem dL_law_546 : decode cL_law 546 = .ok (.iconst 1, 1) := by decide +kernel
theorem dL_law_547 : decode cL_law 547 = .ok (.iadd, 1) := by decide +kernel
theorem dL_law_548 : decode cL_law 548 = .ok (.iaload, 1) := by decide +kernel
theorem dL_law_549 : decode cL_law 549 = .ok (.invokevirtual 84, 3) := by decide +kernel
theorem dL_law_552 : decode cL_law 552 = .ok (.aload_n 2, 1) := by decide +kernel
theorem dL_law_553 : decode cL_law 553 = .ok (.aload_n 0, 1) := by decide +kernel
theorem dL_law_554 : decode cL_law 554 = .ok (.iload_n 3, 1) := by decide +kernel
theorem dL_law_555 : decode cL_law 555 = .ok (.iconst 1, 1) := by decide +kernel
theorem dL_law_556 : decode cL_law 556 = .ok (.iadd, 1) := by decide +kernel
theorem dL_law_557 : decode cL_law 557 = .ok (.iaload, 1) := by decide +kernel
theorem dL_law_558 : decode cL_law 558 = .ok (.invokevirtual 87, 3) := by decide +kernel
theorem dL_law_561 : decode cL_law 561 = .ok (.if_icmp .eq 189, 3) := by decide +kernel
theorem dL_law_564 : decode cL_law 564 = .ok (.iconst 0, 1) := by decide +kernel
theorem dL_law_565 : decode cL_law 565 = .ok (.ireturn, 1) := by decide +kernel
theorem dL_law_566 : decode cL_law 566 = .ok (.aload_n 1, 1) := by decide +kernel
theorem dL_law_567 : decode cL_law 567 = .ok (.aload_n 0, 1) := by decide +kernel
theorem dL_law_568 : decode cL_law 568 = .ok (.iload_n 3, 1) := by decide +kernel
theorem dL_law_569 : decode cL_law 569 = .ok (.iconst 1, 1) := by decide +kernel
theorem dL_law_570 : decode cL_law 570 = .ok (.iadd, 1) := by decide +kernel
theorem dL_law_571 : decode cL_law 571 = .ok (.iaload, 1) := by decide +kernel
theorem dL_law_572 : decode cL_law 572 = .ok (.aload_n 0, 1) := by decide +kernel
theorem dL_law_573 : decode cL_law 573 = .ok (.iload_n 3, 1) := by decide +kernel
theorem dL_law_574 : decode cL_law 574 = .ok (.iconst 2, 1) := by decide +kernel
theorem dL_law_575 : decode cL_law 575 = .ok (.iadd, 1) := by decide +kernel
theorem dL_law_576 : decode cL_law 576 = .ok (.iaload, 1) := by decide +kernel
theorem dL_law_577 : decode cL_law 577 = .ok (.invokevirtual 88, 3) := by decide +kernel
theorem dL_law_580 : decode cL_law 580 = .ok (.aload_n 2, 1) := by decide +kernel
theorem dL_law_581 : decode cL_law 581 = .ok (.aload_n 0, 1) := by decide +kernel
theorem dL_law_582 : decode cL_law 582 = .ok (.iload_n 3, 1) := by decide +kernel
theorem dL_law_583 : decode cL_law 583 = .ok (.iconst 1, 1) := by decide +kernel
theorem dL_law_584 : decode cL_law 584 = .ok (.iadd, 1) := by decide +kernel
theorem dL_law_585 : decode cL_law 585 = .ok (.iaload, 1) := by decide +kernel
theorem dL_law_586 : decode cL_law 586 = .ok (.aload_n 0, 1) := by decide +kernel
theorem dL_law_587 : decode cL_law 587 = .ok (.iload_n 3, 1) := by decide +kernel
theorem dL_law_588 : decode cL_law 588 = .ok (.iconst 2, 1) := by decide +kernel
theorem dL_law_589 : decode cL_law 589 = .ok (.iadd, 1) := by decide +kernel
theorem dL_law_590 : decode cL_law 590 = .ok (.iaload, 1) := by decide +kernel
theorem dL_law_591 : decode cL_law 591 = .ok (.invokevirtual 91, 3) := by decide +kernel
theorem dL_law_594 : decode cL_law 594 = .ok (.if_icmp .eq 156, 3) := by decide +kernel
theorem dL_law_597 : decode cL_law 597 = .ok (.iconst 0, 1) := by decide +kernel
theorem dL_law_598 : decode cL_law 598 = .ok (.ireturn, 1) := by decide +kernel
theorem dL_law_599 : decode cL_law 599 = .ok (.aload_n 1, 1) := by decide +kernel
theorem dL_law_600 : decode cL_law 600 = .ok (.invokevirtual 92, 3) := by decide +kernel
theorem dL_law_603 : decode cL_law 603 = .ok (.aload_n 2, 1) := by decide +kernel
theorem dL_law_604 : decode cL_law 604 = .ok (.invokevirtual 95, 3) := by decide +kernel
theorem dL_law_607 : decode cL_law 607 = .ok (.if_icmp .eq 143, 3) := by decide +kernel
theorem dL_law_610 : decode cL_law 610 = .ok (.iconst 0, 1) := by decide +kernel
theorem dL_law_611 : decode cL_law 611 = .ok (.ireturn, 1) := by decide +kernel
theorem dL_law_612 : decode cL_law 612 = .ok (.aload_n 1, 1) := by decide +kernel
theorem dL_law_613 : decode cL_law 613 = .ok (.aload_n 0, 1) := by decide +kernel
theorem dL_law_614 : decode cL_law 614 = .ok (.iload_n 3, 1) := by decide +kernel
theorem dL_law_615 : decode cL_law 615 = .ok (.iconst 1, 1) := by decide +kernel
theorem dL_law_616 : decode cL_law 616 = .ok (.iadd, 1) := by decide +kernel
theorem dL_law_617 : decode cL_law 617 = .ok (.iaload, 1) := by decide +kernel
theorem dL_law_618 : decode cL_law 618 = .ok (.invokevirtual 96, 3) := by decide +kernel
theorem dL_law_621 : decode cL_law 621 = .ok (.aload_n 2, 1) := by decide +kernel
theorem dL_law_622 : decode cL_law 622 = .ok (.aload_n 0, 1) := by decide +kernel
theorem dL_law_623 : decode cL_law 623 = .ok (.iload_n 3, 1) := by decide +kernel
theorem dL_law_624 : decode cL_law 624 = .ok (.iconst 1, 1) := by decide +kernel
theorem dL_law_625 : decode cL_law 625 = .ok (.iadd, 1) := by decide +kernel
theorem dL_law_626 : decode cL_law 626 = .ok (.iaload, 1) := by decide +kernel
theorem dL_law_627 : decode cL_law 627 = .ok (.invokevirtual 99, 3) := by decide +kernel
theorem dL_law_630 : decode cL_law 630 = .ok (.if_icmp .eq 120, 3) := by decide +kernel
theorem dL_law_633 : decode cL_law 633 = .ok (.iconst 0, 1) := by decide +kernel
theorem dL_law_634 : decode cL_law 634 = .ok (.ireturn, 1) := by decide +kernel
theorem dL_law_635 : decode cL_law 635 = .ok (.aload_n 1, 1) := by decide +kernel
theorem dL_law_636 : decode cL_law 636 = .ok (.aload_n 0, 1) := by decide +kernel
theorem dL_law_637 : decode cL_law 637 = .ok (.iload_n 3, 1) := by decide +kernel
theorem dL_law_638 : decode cL_law 638 = .ok (.iconst 1, 1) := by decide +kernel
theorem dL_law_639 : decode cL_law 639 = .ok (.iadd, 1) := by decide +kernel
theorem dL_law_640 : decode cL_law 640 = .ok (.iaload, 1) := by decide +kernel
theorem dL_law_641 : decode cL_law 641 = .ok (.invokevirtual 100, 3) := by decide +kernel
theorem dL_law_644 : decode cL_law 644 = .ok (.aload_n 2, 1) := by decide +kernel
theorem dL_law_645 : decode cL_law 645 = .ok (.aload_n 0, 1) := by decide +kernel
theorem dL_law_646 : decode cL_law 646 = .ok (.iload_n 3, 1) := by decide +kernel
theorem dL_law_647 : decode cL_law 647 = .ok (.iconst 1, 1) := by decide +kernel
theorem dL_law_648 : decode cL_law 648 = .ok (.iadd, 1) := by decide +kernel
theorem dL_law_649 : decode cL_law 649 = .ok (.iaload, 1) := by decide +kernel
theorem dL_law_650 : decode cL_law 650 = .ok (.invokevirtual 103, 3) := by decide +kernel
theorem dL_law_653 : decode cL_law 653 = .ok (.if_icmp .eq 97, 3) := by decide +kernel
theorem dL_law_656 : decode cL_law 656 = .ok (.iconst 0, 1) := by decide +kernel
theorem dL_law_657 : decode cL_law 657 = .ok (.ireturn, 1) := by decide +kernel
theorem dL_law_658 : decode cL_law 658 = .ok (.aload_n 1, 1) := by decide +kernel
theorem dL_law_659 : decode cL_law 659 = .ok (.invokevirtual 104, 3) := by decide +kernel
theorem dL_law_662 : decode cL_law 662 = .ok (.aload_n 2, 1) := by decide +kernel
theorem dL_law_663 : decode cL_law 663 = .ok (.invokevirtual 107, 3) := by decide +kernel
theorem dL_law_666 : decode cL_law 666 = .ok (.if_icmp .eq 84, 3) := by decide +kernel
theorem dL_law_669 : decode cL_law 669 = .ok (.iconst 0, 1) := by decide +kernel
theorem dL_law_670 : decode cL_law 670 = .ok (.ireturn, 1) := by decide +kernel
theorem dL_law_671 : decode cL_law 671 = .ok (.aload_n 1, 1) := by decide +kernel
theorem dL_law_672 : decode cL_law 672 = .ok (.aload_n 0, 1) := by decide +kernel
theorem dL_law_673 : decode cL_law 673 = .ok (.iload_n 3, 1) := by decide +kernel
theorem dL_law_674 : decode cL_law 674 = .ok (.iconst 1, 1) := by decide +kernel
theorem dL_law_675 : decode cL_law 675 = .ok (.iadd, 1) := by decide +kernel
theorem dL_law_676 : decode cL_law 676 = .ok (.iaload, 1) := by decide +kernel
theorem dL_law_677 : decode cL_law 677 = .ok (.aload_n 0, 1) := by decide +kernel
theorem dL_law_678 : decode cL_law 678 = .ok (.iload_n 3, 1) := by decide +kernel
theorem dL_law_679 : decode cL_law 679 = .ok (.iconst 2, 1) := by decide +kernel
theorem dL_law_680 : decode cL_law 680 = .ok (.iadd, 1) := by decide +kernel
theorem dL_law_681 : decode cL_law 681 = .ok (.iaload, 1) := by decide +kernel
theorem dL_law_682 : decode cL_law 682 = .ok (.invokevirtual 108, 3) := by decide +kernel
theorem dL_law_685 : decode cL_law 685 = .ok (.aload_n 2, 1) := by decide +kernel
theorem dL_law_686 : decode cL_law 686 = .ok (.aload_n 0, 1) := by decide +kernel
theorem dL_law_687 : decode cL_law 687 = .ok (.iload_n 3, 1) := by decide +kernel
theorem dL_law_688 : decode cL_law 688 = .ok (.iconst 1, 1) := by decide +kernel
theorem dL_law_689 : decode cL_law 689 = .ok (.iadd, 1) := by decide +kernel
theorem dL_law_690 : decode cL_law 690 = .ok (.iaload, 1) := by decide +kernel
theorem dL_law_691 : decode cL_law 691 = .ok (.aload_n 0, 1) := by decide +kernel
theorem dL_law_692 : decode cL_law 692 = .ok (.iload_n 3, 1) := by decide +kernel
theorem dL_law_693 : decode cL_law 693 = .ok (.iconst 2, 1) := by decide +kernel
theorem dL_law_694 : decode cL_law 694 = .ok (.iadd, 1) := by decide +kernel
theorem dL_law_695 : decode cL_law 695 = .ok (.iaload, 1) := by decide +kernel
theorem dL_law_696 : decode cL_law 696 = .ok (.invokevirtual 111, 3) := by decide +kernel
theorem dL_law_699 : decode cL_law 699 = .ok (.if_icmp .eq 51, 3) := by decide +kernel
theorem dL_law_702 : decode cL_law 702 = .ok (.iconst 0, 1) := by decide +kernel
theorem dL_law_703 : decode cL_law 703 = .ok (.ireturn, 1) := by decide +kernel
theorem dL_law_704 : decode cL_law 704 = .ok (.aload_n 1, 1) := by decide +kernel
theorem dL_law_705 : decode cL_law 705 = .ok (.aload_n 0, 1) := by decide +kernel
theorem dL_law_706 : decode cL_law 706 = .ok (.iload_n 3, 1) := by decide +kernel
theorem dL_law_707 : decode cL_law 707 = .ok (.iconst 1, 1) := by decide +kernel
theorem dL_law_708 : decode cL_law 708 = .ok (.iadd, 1) := by decide +kernel
theorem dL_law_709 : decode cL_law 709 = .ok (.iaload, 1) := by decide +kernel
theorem dL_law_710 : decode cL_law 710 = .ok (.invokevirtual 112, 3) := by decide +kernel
theorem dL_law_713 : decode cL_law 713 = .ok (.aload_n 2, 1) := by decide +kernel
theorem dL_law_714 : decode cL_law 714 = .ok (.aload_n 0, 1) := by decide +kernel
theorem dL_law_715 : decode cL_law 715 = .ok (.iload_n 3, 1) := by decide +kernel
theorem dL_law_716 : decode cL_law 716 = .ok (.iconst 1, 1) := by decide +kernel
theorem dL_law_717 : decode cL_law 717 = .ok (.iadd, 1) := by decide +kernel
theorem dL_law_718 : decode cL_law 718 = .ok (.iaload, 1) := by decide +kernel
theorem dL_law_719 : decode cL_law 719 = .ok (.invokevirtual 115, 3) := by decide +kernel
theorem dL_law_722 : decode cL_law 722 = .ok (.if_icmp .eq 28, 3) := by decide +kernel
theorem dL_law_725 : decode cL_law 725 = .ok (.iconst 0, 1) := by decide +kernel
theorem dL_law_726 : decode cL_law 726 = .ok (.ireturn, 1) := by decide +kernel
theorem dL_law_727 : decode cL_law 727 = .ok (.aload_n 1, 1) := by decide +kernel
theorem dL_law_728 : decode cL_law 728 = .ok (.aload_n 0, 1) := by decide +kernel
theorem dL_law_729 : decode cL_law 729 = .ok (.iload_n 3, 1) := by decide +kernel
theorem dL_law_730 : decode cL_law 730 = .ok (.iconst 1, 1) := by decide +kernel
theorem dL_law_731 : decode cL_law 731 = .ok (.iadd, 1) := by decide +kernel
theorem dL_law_732 : decode cL_law 732 = .ok (.iaload, 1) := by decide +kernel
theorem dL_law_733 : decode cL_law 733 = .ok (.invokevirtual 116, 3) := by decide +kernel
theorem dL_law_736 : decode cL_law 736 = .ok (.aload_n 2, 1) := by decide +kernel
theorem dL_law_737 : decode cL_law 737 = .ok (.aload_n 0, 1) := by decide +kernel
theorem dL_law_738 : decode cL_law 738 = .ok (.iload_n 3, 1) := by decide +kernel
theorem dL_law_739 : decode cL_law 739 = .ok (.iconst 1, 1) := by decide +kernel
theorem dL_law_740 : decode cL_law 740 = .ok (.iadd, 1) := by decide +kernel
theorem dL_law_741 : decode cL_law 741 = .ok (.iaload, 1) := by decide +kernel
theorem dL_law_742 : decode cL_law 742 = .ok (.invokevirtual 119, 3) := by decide +kernel
theorem dL_law_745 : decode cL_law 745 = .ok (.if_icmp .eq 5, 3) := by decide +kernel
theorem dL_law_748 : decode cL_law 748 = .ok (.iconst 0, 1) := by decide +kernel
theorem dL_law_749 : decode cL_law 749 = .ok (.ireturn, 1) := by decide +kernel
theorem dL_law_750 : decode cL_law 750 = .ok (.iinc 3 3, 3) := by decide +kernel
theorem dL_law_753 : decode cL_law 753 = .ok (.goto (-735), 3) := by decide +kernel
theorem dL_law_756 : decode cL_law 756 = .ok (.iconst 1, 1) := by decide +kernel
theorem dL_law_757 : decode cL_law 757 = .ok (.ireturn, 1) := by decide +kernel
theorem dJ0_length_8abf5_0 : decode cJ0_length_8abf5 0 = .ok (.aload_n 0, 1) := by decide +kernel
theorem dJ0_length_8abf5_1 : decode cJ0_length_8abf5 1 = .ok (.getfield 9, 3) := by decide +kernel
theorem dJ0_length_8abf5_4 : decode cJ0_length_8abf5 4 = .ok (.arraylength, 1) := by decide +kernel
theorem dJ0_length_8abf5_5 : decode cJ0_length_8abf5 5 = .ok (.aload_n 0, 1) := by decide +kernel
theorem dJ0_length_8abf5_6 : decode cJ0_length_8abf5 6 = .ok (.invokevirtual 335, 3) := by decide +kernel
theorem dJ0_length_8abf5_9 : decode cJ0_length_8abf5 9 = .ok (.ishr, 1) := by decide +kernel
theorem dJ0_length_8abf5_10 : decode cJ0_length_8abf5 10 = .ok (.ireturn, 1) := by decide +kernel
theorem dJ0_charAt_5068e_0 : decode cJ0_charAt_5068e 0 = .ok (.aload_n 0, 1) := by decide +kernel
theorem dJ0_charAt_5068e_1 : decode cJ0_charAt_5068e 1 = .ok (.invokevirtual 492, 3) := by decide +kernel
theorem dJ0_charAt_5068e_4 : decode cJ0_charAt_5068e 4 = .ok (.ifCond .eq 12, 3) := by decide +kernel
theorem dJ0_charAt_5068e_7 : decode cJ0_charAt_5068e 7 = .ok (.aload_n 0, 1) := by decide +kernel
theorem dJ0_charAt_5068e_8 : decode cJ0_charAt_5068e 8 = .ok (.getfield 9, 3) := by decide +kernel
theorem dJ0_charAt_5068e_11 : decode cJ0_charAt_5068e 11 = .ok (.iload_n 1, 1) := by decide +kernel
theorem dJ0_charAt_5068e_12 : decode cJ0_charAt_5068e 12 = .ok (.invokestatic 495, 3) := by decide +kernel
theorem dJ0_charAt_5068e_15 : decode cJ0_charAt_5068e 15 = .ok (.ireturn, 1) := by decide +kernel
theorem dJ0_charAt_5068e_16 : decode cJ0_charAt_5068e 16 = .ok (.aload_n 0, 1) := by decide +kernel
theorem dJ0_charAt_5068e_17 : decode cJ0_charAt_5068e 17 = .ok (.getfield 9, 3) := by decide +kernel
theorem dJ0_charAt_5068e_20 : decode cJ0_charAt_5068e 20 = .ok (.iload_n 1, 1) := by decide +kernel
theorem dJ0_charAt_5068e_21 : decode cJ0_charAt_5068e 21 = .ok (.invokestatic 498, 3) := by decide +kernel
theorem dJ0_charAt_5068e_24 : decode cJ0_charAt_5068e 24 = .ok (.ireturn, 1) := by decide +kernel
theorem dJ0_coder_7d493_0 : decode cJ0_coder_7d493 0 = .ok (.getstatic 38, 3) := by decide +kernel
theorem dJ0_coder_7d493_3 : decode cJ0_coder_7d493 3 = .ok (.ifCond .eq 10, 3) := by decide +kernel
theorem dJ0_coder_7d493_6 : decode cJ0_coder_7d493 6 = .ok (.aload_n 0, 1) := by decide +kernel
theorem dJ0_coder_7d493_7 : decode cJ0_coder_7d493 7 = .ok (.getfield 15, 3) := by decide +kernel
theorem dJ0_coder_7d493_10 : decode cJ0_coder_7d493 10 = .ok (.goto 4, 3) := by decide +kernel
theorem dJ0_coder_7d493_13 : decode cJ0_coder_7d493 13 = .ok (.iconst 1, 1) := by decide +kernel
theorem dJ0_coder_7d493_14 : decode cJ0_coder_7d493 14 = .ok (.ireturn, 1) := by decide +kernel
theorem dJ0_isLatin1_aae02_0 : decode cJ0_isLatin1_aae02 0 = .ok (.getstatic 38, 3) := by decide +kernel
theorem dJ0_isLatin1_aae02_3 : decode cJ0_isLatin1_aae02 3 = .ok (.ifCond .eq 14, 3) := by decide +kernel
theorem dJ0_isLatin1_aae02_6 : decode cJ0_isLatin1_aae02 6 = .ok (.aload_n 0, 1) := by decide +kernel
theorem dJ0_isLatin1_aae02_7 : decode cJ0_isLatin1_aae02 7 = .ok (.getfield 15, 3) := by decide +kernel
theorem dJ0_isLatin1_aae02_10 : decode cJ0_isLatin1_aae02 10 = .ok (.ifCond .ne 7, 3) := by decide +kernel
theorem dJ0_isLatin1_aae02_13 : decode cJ0_isLatin1_aae02 13 = .ok (.iconst 1, 1) := by decide +kernel
theorem dJ0_isLatin1_aae02_14 : decode cJ0_isLatin1_aae02 14 = .ok (.goto 4, 3) := by decide +kernel
theorem dJ0_isLatin1_aae02_17 : decode cJ0_isLatin1_aae02 17 = .ok (.iconst 0, 1) := by decide +kernel
theorem dJ0_isLatin1_aae02_18 : decode cJ0_isLatin1_aae02 18 = .ok (.ireturn, 1) := by decide +kernel
theorem dJ0_checkIndex_df160_0 : decode cJ0_checkIndex_df160 0 = .ok (.iload_n 0, 1) := by decide +kernel
theorem dJ0_checkIndex_df160_1 : decode cJ0_checkIndex_df160 1 = .ok (.iload_n 1, 1) := by decide +kernel
theorem dJ0_checkIndex_df160_2 : decode cJ0_checkIndex_df160 2 = .ok (.getstatic 1053, 3) := by decide +kernel
theorem dJ0_checkIndex_df160_5 : decode cJ0_checkIndex_df160 5 = .ok (.invokestatic 1059, 3) := by decide +kernel
theorem dJ0_checkIndex_df160_8 : decode cJ0_checkIndex_df160 8 = .ok (.pop, 1) := by decide +kernel
theorem dJ0_checkIndex_df160_9 : decode cJ0_checkIndex_df160 9 = .ok (.return_, 1) := by decide +kernel
theorem dJ1_charAt_3b067_0 : decode cJ1_charAt_3b067 0 = .ok (.iload_n 1, 1) := by decide +kernel
theorem dJ1_charAt_3b067_1 : decode cJ1_charAt_3b067 1 = .ok (.aload_n 0, 1) := by decide +kernel
theorem dJ1_charAt_3b067_2 : decode cJ1_charAt_3b067 2 = .ok (.arraylength, 1) := by decide +kernel
theorem dJ1_charAt_3b067_3 : decode cJ1_charAt_3b067 3 = .ok (.invokestatic 9, 3) := by decide +kernel
theorem dJ1_charAt_3b067_6 : decode cJ1_charAt_3b067 6 = .ok (.aload_n 0, 1) := by decide +kernel
theorem dJ1_charAt_3b067_7 : decode cJ1_charAt_3b067 7 = .ok (.iload_n 1, 1) := by decide +kernel
theorem dJ1_charAt_3b067_8 : decode cJ1_charAt_3b067 8 = .ok (.baload, 1) := by decide +kernel
theorem dJ1_charAt_3b067_9 : decode cJ1_charAt_3b067 9 = .ok (.sipush 255, 3) := by decide +kernel
theorem dJ1_charAt_3b067_12 : decode cJ1_charAt_3b067 12 = .ok (.iand, 1) := by decide +kernel
theorem dJ1_charAt_3b067_13 : decode cJ1_charAt_3b067 13 = .ok (.i2c, 1) := by decide +kernel
theorem dJ1_charAt_3b067_14 : decode cJ1_charAt_3b067 14 = .ok (.ireturn, 1) := by decide +kernel
theorem dJ2_getChar_3b067_0 : decode cJ2_getChar_3b067 0 = .ok (.getstatic 44, 3) := by decide +kernel
theorem dJ2_getChar_3b067_3 : decode cJ2_getChar_3b067 3 = .ok (.ifCond .ne 25, 3) := by decide +kernel
theorem dJ2_getChar_3b067_6 : decode cJ2_getChar_3b067 6 = .ok (.iload_n 1, 1) := by decide +kernel
theorem dJ2_getChar_3b067_7 : decode cJ2_getChar_3b067 7 = .ok (.ifCond .lt 11, 3) := by decide +kernel
theorem dJ2_getChar_3b067_10 : decode cJ2_getChar_3b067 10 = .ok (.iload_n 1, 1) := by decide +kernel
theorem dJ2_getChar_3b067_11 : decode cJ2_getChar_3b067 11 = .ok (.aload_n 0, 1) := by decide +kernel
theorem dJ2_getChar_3b067_12 : decode cJ2_getChar_3b067 12 = .ok (.invokestatic 48, 3) := by decide +kernel
theorem dJ2_getChar_3b067_15 : decode cJ2_getChar_3b067 15 = .ok (.if_icmp .lt 13, 3) := by decide +kernel
theorem dJ2_getChar_3b067_18 : decode cJ2_getChar_3b067 18 = .ok (.new 52, 3) := by decide +kernel
theorem dJ2_getChar_3b067_21 : decode cJ2_getChar_3b067 21 = .ok (.dup, 1) := by decide +kernel
theorem dJ2_getChar_3b067_22 : decode cJ2_getChar_3b067 22 = .ok (.ldc 54, 2) := by decide +kernel
theorem dJ2_getChar_3b067_24 : decode cJ2_getChar_3b067 24 = .ok (.invokespecial 56, 3) := by decide +kernel
theorem dJ2_getChar_3b067_27 : decode cJ2_getChar_3b067 27 = .ok (.athrow, 1) := by decide +kernel
theorem dJ2_getChar_3b067_28 : decode cJ2_getChar_3b067 28 = .ok (.iload_n 1, 1) := by decide +kernel
theorem dJ2_getChar_3b067_29 : decode cJ2_getChar_3b067 29 = .ok (.iconst 1, 1) := by decide +kernel
theorem dJ2_getChar_3b067_30 : decode cJ2_getChar_3b067 30 = .ok (.ishl, 1) := by decide +kernel
theorem dJ2_getChar_3b067_31 : decode cJ2_getChar_3b067 31 = .ok (.istore_n 1, 1) := by decide +kernel
theorem dJ2_getChar_3b067_32 : decode cJ2_getChar_3b067 32 = .ok (.aload_n 0, 1) := by decide +kernel
theorem dJ2_getChar_3b067_33 : decode cJ2_getChar_3b067 33 = .ok (.iload_n 1, 1) := by decide +kernel
theorem dJ2_getChar_3b067_34 : decode cJ2_getChar_3b067 34 = .ok (.iinc 1 1, 3) := by decide +kernel
theorem dJ2_getChar_3b067_37 : decode cJ2_getChar_3b067 37 = .ok (.baload, 1) := by decide +kernel
theorem dJ2_getChar_3b067_38 : decode cJ2_getChar_3b067 38 = .ok (.sipush 255, 3) := by decide +kernel
theorem dJ2_getChar_3b067_41 : decode cJ2_getChar_3b067 41 = .ok (.iand, 1) := by decide +kernel
theorem dJ2_getChar_3b067_42 : decode cJ2_getChar_3b067 42 = .ok (.getstatic 59, 3) := by decide +kernel
theorem dJ2_getChar_3b067_45 : decode cJ2_getChar_3b067 45 = .ok (.ishl, 1) := by decide +kernel
theorem dJ2_getChar_3b067_46 : decode cJ2_getChar_3b067 46 = .ok (.aload_n 0, 1) := by decide +kernel
theorem dJ2_getChar_3b067_47 : decode cJ2_getChar_3b067 47 = .ok (.iload_n 1, 1) := by decide +kernel
theorem dJ2_getChar_3b067_48 : decode cJ2_getChar_3b067 48 = .ok (.baload, 1) := by decide +kernel
theorem dJ2_getChar_3b067_49 : decode cJ2_getChar_3b067 49 = .ok (.sipush 255, 3) := by decide +kernel
theorem dJ2_getChar_3b067_52 : decode cJ2_getChar_3b067 52 = .ok (.iand, 1) := by decide +kernel
theorem dJ2_getChar_3b067_53 : decode cJ2_getChar_3b067 53 = .ok (.getstatic 63, 3) := by decide +kernel
theorem dJ2_getChar_3b067_56 : decode cJ2_getChar_3b067 56 = .ok (.ishl, 1) := by decide +kernel
theorem dJ2_getChar_3b067_57 : decode cJ2_getChar_3b067 57 = .ok (.ior, 1) := by decide +kernel
theorem dJ2_getChar_3b067_58 : decode cJ2_getChar_3b067 58 = .ok (.i2c, 1) := by decide +kernel
theorem dJ2_getChar_3b067_59 : decode cJ2_getChar_3b067 59 = .ok (.ireturn, 1) := by decide +kernel
theorem dJ2_length_9d52b_0 : decode cJ2_length_9d52b 0 = .ok (.aload_n 0, 1) := by decide +kernel
theorem dJ2_length_9d52b_1 : decode cJ2_length_9d52b 1 = .ok (.arraylength, 1) := by decide +kernel
theorem dJ2_length_9d52b_2 : decode cJ2_length_9d52b 2 = .ok (.iconst 1, 1) := by decide +kernel
theorem dJ2_length_9d52b_3 : decode cJ2_length_9d52b 3 = .ok (.ishr, 1) := by decide +kernel
theorem dJ2_length_9d52b_4 : decode cJ2_length_9d52b 4 = .ok (.ireturn, 1) := by decide +kernel
theorem dJ2_charAt_3b067_0 : decode cJ2_charAt_3b067 0 = .ok (.iload_n 1, 1) := by decide +kernel
theorem dJ2_charAt_3b067_1 : decode cJ2_charAt_3b067 1 = .ok (.aload_n 0, 1) := by decide +kernel
theorem dJ2_charAt_3b067_2 : decode cJ2_charAt_3b067 2 = .ok (.invokestatic 67, 3) := by decide +kernel
theorem dJ2_charAt_3b067_5 : decode cJ2_charAt_3b067 5 = .ok (.aload_n 0, 1) := by decide +kernel
theorem dJ2_charAt_3b067_6 : decode cJ2_charAt_3b067 6 = .ok (.iload_n 1, 1) := by decide +kernel
theorem dJ2_charAt_3b067_7 : decode cJ2_charAt_3b067 7 = .ok (.invokestatic 71, 3) := by decide +kernel
theorem dJ2_charAt_3b067_10 : decode cJ2_charAt_3b067 10 = .ok (.ireturn, 1) := by decide +kernel
theorem dJ2_checkIndex_2214a_0 : decode cJ2_checkIndex_2214a 0 = .ok (.iload_n 0, 1) := by decide +kernel
theorem dJ2_checkIndex_2214a_1 : decode cJ2_checkIndex_2214a 1 = .ok (.aload_n 1, 1) := by decide +kernel
theorem dJ2_checkIndex_2214a_2 : decode cJ2_checkIndex_2214a 2 = .ok (.invokestatic 48, 3) := by decide +kernel
theorem dJ2_checkIndex_2214a_5 : decode cJ2_checkIndex_2214a 5 = .ok (.invokestatic 414, 3) := by decide +kernel
theorem dJ2_checkIndex_2214a_8 : decode cJ2_checkIndex_2214a 8 = .ok (.return_, 1) := by decide +kernel
theorem dJ3_checkIndex_8e157_0 : decode cJ3_checkIndex_8e157 0 = .ok (.iload_n 0, 1) := by decide +kernel
theorem dJ3_checkIndex_8e157_1 : decode cJ3_checkIndex_8e157 1 = .ok (.ifCond .lt 8, 3) := by decide +kernel
theorem dJ3_checkIndex_8e157_4 : decode cJ3_checkIndex_8e157 4 = .ok (.iload_n 0, 1) := by decide +kernel
theorem dJ3_checkIndex_8e157_5 : decode cJ3_checkIndex_8e157 5 = .ok (.iload_n 1, 1) := by decide +kernel
theorem dJ3_checkIndex_8e157_6 : decode cJ3_checkIndex_8e157 6 = .ok (.if_icmp .lt 10, 3) := by decide +kernel
theorem dJ3_checkIndex_8e157_9 : decode cJ3_checkIndex_8e157 9 = .ok (.aload_n 2, 1) := by decide +kernel
theorem dJ3_checkIndex_8e157_10 : decode cJ3_checkIndex_8e157 10 = .ok (.iload_n 0, 1) := by decide +kernel
theorem dJ3_checkIndex_8e157_11 : decode cJ3_checkIndex_8e157 11 = .ok (.iload_n 1, 1) := by decide +kernel
theorem dJ3_checkIndex_8e157_12 : decode cJ3_checkIndex_8e157 12 = .ok (.invokestatic 95, 3) := by decide +kernel
theorem dJ3_checkIndex_8e157_15 : decode cJ3_checkIndex_8e157 15 = .ok (.athrow, 1) := by decide +kernel
theorem dJ3_checkIndex_8e157_16 : decode cJ3_checkIndex_8e157 16 = .ok (.iload_n 0, 1) := by decide +kernel
theorem dJ3_checkIndex_8e157_17 : decode cJ3_checkIndex_8e157 17 = .ok (.ireturn, 1) := by decide +kernel
theorem dJ9_max_7cf53_0 : decode cJ9_max_7cf53 0 = .ok (.iload_n 0, 1) := by decide +kernel
theorem dJ9_max_7cf53_1 : decode cJ9_max_7cf53 1 = .ok (.iload_n 1, 1) := by decide +kernel
theorem dJ9_max_7cf53_2 : decode cJ9_max_7cf53 2 = .ok (.if_icmp .lt 7, 3) := by decide +kernel
theorem dJ9_max_7cf53_5 : decode cJ9_max_7cf53 5 = .ok (.iload_n 0, 1) := by decide +kernel
theorem dJ9_max_7cf53_6 : decode cJ9_max_7cf53 6 = .ok (.goto 4, 3) := by decide +kernel
theorem dJ9_max_7cf53_9 : decode cJ9_max_7cf53 9 = .ok (.iload_n 1, 1) := by decide +kernel
theorem dJ9_max_7cf53_10 : decode cJ9_max_7cf53 10 = .ok (.ireturn, 1) := by decide +kernel
theorem dJ9_min_7cf53_0 : decode cJ9_min_7cf53 0 = .ok (.iload_n 0, 1) := by decide +kernel
theorem dJ9_min_7cf53_1 : decode cJ9_min_7cf53 1 = .ok (.iload_n 1, 1) := by decide +kernel
theorem dJ9_min_7cf53_2 : decode cJ9_min_7cf53 2 = .ok (.if_icmp .gt 7, 3) := by decide +kernel
theorem dJ9_min_7cf53_5 : decode cJ9_min_7cf53 5 = .ok (.iload_n 0, 1) := by decide +kernel
theorem dJ9_min_7cf53_6 : decode cJ9_min_7cf53 6 = .ok (.goto 4, 3) := by decide +kernel
theorem dJ9_min_7cf53_9 : decode cJ9_min_7cf53 9 = .ok (.iload_n 1, 1) := by decide +kernel
theorem dJ9_min_7cf53_10 : decode cJ9_min_7cf53 10 = .ok (.ireturn, 1) := by decide +kernel
theorem dX7_init_0 : decode cX7_init 0 = .ok (.aload_n 0, 1) := by decide +kernel
theorem dX7_init_1 : decode cX7_init 1 = .ok (.invokespecial 1, 3) := by decide +kernel
theorem dX7_init_4 : decode cX7_init 4 = .ok (.aload_n 0, 1) := by decide +kernel
theorem dX7_init_5 : decode cX7_init 5 = .ok (.sipush 200, 3) := by decide +kernel
theorem dX7_init_8 : decode cX7_init 8 = .ok (.newarray .int, 2) := by decide +kernel
theorem dX7_init_10 : decode cX7_init 10 = .ok (.putfield 7, 3) := by decide +kernel
theorem dX7_init_13 : decode cX7_init 13 = .ok (.aload_n 0, 1) := by decide +kernel
theorem dX7_init_14 : decode cX7_init 14 = .ok (.bipush 126, 2) := by decide +kernel
theorem dX7_init_16 : decode cX7_init 16 = .ok (.newarray .int, 2) := by decide +kernel
theorem dX7_init_18 : decode cX7_init 18 = .ok (.putfield 13, 3) := by decide +kernel
theorem dX7_init_21 : decode cX7_init 21 = .ok (.aload_n 0, 1) := by decide +kernel
theorem dX7_init_22 : decode cX7_init 22 = .ok (.sipush 756, 3) := by decide +kernel
theorem dX7_init_25 : decode cX7_init 25 = .ok (.newarray .int, 2) := by decide +kernel
theorem dX7_init_27 : decode cX7_init 27 = .ok (.putfield 16, 3) := by decide +kernel
theorem dX7_init_30 : decode cX7_init 30 = .ok (.aload_n 0, 1) := by decide +kernel
theorem dX7_init_31 : decode cX7_init 31 = .ok (.bipush 120, 2) := by decide +kernel
theorem dX7_init_33 : decode cX7_init 33 = .ok (.newarray .int, 2) := by decide +kernel
theorem dX7_init_35 : decode cX7_init 35 = .ok (.putfield 19, 3) := by decide +kernel
theorem dX7_init_38 : decode cX7_init 38 = .ok (.aload_n 0, 1) := by decide +kernel
theorem dX7_init_39 : decode cX7_init 39 = .ok (.bipush 120, 2) := by decide +kernel
theorem dX7_init_41 : decode cX7_init 41 = .ok (.newarray .int, 2) := by decide +kernel
theorem dX7_init_43 : decode cX7_init 43 = .ok (.putfield 22, 3) := by decide +kernel
theorem dX7_init_46 : decode cX7_init 46 = .ok (.aload_n 0, 1) := by decide +kernel
theorem dX7_init_47 : decode cX7_init 47 = .ok (.bipush 120, 2) := by decide +kernel
theorem dX7_init_49 : decode cX7_init 49 = .ok (.newarray .int, 2) := by decide +kernel
theorem dX7_init_51 : decode cX7_init 51 = .ok (.putfield 25, 3) := by decide +kernel
theorem dX7_init_54 : decode cX7_init 54 = .ok (.aload_n 0, 1) := by decide +kernel
theorem dX7_init_55 : decode cX7_init 55 = .ok (.sipush 242, 3) := by decide +kernel
theorem dX7_init_58 : decode cX7_init 58 = .ok (.newarray .int, 2) := by decide +kernel
theorem dX7_init_60 : decode cX7_init 60 = .ok (.putfield 28, 3) := by decide +kernel
theorem dX7_init_63 : decode cX7_init 63 = .ok (.aload_n 0, 1) := by decide +kernel
theorem dX7_init_64 : decode cX7_init 64 = .ok (.sipush 242, 3) := by decide +kernel
theorem dX7_init_67 : decode cX7_init 67 = .ok (.newarray .int, 2) := by decide +kernel
theorem dX7_init_69 : decode cX7_init 69 = .ok (.putfield 31, 3) := by decide +kernel
theorem dX7_init_72 : decode cX7_init 72 = .ok (.aload_n 0, 1) := by decide +kernel
theorem dX7_init_73 : decode cX7_init 73 = .ok (.bipush 120, 2) := by decide +kernel
theorem dX7_init_75 : decode cX7_init 75 = .ok (.newarray .int, 2) := by decide +kernel
theorem dX7_init_77 : decode cX7_init 77 = .ok (.putfield 34, 3) := by decide +kernel
theorem dX7_init_80 : decode cX7_init 80 = .ok (.aload_n 0, 1) := by decide +kernel
theorem dX7_init_81 : decode cX7_init 81 = .ok (.sipush 5929, 3) := by decide +kernel
theorem dX7_init_84 : decode cX7_init 84 = .ok (.newarray .int, 2) := by decide +kernel
theorem dX7_init_86 : decode cX7_init 86 = .ok (.putfield 37, 3) := by decide +kernel
theorem dX7_init_89 : decode cX7_init 89 = .ok (.aload_n 0, 1) := by decide +kernel
theorem dX7_init_90 : decode cX7_init 90 = .ok (.sipush 1300, 3) := by decide +kernel
theorem dX7_init_93 : decode cX7_init 93 = .ok (.newarray .int, 2) := by decide +kernel
theorem dX7_init_95 : decode cX7_init 95 = .ok (.putfield 40, 3) := by decide +kernel
theorem dX7_init_98 : decode cX7_init 98 = .ok (.aload_n 0, 1) := by decide +kernel
theorem dX7_init_99 : decode cX7_init 99 = .ok (.iconst 3, 1) := by decide +kernel
theorem dX7_init_100 : decode cX7_init 100 = .ok (.newarray .int, 2) := by decide +kernel
theorem dX7_init_102 : decode cX7_init 102 = .ok (.putfield 43, 3) := by decide +kernel
theorem dX7_init_105 : decode cX7_init 105 = .ok (.aload_n 0, 1) := by decide +kernel
theorem dX7_init_106 : decode cX7_init 106 = .ok (.getfield 13, 3) := by decide +kernel
theorem dX7_init_109 : decode cX7_init 109 = .ok (.bipush 122, 2) := by decide +kernel
theorem dX7_init_111 : decode cX7_init 111 = .ok (.iconst 1, 1) := by decide +kernel
theorem dX7_init_112 : decode cX7_init 112 = .ok (.iastore, 1) := by decide +kernel
theorem dX7_init_113 : decode cX7_init 113 = .ok (.aload_n 0, 1) := by decide +kernel
theorem dX7_init_114 : decode cX7_init 114 = .ok (.getfield 13, 3) := by decide +kernel
theorem dX7_init_117 : decode cX7_init 117 = .ok (.bipush 123, 2) := by decide +kernel
theorem dX7_init_119 : decode cX7_init 119 = .ok (.iconst 1, 1) := by decide +kernel
theorem dX7_init_120 : decode cX7_init 120 = .ok (.iastore, 1) := by decide +kernel
theorem dX7_init_121 : decode cX7_init 121 = .ok (.aload_n 0, 1) := by decide +kernel
theorem dX7_init_122 : decode cX7_init 122 = .ok (.getfield 13, 3) := by decide +kernel
theorem dX7_init_125 : decode cX7_init 125 = .ok (.bipush 124, 2) := by decide +kernel
theorem dX7_init_127 : decode cX7_init 127 = .ok (.iconst 1, 1) := by decide +kernel
theorem dX7_init_128 : decode cX7_init 128 = .ok (.iastore, 1) := by decide +kernel
theorem dX7_init_129 : decode cX7_init 129 = .ok (.aload_n 0, 1) := by decide +kernel
theorem dX7_init_130 : decode cX7_init 130 = .ok (.getfield 13, 3) := by decide +kernel
theorem dX7_init_133 : decode cX7_init 133 = .ok (.bipush 125, 2) := by decide +kernel
theorem dX7_init_135 : decode cX7_init 135 = .ok (.iconst 1, 1) := by decide +kernel
theorem dX7_init_136 : decode cX7_init 136 = .ok (.iastore, 1) := by decide +kernel
theorem dX7_init_137 : decode cX7_init 137 = .ok (.return_, 1) := by decide +kernel
theorem dX7_in_0 : decode cX7_in 0 = .ok (.lload_n 0, 1) := by decide +kernel
theorem dX7_in_1 : decode cX7_in 1 = .ok (.lload_n 2, 1) := by decide +kernel
theorem dX7_in_2 : decode cX7_in 2 = .ok (.lcmp, 1) := by decide +kernel
theorem dX7_in_3 : decode cX7_in 3 = .ok (.ifCond .lt 14, 3) := by decide +kernel
theorem dX7_in_6 : decode cX7_in 6 = .ok (.lload_n 0, 1) := by decide +kernel
theorem dX7_in_7 : decode cX7_in 7 = .ok (.lload 4, 2) := by decide +kernel
theorem dX7_in_9 : decode cX7_in 9 = .ok (.lcmp, 1) := by decide +kernel
theorem dX7_in_10 : decode cX7_in 10 = .ok (.ifCond .gt 7, 3) := by decide +kernel
theorem dX7_in_13 : decode cX7_in 13 = .ok (.iconst 1, 1) := by decide +kernel
theorem dX7_in_14 : decode cX7_in 14 = .ok (.goto 4, 3) := by decide +kernel
theorem dX7_in_17 : decode cX7_in 17 = .ok (.iconst 0, 1) := by decide +kernel
theorem dX7_in_18 : decode cX7_in 18 = .ok (.ireturn, 1) := by decide +kernel
theorem dX7_isMark_0 : decode cX7_isMark 0 = .ok (.iload_n 0, 1) := by decide +kernel
theorem dX7_isMark_1 : decode cX7_isMark 1 = .ok (.bipush 60, 2) := by decide +kernel
theorem dX7_isMark_3 : decode cX7_isMark 3 = .ok (.if_icmp .eq 57, 3) := by decide +kernel
theorem dX7_isMark_6 : decode cX7_isMark 6 = .ok (.iload_n 0, 1) := by decide +kernel
theorem dX7_isMark_7 : decode cX7_isMark 7 = .ok (.bipush 62, 2) := by decide +kernel
theorem dX7_isMark_9 : decode cX7_isMark 9 = .ok (.if_icmp .eq 51, 3) := by decide +kernel
theorem dX7_isMark_12 : decode cX7_isMark 12 = .ok (.iload_n 0, 1) := by decide +kernel
theorem dX7_isMark_13 : decode cX7_isMark 13 = .ok (.bipush 123, 2) := by decide +kernel
theorem dX7_isMark_15 : decode cX7_isMark 15 = .ok (.if_icmp .eq 45, 3) := by decide +kernel
theorem dX7_isMark_18 : decode cX7_isMark 18 = .ok (.iload_n 0, 1) := by decide +kernel
theorem dX7_isMark_19 : decode cX7_isMark 19 = .ok (.bipush 125, 2) := by decide +kernel
theorem dX7_isMark_21 : decode cX7_isMark 21 = .ok (.if_icmp .eq 39, 3) := by decide +kernel
theorem dX7_isMark_24 : decode cX7_isMark 24 = .ok (.iload_n 0, 1) := by decide +kernel
theorem dX7_isMark_25 : decode cX7_isMark 25 = .ok (.bipush 40, 2) := by decide +kernel
theorem dX7_isMark_27 : decode cX7_isMark 27 = .ok (.if_icmp .eq 33, 3) := by decide +kernel
theorem dX7_isMark_30 : decode cX7_isMark 30 = .ok (.iload_n 0, 1) := by decide +kernel
theorem dX7_isMark_31 : decode cX7_isMark 31 = .ok (.bipush 41, 2) := by decide +kernel
theorem dX7_isMark_33 : decode cX7_isMark 33 = .ok (.if_icmp .eq 27, 3) := by decide +kernel
theorem dX7_isMark_36 : decode cX7_isMark 36 = .ok (.iload_n 0, 1) := by decide +kernel
theorem dX7_isMark_37 : decode cX7_isMark 37 = .ok (.bipush 91, 2) := by decide +kernel
theorem dX7_isMark_39 : decode cX7_isMark 39 = .ok (.if_icmp .eq 21, 3) := by decide +kernel
theorem dX7_isMark_42 : decode cX7_isMark 42 = .ok (.iload_n 0, 1) := by decide +kernel
theorem dX7_isMark_43 : decode cX7_isMark 43 = .ok (.bipush 93, 2) := by decide +kernel
theorem dX7_isMark_45 : decode cX7_isMark 45 = .ok (.if_icmp .eq 15, 3) := by decide +kernel
theorem dX7_isMark_48 : decode cX7_isMark 48 = .ok (.iload_n 0, 1) := by decide +kernel
theorem dX7_isMark_49 : decode cX7_isMark 49 = .ok (.bipush 34, 2) := by decide +kernel
theorem dX7_isMark_51 : decode cX7_isMark 51 = .ok (.if_icmp .eq 9, 3) := by decide +kernel
theorem dX7_isMark_54 : decode cX7_isMark 54 = .ok (.iload_n 0, 1) := by decide +kernel
theorem dX7_isMark_55 : decode cX7_isMark 55 = .ok (.bipush 39, 2) := by decide +kernel
theorem dX7_isMark_57 : decode cX7_isMark 57 = .ok (.if_icmp .ne 7, 3) := by decide +kernel
theorem dX7_isMark_60 : decode cX7_isMark 60 = .ok (.iconst 1, 1) := by decide +kernel
theorem dX7_isMark_61 : decode cX7_isMark 61 = .ok (.goto 4, 3) := by decide +kernel
theorem dX7_isMark_64 : decode cX7_isMark 64 = .ok (.iconst 0, 1) := by decide +kernel
theorem dX7_isMark_65 : decode cX7_isMark 65 = .ok (.ireturn, 1) := by decide +kernel
theorem dX7_isSign_0 : decode cX7_isSign 0 = .ok (.iload_n 0, 1) := by decide +kernel
theorem dX7_isSign_1 : decode cX7_isSign 1 = .ok (.i2l, 1) := by decide +kernel
theorem dX7_isSign_2 : decode cX7_isSign 2 = .ok (.ldc2_w 46, 3) := by decide +kernel
theorem dX7_isSign_5 : decode cX7_isSign 5 = .ok (.ldc2_w 48, 3) := by decide +kernel
theorem dX7_isSign_8 : decode cX7_isSign 8 = .ok (.invokestatic 50, 3) := by decide +kernel
theorem dX7_isSign_11 : decode cX7_isSign 11 = .ok (.ifCond .ne 22, 3) := by decide +kernel
theorem dX7_isSign_14 : decode cX7_isSign 14 = .ok (.iload_n 0, 1) := by decide +kernel
theorem dX7_isSign_15 : decode cX7_isSign 15 = .ok (.bipush 32, 2) := by decide +kernel
theorem dX7_isSign_17 : decode cX7_isSign 17 = .ok (.if_icmp .eq 16, 3) := by decide +kernel
theorem dX7_isSign_20 : decode cX7_isSign 20 = .ok (.iload_n 0, 1) := by decide +kernel
theorem dX7_isSign_21 : decode cX7_isSign 21 = .ok (.bipush 124, 2) := by decide +kernel
theorem dX7_isSign_23 : decode cX7_isSign 23 = .ok (.if_icmp .eq 10, 3) := by decide +kernel
theorem dX7_isSign_26 : decode cX7_isSign 26 = .ok (.iload_n 0, 1) := by decide +kernel
theorem dX7_isSign_27 : decode cX7_isSign 27 = .ok (.invokestatic 54, 3) := by decide +kernel
theorem dX7_isSign_30 : decode cX7_isSign 30 = .ok (.ifCond .eq 7, 3) := by decide +kernel
theorem dX7_isSign_33 : decode cX7_isSign 33 = .ok (.iconst 1, 1) := by decide +kernel
theorem dX7_isSign_34 : decode cX7_isSign 34 = .ok (.goto 4, 3) := by decide +kernel
theorem dX7_isSign_37 : decode cX7_isSign 37 = .ok (.iconst 0, 1) := by decide +kernel
theorem dX7_isSign_38 : decode cX7_isSign 38 = .ok (.ireturn, 1) := by decide +kernel
theorem dX7_markOf_0 : decode cX7_markOf 0 = .ok (.iload_n 0, 1) := by decide +kernel
theorem dX7_markOf_1 : decode cX7_markOf 1 = .ok (.tableswitch 104 0 2 #[27, 59, 72], 27) := by decide +kernel
theorem dX7_markOf_28 : decode cX7_markOf 28 = .ok (.iload_n 1, 1) := by decide +kernel
theorem dX7_markOf_29 : decode cX7_markOf 29 = .ok (.ifCond .ne 8, 3) := by decide +kernel
theorem dX7_markOf_32 : decode cX7_markOf 32 = .ok (.bipush 60, 2) := by decide +kernel
theorem dX7_markOf_34 : decode cX7_markOf 34 = .ok (.goto 25, 3) := by decide +kernel
theorem dX7_markOf_37 : decode cX7_markOf 37 = .ok (.iload_n 1, 1) := by decide +kernel
theorem dX7_markOf_38 : decode cX7_markOf 38 = .ok (.iconst 1, 1) := by decide +kernel
theorem dX7_markOf_39 : decode cX7_markOf 39 = .ok (.if_icmp .ne 8, 3) := by decide +kernel
theorem dX7_markOf_42 : decode cX7_markOf 42 = .ok (.bipush 62, 2) := by decide +kernel
theorem dX7_markOf_44 : decode cX7_markOf 44 = .ok (.goto 15, 3) := by decide +kernel
theorem dX7_markOf_47 : decode cX7_markOf 47 = .ok (.iload_n 1, 1) := by decide +kernel
theorem dX7_markOf_48 : decode cX7_markOf 48 = .ok (.iconst 2, 1) := by decide +kernel
theorem dX7_markOf_49 : decode cX7_markOf 49 = .ok (.if_icmp .ne 8, 3) := by decide +kernel
theorem dX7_markOf_52 : decode cX7_markOf 52 = .ok (.bipush 123, 2) := by decide +kernel
theorem dX7_markOf_54 : decode cX7_markOf 54 = .ok (.goto 5, 3) := by decide +kernel
theorem dX7_markOf_57 : decode cX7_markOf 57 = .ok (.bipush 125, 2) := by decide +kernel
theorem dX7_markOf_59 : decode cX7_markOf 59 = .ok (.ireturn, 1) := by decide +kernel
theorem dX7_markOf_60 : decode cX7_markOf 60 = .ok (.iload_n 1, 1) := by decide +kernel
theorem dX7_markOf_61 : decode cX7_markOf 61 = .ok (.iconst 2, 1) := by decide +kernel
theorem dX7_markOf_62 : decode cX7_markOf 62 = .ok (.if_icmp .ge 8, 3) := by decide +kernel
theorem dX7_markOf_65 : decode cX7_markOf 65 = .ok (.bipush 34, 2) := by decide +kernel
theorem dX7_markOf_67 : decode cX7_markOf 67 = .ok (.goto 5, 3) := by decide +kernel
theorem dX7_markOf_70 : decode cX7_markOf 70 = .ok (.bipush 39, 2) := by decide +kernel
theorem dX7_markOf_72 : decode cX7_markOf 72 = .ok (.ireturn, 1) := by decide +kernel
theorem dX7_markOf_73 : decode cX7_markOf 73 = .ok (.iload_n 1, 1) := by decide +kernel
theorem dX7_markOf_74 : decode cX7_markOf 74 = .ok (.ifCond .ne 8, 3) := by decide +kernel
theorem dX7_markOf_77 : decode cX7_markOf 77 = .ok (.bipush 40, 2) := by decide +kernel
theorem dX7_markOf_79 : decode cX7_markOf 79 = .ok (.goto 25, 3) := by decide +kernel
theorem dX7_markOf_82 : decode cX7_markOf 82 = .ok (.iload_n 1, 1) := by decide +kernel
theorem dX7_markOf_83 : decode cX7_markOf 83 = .ok (.iconst 1, 1) := by decide +kernel
theorem dX7_markOf_84 : decode cX7_markOf 84 = .ok (.if_icmp .ne 8, 3) := by decide +kernel
theorem dX7_markOf_87 : decode cX7_markOf 87 = .ok (.bipush 41, 2) := by decide +kernel
theorem dX7_markOf_89 : decode cX7_markOf 89 = .ok (.goto 15, 3) := by decide +kernel
theorem dX7_markOf_92 : decode cX7_markOf 92 = .ok (.iload_n 1, 1) := by decide +kernel
theorem dX7_markOf_93 : decode cX7_markOf 93 = .ok (.iconst 2, 1) := by decide +kernel
theorem dX7_markOf_94 : decode cX7_markOf 94 = .ok (.if_icmp .ne 8, 3) := by decide +kernel
theorem dX7_markOf_97 : decode cX7_markOf 97 = .ok (.bipush 91, 2) := by decide +kernel
theorem dX7_markOf_99 : decode cX7_markOf 99 = .ok (.goto 5, 3) := by decide +kernel
theorem dX7_markOf_102 : decode cX7_markOf 102 = .ok (.bipush 93, 2) := by decide +kernel
theorem dX7_markOf_104 : decode cX7_markOf 104 = .ok (.ireturn, 1) := by decide +kernel
theorem dX7_markOf_105 : decode cX7_markOf 105 = .ok (.iload_n 1, 1) := by decide +kernel
theorem dX7_markOf_106 : decode cX7_markOf 106 = .ok (.iconst 2, 1) := by decide +kernel
theorem dX7_markOf_107 : decode cX7_markOf 107 = .ok (.if_icmp .ge 8, 3) := by decide +kernel
theorem dX7_markOf_110 : decode cX7_markOf 110 = .ok (.bipush 39, 2) := by decide +kernel
theorem dX7_markOf_112 : decode cX7_markOf 112 = .ok (.goto 5, 3) := by decide +kernel
theorem dX7_markOf_115 : decode cX7_markOf 115 = .ok (.bipush 34, 2) := by decide +kernel
theorem dX7_markOf_117 : decode cX7_markOf 117 = .ok (.ireturn, 1) := by decide +kernel
theorem dX7_opener_0 : decode cX7_opener 0 = .ok (.iload_n 0, 1) := by decide +kernel
theorem dX7_opener_1 : decode cX7_opener 1 = .ok (.iload_n 1, 1) := by decide +kernel
theorem dX7_opener_2 : decode cX7_opener 2 = .ok (.iconst 2, 1) := by decide +kernel
theorem dX7_opener_3 : decode cX7_opener 3 = .ok (.irem, 1) := by decide +kernel
theorem dX7_opener_4 : decode cX7_opener 4 = .ok (.ifCond .ne 7, 3) := by decide +kernel
theorem dX7_opener_7 : decode cX7_opener 7 = .ok (.iconst 0, 1) := by decide +kernel
theorem dX7_opener_8 : decode cX7_opener 8 = .ok (.goto 4, 3) := by decide +kernel
theorem dX7_opener_11 : decode cX7_opener 11 = .ok (.iconst 2, 1) := by decide +kernel
theorem dX7_opener_12 : decode cX7_opener 12 = .ok (.invokestatic 58, 3) := by decide +kernel
theorem dX7_opener_15 : decode cX7_opener 15 = .ok (.ireturn, 1) := by decide +kernel
theorem dX7_closer_0 : decode cX7_closer 0 = .ok (.iload_n 0, 1) := by decide +kernel
theorem dX7_closer_1 : decode cX7_closer 1 = .ok (.iload_n 1, 1) := by decide +kernel
theorem dX7_closer_2 : decode cX7_closer 2 = .ok (.iconst 2, 1) := by decide +kernel
theorem dX7_closer_3 : decode cX7_closer 3 = .ok (.irem, 1) := by decide +kernel
theorem dX7_closer_4 : decode cX7_closer 4 = .ok (.iconst 1, 1) := by decide +kernel
theorem dX7_closer_5 : decode cX7_closer 5 = .ok (.if_icmp .ne 7, 3) := by decide +kernel
theorem dX7_closer_8 : decode cX7_closer 8 = .ok (.iconst 1, 1) := by decide +kernel
theorem dX7_closer_9 : decode cX7_closer 9 = .ok (.goto 4, 3) := by decide +kernel
theorem dX7_closer_12 : decode cX7_closer 12 = .ok (.iconst 3, 1) := by decide +kernel
theorem dX7_closer_13 : decode cX7_closer 13 = .ok (.invokestatic 58, 3) := by decide +kernel
theorem dX7_closer_16 : decode cX7_closer 16 = .ok (.ireturn, 1) := by decide +kernel
theorem dX7_dueMany_0 : decode cX7_dueMany 0 = .ok (.iload_n 0, 1) := by decide +kernel
theorem dX7_dueMany_1 : decode cX7_dueMany 1 = .ok (.ifCond .ne 7, 3) := by decide +kernel
theorem dX7_dueMany_4 : decode cX7_dueMany 4 = .ok (.iconst 0, 1) := by decide +kernel
theorem dX7_dueMany_5 : decode cX7_dueMany 5 = .ok (.goto 21, 3) := by decide +kernel
theorem dX7_dueMany_8 : decode cX7_dueMany 8 = .ok (.iload_n 0, 1) := by decide +kernel
theorem dX7_dueMany_9 : decode cX7_dueMany 9 = .ok (.iconst 1, 1) := by decide +kernel
theorem dX7_dueMany_10 : decode cX7_dueMany 10 = .ok (.if_icmp .ne 15, 3) := by decide +kernel
theorem dX7_dueMany_13 : decode cX7_dueMany 13 = .ok (.iload_n 1, 1) := by decide +kernel
theorem dX7_dueMany_14 : decode cX7_dueMany 14 = .ok (.ifCond .le 7, 3) := by decide +kernel
theorem dX7_dueMany_17 : decode cX7_dueMany 17 = .ok (.iconst 1, 1) := by decide +kernel
theorem dX7_dueMany_18 : decode cX7_dueMany 18 = .ok (.goto 8, 3) := by decide +kernel
theorem dX7_dueMany_21 : decode cX7_dueMany 21 = .ok (.iconst 0, 1) := by decide +kernel
theorem dX7_dueMany_22 : decode cX7_dueMany 22 = .ok (.goto 4, 3) := by decide +kernel
theorem dX7_dueMany_25 : decode cX7_dueMany 25 = .ok (.iload_n 1, 1) := by decide +kernel
theorem dX7_dueMany_26 : decode cX7_dueMany 26 = .ok (.ireturn, 1) := by decide +kernel
theorem dX7_dueSign_0 : decode cX7_dueSign 0 = .ok (.iload_n 0, 1) := by decide +kernel
theorem dX7_dueSign_1 : decode cX7_dueSign 1 = .ok (.iload_n 1, 1) := by decide +kernel
theorem dX7_dueSign_2 : decode cX7_dueSign 2 = .ok (.iconst 1, 1) := by decide +kernel
theorem dX7_dueSign_3 : decode cX7_dueSign 3 = .ok (.if_icmp .ne 7, 3) := by decide +kernel
theorem dX7_dueSign_6 : decode cX7_dueSign 6 = .ok (.iconst 0, 1) := by decide +kernel
theorem dX7_dueSign_7 : decode cX7_dueSign 7 = .ok (.goto 6, 3) := by decide +kernel
theorem dX7_dueSign_10 : decode cX7_dueSign 10 = .ok (.iload_n 2, 1) := by decide +kernel
theorem dX7_dueSign_11 : decode cX7_dueSign 11 = .ok (.iload_n 3, 1) := by decide +kernel
theorem dX7_dueSign_12 : decode cX7_dueSign 12 = .ok (.isub, 1) := by decide +kernel
theorem dX7_dueSign_13 : decode cX7_dueSign 13 = .ok (.invokestatic 62, 3) := by decide +kernel
theorem dX7_dueSign_16 : decode cX7_dueSign 16 = .ok (.ireturn, 1) := by decide +kernel
theorem dX7_write_0 : decode cX7_write 0 = .ok (.iload_n 1, 1) := by decide +kernel
theorem dX7_write_1 : decode cX7_write 1 = .ok (.i2l, 1) := by decide +kernel
theorem dX7_write_2 : decode cX7_write 2 = .ok (.ldc2_w 65, 3) := by decide +kernel
theorem dX7_write_5 : decode cX7_write 5 = .ok (.ldc2_w 67, 3) := by decide +kernel
theorem dX7_write_8 : decode cX7_write 8 = .ok (.invokestatic 50, 3) := by decide +kernel
theorem dX7_write_11 : decode cX7_write 11 = .ok (.ifCond .ne 5, 3) := by decide +kernel
theorem dX7_write_14 : decode cX7_write 14 = .ok (.iconst (-1), 1) := by decide +kernel
theorem dX7_write_15 : decode cX7_write 15 = .ok (.ireturn, 1) := by decide +kernel
theorem dX7_write_16 : decode cX7_write 16 = .ok (.aload_n 0, 1) := by decide +kernel
theorem dX7_write_17 : decode cX7_write 17 = .ok (.getfield 69, 3) := by decide +kernel
theorem dX7_write_20 : decode cX7_write 20 = .ok (.sipush 200, 3) := by decide +kernel
theorem dX7_write_23 : decode cX7_write 23 = .ok (.if_icmp .ne 6, 3) := by decide +kernel
theorem dX7_write_26 : decode cX7_write 26 = .ok (.bipush (-3), 2) := by decide +kernel
theorem dX7_write_28 : decode cX7_write 28 = .ok (.ireturn, 1) := by decide +kernel
theorem dX7_write_29 : decode cX7_write 29 = .ok (.aload_n 0, 1) := by decide +kernel
theorem dX7_write_30 : decode cX7_write 30 = .ok (.getfield 7, 3) := by decide +kernel
theorem dX7_write_33 : decode cX7_write 33 = .ok (.aload_n 0, 1) := by decide +kernel
theorem dX7_write_34 : decode cX7_write 34 = .ok (.getfield 69, 3) := by decide +kernel
theorem dX7_write_37 : decode cX7_write 37 = .ok (.iload_n 1, 1) := by decide +kernel
theorem dX7_write_38 : decode cX7_write 38 = .ok (.iastore, 1) := by decide +kernel
theorem dX7_write_39 : decode cX7_write 39 = .ok (.aload_n 0, 1) := by decide +kernel
theorem dX7_write_40 : decode cX7_write 40 = .ok (.dup, 1) := by decide +kernel
theorem dX7_write_41 : decode cX7_write 41 = .ok (.getfield 69, 3) := by decide +kernel
theorem dX7_write_44 : decode cX7_write 44 = .ok (.iconst 1, 1) := by decide +kernel
theorem dX7_write_45 : decode cX7_write 45 = .ok (.iadd, 1) := by decide +kernel
theorem dX7_write_46 : decode cX7_write 46 = .ok (.putfield 69, 3) := by decide +kernel
theorem dX7_write_49 : decode cX7_write 49 = .ok (.aload_n 0, 1) := by decide +kernel
theorem dX7_write_50 : decode cX7_write 50 = .ok (.getfield 69, 3) := by decide +kernel
theorem dX7_write_53 : decode cX7_write 53 = .ok (.ireturn, 1) := by decide +kernel
theorem dX7_wipe_0 : decode cX7_wipe 0 = .ok (.aload_n 0, 1) := by decide +kernel
theorem dX7_wipe_1 : decode cX7_wipe 1 = .ok (.getfield 69, 3) := by decide +kernel
theorem dX7_wipe_4 : decode cX7_wipe 4 = .ok (.istore_n 1, 1) := by decide +kernel
theorem dX7_wipe_5 : decode cX7_wipe 5 = .ok (.aload_n 0, 1) := by decide +kernel
theorem dX7_wipe_6 : decode cX7_wipe 6 = .ok (.iconst 0, 1) := by decide +kernel
theorem dX7_wipe_7 : decode cX7_wipe 7 = .ok (.putfield 69, 3) := by decide +kernel
theorem dX7_wipe_10 : decode cX7_wipe 10 = .ok (.iload_n 1, 1) := by decide +kernel
theorem dX7_wipe_11 : decode cX7_wipe 11 = .ok (.ireturn, 1) := by decide +kernel
theorem dX7_fault_0 : decode cX7_fault 0 = .ok (.iconst 0, 1) := by decide +kernel
theorem dX7_fault_1 : decode cX7_fault 1 = .ok (.istore_n 1, 1) := by decide +kernel
theorem dX7_fault_2 : decode cX7_fault 2 = .ok (.iload_n 1, 1) := by decide +kernel
theorem dX7_fault_3 : decode cX7_fault 3 = .ok (.aload_n 0, 1) := by decide +kernel
theorem dX7_fault_4 : decode cX7_fault 4 = .ok (.getfield 69, 3) := by decide +kernel
theorem dX7_fault_7 : decode cX7_fault 7 = .ok (.if_icmp .ge 29, 3) := by decide +kernel
theorem dX7_fault_10 : decode cX7_fault 10 = .ok (.iload_n 1, 1) := by decide +kernel
theorem dX7_fault_11 : decode cX7_fault 11 = .ok (.bipush 120, 2) := by decide +kernel
theorem dX7_fault_13 : decode cX7_fault 13 = .ok (.if_icmp .eq 15, 3) := by decide +kernel
theorem dX7_fault_16 : decode cX7_fault 16 = .ok (.aload_n 0, 1) := by decide +kernel
theorem dX7_fault_17 : decode cX7_fault 17 = .ok (.getfield 7, 3) := by decide +kernel
theorem dX7_fault_20 : decode cX7_fault 20 = .ok (.iload_n 1, 1) := by decide +kernel
theorem dX7_fault_21 : decode cX7_fault 21 = .ok (.iaload, 1) := by decide +kernel
theorem dX7_fault_22 : decode cX7_fault 22 = .ok (.invokestatic 73, 3) := by decide +kernel
theorem dX7_fault_25 : decode cX7_fault 25 = .ok (.ifCond .ne 5, 3) := by decide +kernel
theorem dX7_fault_28 : decode cX7_fault 28 = .ok (.iload_n 1, 1) := by decide +kernel
theorem dX7_fault_29 : decode cX7_fault 29 = .ok (.ireturn, 1) := by decide +kernel
theorem dX7_fault_30 : decode cX7_fault 30 = .ok (.iinc 1 1, 3) := by decide +kernel
theorem dX7_fault_33 : decode cX7_fault 33 = .ok (.goto (-31), 3) := by decide +kernel
theorem dX7_fault_36 : decode cX7_fault 36 = .ok (.bipush (-4), 2) := by decide +kernel
theorem dX7_fault_38 : decode cX7_fault 38 = .ok (.ireturn, 1) := by decide +kernel
theorem dX7_lay_0 : decode cX7_lay 0 = .ok (.aload_n 0, 1) := by decide +kernel
theorem dX7_lay_1 : decode cX7_lay 1 = .ok (.invokevirtual 76, 3) := by decide +kernel
theorem dX7_lay_4 : decode cX7_lay 4 = .ok (.bipush (-4), 2) := by decide +kernel
theorem dX7_lay_6 : decode cX7_lay 6 = .ok (.if_icmp .eq 6, 3) := by decide +kernel
theorem dX7_lay_9 : decode cX7_lay 9 = .ok (.bipush (-2), 2) := by decide +kernel
theorem dX7_lay_11 : decode cX7_lay 11 = .ok (.ireturn, 1) := by decide +kernel
theorem dX7_lay_12 : decode cX7_lay 12 = .ok (.iconst 0, 1) := by decide +kernel
theorem dX7_lay_13 : decode cX7_lay 13 = .ok (.istore_n 1, 1) := by decide +kernel
theorem dX7_lay_14 : decode cX7_lay 14 = .ok (.iload_n 1, 1) := by decide +kernel
theorem dX7_lay_15 : decode cX7_lay 15 = .ok (.aload_n 0, 1) := by decide +kernel
theorem dX7_lay_16 : decode cX7_lay 16 = .ok (.getfield 69, 3) := by decide +kernel
theorem dX7_lay_19 : decode cX7_lay 19 = .ok (.if_icmp .ge 21, 3) := by decide +kernel
theorem dX7_lay_22 : decode cX7_lay 22 = .ok (.aload_n 0, 1) := by decide +kernel
theorem dX7_lay_23 : decode cX7_lay 23 = .ok (.getfield 13, 3) := by decide +kernel
theorem dX7_lay_26 : decode cX7_lay 26 = .ok (.iload_n 1, 1) := by decide +kernel
theorem dX7_lay_27 : decode cX7_lay 27 = .ok (.aload_n 0, 1) := by decide +kernel
theorem dX7_lay_28 : decode cX7_lay 28 = .ok (.getfield 7, 3) := by decide +kernel
theorem dX7_lay_31 : decode cX7_lay 31 = .ok (.iload_n 1, 1) := by decide +kernel
theorem dX7_lay_32 : decode cX7_lay 32 = .ok (.iaload, 1) := by decide +kernel
theorem dX7_lay_33 : decode cX7_lay 33 = .ok (.iastore, 1) := by decide +kernel
theorem dX7_lay_34 : decode cX7_lay 34 = .ok (.iinc 1 1, 3) := by decide +kernel
theorem dX7_lay_37 : decode cX7_lay 37 = .ok (.goto (-23), 3) := by decide +kernel
theorem dX7_lay_40 : decode cX7_lay 40 = .ok (.aload_n 0, 1) := by decide +kernel
theorem dX7_lay_41 : decode cX7_lay 41 = .ok (.getfield 13, 3) := by decide +kernel
theorem dX7_lay_44 : decode cX7_lay 44 = .ok (.bipush 120, 2) := by decide +kernel
theorem dX7_lay_46 : decode cX7_lay 46 = .ok (.aload_n 0, 1) := by decide +kernel
theorem dX7_lay_47 : decode cX7_lay 47 = .ok (.getfield 69, 3) := by decide +kernel
theorem dX7_lay_50 : decode cX7_lay 50 = .ok (.iastore, 1) := by decide +kernel
theorem dX7_lay_51 : decode cX7_lay 51 = .ok (.aload_n 0, 1) := by decide +kernel
theorem dX7_lay_52 : decode cX7_lay 52 = .ok (.iconst 0, 1) := by decide +kernel
theorem dX7_lay_53 : decode cX7_lay 53 = .ok (.putfield 80, 3) := by decide +kernel
theorem dX7_lay_56 : decode cX7_lay 56 = .ok (.aload_n 0, 1) := by decide +kernel
theorem dX7_lay_57 : decode cX7_lay 57 = .ok (.getfield 69, 3) := by decide +kernel
theorem dX7_lay_60 : decode cX7_lay 60 = .ok (.ireturn, 1) := by decide +kernel
theorem dX7_note_0 : decode cX7_note 0 = .ok (.aload_n 0, 1) := by decide +kernel
theorem dX7_note_1 : decode cX7_note 1 = .ok (.getfield 80, 3) := by decide +kernel
theorem dX7_note_4 : decode cX7_note 4 = .ok (.bipush 6, 2) := by decide +kernel
theorem dX7_note_6 : decode cX7_note 6 = .ok (.if_icmp .ne 43, 3) := by decide +kernel
theorem dX7_note_9 : decode cX7_note 9 = .ok (.iconst 0, 1) := by decide +kernel
theorem dX7_note_10 : decode cX7_note 10 = .ok (.istore_n 1, 1) := by decide +kernel
theorem dX7_note_11 : decode cX7_note 11 = .ok (.iload_n 1, 1) := by decide +kernel
theorem dX7_note_12 : decode cX7_note 12 = .ok (.sipush 630, 3) := by decide +kernel
theorem dX7_note_15 : decode cX7_note 15 = .ok (.if_icmp .ge 24, 3) := by decide +kernel
theorem dX7_note_18 : decode cX7_note 18 = .ok (.aload_n 0, 1) := by decide +kernel
theorem dX7_note_19 : decode cX7_note 19 = .ok (.getfield 16, 3) := by decide +kernel
theorem dX7_note_22 : decode cX7_note 22 = .ok (.iload_n 1, 1) := by decide +kernel
theorem dX7_note_23 : decode cX7_note 23 = .ok (.aload_n 0, 1) := by decide +kernel
theorem dX7_note_24 : decode cX7_note 24 = .ok (.getfield 16, 3) := by decide +kernel
theorem dX7_note_27 : decode cX7_note 27 = .ok (.bipush 126, 2) := by decide +kernel
theorem dX7_note_29 : decode cX7_note 29 = .ok (.iload_n 1, 1) := by decide +kernel
theorem dX7_note_30 : decode cX7_note 30 = .ok (.iadd, 1) := by decide +kernel
theorem dX7_note_31 : decode cX7_note 31 = .ok (.iaload, 1) := by decide +kernel
theorem dX7_note_32 : decode cX7_note 32 = .ok (.iastore, 1) := by decide +kernel
theorem dX7_note_33 : decode cX7_note 33 = .ok (.iinc 1 1, 3) := by decide +kernel
theorem dX7_note_36 : decode cX7_note 36 = .ok (.goto (-25), 3) := by decide +kernel
theorem dX7_note_39 : decode cX7_note 39 = .ok (.aload_n 0, 1) := by decide +kernel
theorem dX7_note_40 : decode cX7_note 40 = .ok (.dup, 1) := by decide +kernel
theorem dX7_note_41 : decode cX7_note 41 = .ok (.getfield 80, 3) := by decide +kernel
theorem dX7_note_44 : decode cX7_note 44 = .ok (.iconst 1, 1) := by decide +kernel
theorem dX7_note_45 : decode cX7_note 45 = .ok (.isub, 1) := by decide +kernel
theorem dX7_note_46 : decode cX7_note 46 = .ok (.putfield 80, 3) := by decide +kernel
theorem dX7_note_49 : decode cX7_note 49 = .ok (.iconst 0, 1) := by decide +kernel
theorem dX7_note_50 : decode cX7_note 50 = .ok (.istore_n 1, 1) := by decide +kernel
theorem dX7_note_51 : decode cX7_note 51 = .ok (.iload_n 1, 1) := by decide +kernel
theorem dX7_note_52 : decode cX7_note 52 = .ok (.bipush 126, 2) := by decide +kernel
theorem dX7_note_54 : decode cX7_note 54 = .ok (.if_icmp .ge 29, 3) := by decide +kernel
theorem dX7_note_57 : decode cX7_note 57 = .ok (.aload_n 0, 1) := by decide +kernel
theorem dX7_note_58 : decode cX7_note 58 = .ok (.getfield 16, 3) := by decide +kernel
theorem dX7_note_61 : decode cX7_note 61 = .ok (.bipush 126, 2) := by decide +kernel
theorem dX7_note_63 : decode cX7_note 63 = .ok (.aload_n 0, 1) := by decide +kernel
theorem dX7_note_64 : decode cX7_note 64 = .ok (.getfield 80, 3) := by decide +kernel
theorem dX7_note_67 : decode cX7_note 67 = .ok (.imul, 1) := by decide +kernel
theorem dX7_note_68 : decode cX7_note 68 = .ok (.iload_n 1, 1) := by decide +kernel
theorem dX7_note_69 : decode cX7_note 69 = .ok (.iadd, 1) := by decide +kernel
theorem dX7_note_70 : decode cX7_note 70 = .ok (.aload_n 0, 1) := by decide +kernel
theorem dX7_note_71 : decode cX7_note 71 = .ok (.getfield 13, 3) := by decide +kernel
theorem dX7_note_74 : decode cX7_note 74 = .ok (.iload_n 1, 1) := by decide +kernel
theorem dX7_note_75 : decode cX7_note 75 = .ok (.iaload, 1) := by decide +kernel
theorem dX7_note_76 : decode cX7_note 76 = .ok (.iastore, 1) := by decide +kernel
theorem dX7_note_77 : decode cX7_note 77 = .ok (.iinc 1 1, 3) := by decide +kernel
theorem dX7_note_80 : decode cX7_note 80 = .ok (.goto (-29), 3) := by decide +kernel
theorem dX7_note_83 : decode cX7_note 83 = .ok (.aload_n 0, 1) := by decide +kernel
theorem dX7_note_84 : decode cX7_note 84 = .ok (.dup, 1) := by decide +kernel
theorem dX7_note_85 : decode cX7_note 85 = .ok (.getfield 80, 3) := by decide +kernel
theorem dX7_note_88 : decode cX7_note 88 = .ok (.iconst 1, 1) := by decide +kernel
theorem dX7_note_89 : decode cX7_note 89 = .ok (.iadd, 1) := by decide +kernel
theorem dX7_note_90 : decode cX7_note 90 = .ok (.putfield 80, 3) := by decide +kernel
theorem dX7_note_93 : decode cX7_note 93 = .ok (.return_, 1) := by decide +kernel
theorem dX7_undo_0 : decode cX7_undo 0 = .ok (.aload_n 0, 1) := by decide +kernel
theorem dX7_undo_1 : decode cX7_undo 1 = .ok (.getfield 80, 3) := by decide +kernel
theorem dX7_undo_4 : decode cX7_undo 4 = .ok (.ifCond .ne 6, 3) := by decide +kernel
theorem dX7_undo_7 : decode cX7_undo 7 = .ok (.bipush (-2), 2) := by decide +kernel
theorem dX7_undo_9 : decode cX7_undo 9 = .ok (.ireturn, 1) := by decide +kernel
theorem dX7_undo_10 : decode cX7_undo 10 = .ok (.aload_n 0, 1) := by decide +kernel
theorem dX7_undo_11 : decode cX7_undo 11 = .ok (.dup, 1) := by decide +kernel
theorem dX7_undo_12 : decode cX7_undo 12 = .ok (.getfield 80, 3) := by decide +kernel
theorem dX7_undo_15 : decode cX7_undo 15 = .ok (.iconst 1, 1) := by decide +kernel
theorem dX7_undo_16 : decode cX7_undo 16 = .ok (.isub, 1) := by decide +kernel
theorem dX7_undo_17 : decode cX7_undo 17 = .ok (.putfield 80, 3) := by decide +kernel
theorem dX7_undo_20 : decode cX7_undo 20 = .ok (.iconst 0, 1) := by decide +kernel
theorem dX7_undo_21 : decode cX7_undo 21 = .ok (.istore_n 1, 1) := by decide +kernel
theorem dX7_undo_22 : decode cX7_undo 22 = .ok (.iload_n 1, 1) := by decide +kernel
theorem dX7_undo_23 : decode cX7_undo 23 = .ok (.bipush 126, 2) := by decide +kernel
theorem dX7_undo_25 : decode cX7_undo 25 = .ok (.if_icmp .ge 29, 3) := by decide +kernel
theorem dX7_undo_28 : decode cX7_undo 28 = .ok (.aload_n 0, 1) := by decide +kernel
theorem dX7_undo_29 : decode cX7_undo 29 = .ok (.getfield 13, 3) := by decide +kernel
theorem dX7_undo_32 : decode cX7_undo 32 = .ok (.iload_n 1, 1) := by decide +kernel
theorem dX7_undo_33 : decode cX7_undo 33 = .ok (.aload_n 0, 1) := by decide +kernel
theorem dX7_undo_34 : decode cX7_undo 34 = .ok (.getfield 16, 3) := by decide +kernel
theorem dX7_undo_37 : decode cX7_undo 37 = .ok (.bipush 126, 2) := by decide +kernel
theorem dX7_undo_39 : decode cX7_undo 39 = .ok (.aload_n 0, 1) := by decide +kernel
theorem dX7_undo_40 : decode cX7_undo 40 = .ok (.getfield 80, 3) := by decide +kernel
theorem dX7_undo_43 : decode cX7_undo 43 = .ok (.imul, 1) := by decide +kernel
theorem dX7_undo_44 : decode cX7_undo 44 = .ok (.iload_n 1, 1) := by decide +kernel
theorem dX7_undo_45 : decode cX7_undo 45 = .ok (.iadd, 1) := by decide +kernel
theorem dX7_undo_46 : decode cX7_undo 46 = .ok (.iaload, 1) := by decide +kernel
theorem dX7_undo_47 : decode cX7_undo 47 = .ok (.iastore, 1) := by decide +kernel
theorem dX7_undo_48 : decode cX7_undo 48 = .ok (.iinc 1 1, 3) := by decide +kernel
theorem dX7_undo_51 : decode cX7_undo 51 = .ok (.goto (-29), 3) := by decide +kernel
theorem dX7_undo_54 : decode cX7_undo 54 = .ok (.aload_n 0, 1) := by decide +kernel
theorem dX7_undo_55 : decode cX7_undo 55 = .ok (.getfield 80, 3) := by decide +kernel
theorem dX7_undo_58 : decode cX7_undo 58 = .ok (.ireturn, 1) := by decide +kernel
theorem dX7_nameLetter_0 : decode cX7_nameLetter 0 = .ok (.iload_n 0, 1) := by decide +kernel
theorem dX7_nameLetter_1 : decode cX7_nameLetter 1 = .ok (.tableswitch 170 0 2 #[27, 78, 119], 27) := by decide +kernel
theorem dX7_nameLetter_28 : decode cX7_nameLetter 28 = .ok (.iload_n 1, 1) := by decide +kernel
theorem dX7_nameLetter_29 : decode cX7_nameLetter 29 = .ok (.ifCond .ne 8, 3) := by decide +kernel
theorem dX7_nameLetter_32 : decode cX7_nameLetter 32 = .ok (.bipush 110, 2) := by decide +kernel
end
section
theorem dX7_nameLetter_34 : decode cX7_nameLetter 34 = .ok (.goto 44, 3) := by decide +kernel
theorem dX7_nameLetter_37 : decode cX7_nameLetter 37 = .ok (.iload_n 1, 1) := by decide +kernel
theorem dX7_nameLetter_38 : decode cX7_nameLetter 38 = .ok (.iconst 1, 1) := by decide +kernel
theorem dX7_nameLetter_39 : decode cX7_nameLetter 39 = .ok (.if_icmp .ne 8, 3) := by decide +kernel
theorem dX7_nameLetter_42 : decode cX7_nameLetter 42 = .ok (.bipush 111, 2) := by decide +kernel
theorem dX7_nameLetter_44 : decode cX7_nameLetter 44 = .ok (.goto 34, 3) := by decide +kernel
theorem dX7_nameLetter_47 : decode cX7_nameLetter 47 = .ok (.iload_n 1, 1) := by decide +kernel
theorem dX7_nameLetter_48 : decode cX7_nameLetter 48 = .ok (.iconst 2, 1) := by decide +kernel
theorem dX7_nameLetter_49 : decode cX7_nameLetter 49 = .ok (.if_icmp .ne 8, 3) := by decide +kernel
theorem dX7_nameLetter_52 : decode cX7_nameLetter 52 = .ok (.bipush 114, 2) := by decide +kernel
theorem dX7_nameLetter_54 : decode cX7_nameLetter 54 = .ok (.goto 24, 3) := by decide +kernel
theorem dX7_nameLetter_57 : decode cX7_nameLetter 57 = .ok (.iload_n 1, 1) := by decide +kernel
theorem dX7_nameLetter_58 : decode cX7_nameLetter 58 = .ok (.iconst 3, 1) := by decide +kernel
theorem dX7_nameLetter_59 : decode cX7_nameLetter 59 = .ok (.if_icmp .ne 8, 3) := by decide +kernel
theorem dX7_nameLetter_62 : decode cX7_nameLetter 62 = .ok (.bipush 116, 2) := by decide +kernel
theorem dX7_nameLetter_64 : decode cX7_nameLetter 64 = .ok (.goto 14, 3) := by decide +kernel
theorem dX7_nameLetter_67 : decode cX7_nameLetter 67 = .ok (.iload_n 1, 1) := by decide +kernel
theorem dX7_nameLetter_68 : decode cX7_nameLetter 68 = .ok (.iconst 4, 1) := by decide +kernel
theorem dX7_nameLetter_69 : decode cX7_nameLetter 69 = .ok (.if_icmp .ne 8, 3) := by decide +kernel
theorem dX7_nameLetter_72 : decode cX7_nameLetter 72 = .ok (.bipush 104, 2) := by decide +kernel
theorem dX7_nameLetter_74 : decode cX7_nameLetter 74 = .ok (.goto 4, 3) := by decide +kernel
theorem dX7_nameLetter_77 : decode cX7_nameLetter 77 = .ok (.iconst 0, 1) := by decide +kernel
theorem dX7_nameLetter_78 : decode cX7_nameLetter 78 = .ok (.ireturn, 1) := by decide +kernel
theorem dX7_nameLetter_79 : decode cX7_nameLetter 79 = .ok (.iload_n 1, 1) := by decide +kernel
theorem dX7_nameLetter_80 : decode cX7_nameLetter 80 = .ok (.ifCond .ne 8, 3) := by decide +kernel
theorem dX7_nameLetter_83 : decode cX7_nameLetter 83 = .ok (.bipush 101, 2) := by decide +kernel
theorem dX7_nameLetter_85 : decode cX7_nameLetter 85 = .ok (.goto 34, 3) := by decide +kernel
theorem dX7_nameLetter_88 : decode cX7_nameLetter 88 = .ok (.iload_n 1, 1) := by decide +kernel
theorem dX7_nameLetter_89 : decode cX7_nameLetter 89 = .ok (.iconst 1, 1) := by decide +kernel
theorem dX7_nameLetter_90 : decode cX7_nameLetter 90 = .ok (.if_icmp .ne 8, 3) := by decide +kernel
theorem dX7_nameLetter_93 : decode cX7_nameLetter 93 = .ok (.bipush 97, 2) := by decide +kernel
theorem dX7_nameLetter_95 : decode cX7_nameLetter 95 = .ok (.goto 24, 3) := by decide +kernel
theorem dX7_nameLetter_98 : decode cX7_nameLetter 98 = .ok (.iload_n 1, 1) := by decide +kernel
theorem dX7_nameLetter_99 : decode cX7_nameLetter 99 = .ok (.iconst 2, 1) := by decide +kernel
theorem dX7_nameLetter_100 : decode cX7_nameLetter 100 = .ok (.if_icmp .ne 8, 3) := by decide +kernel
theorem dX7_nameLetter_103 : decode cX7_nameLetter 103 = .ok (.bipush 115, 2) := by decide +kernel
theorem dX7_nameLetter_105 : decode cX7_nameLetter 105 = .ok (.goto 14, 3) := by decide +kernel
theorem dX7_nameLetter_108 : decode cX7_nameLetter 108 = .ok (.iload_n 1, 1) := by decide +kernel
theorem dX7_nameLetter_109 : decode cX7_nameLetter 109 = .ok (.iconst 3, 1) := by decide +kernel
theorem dX7_nameLetter_110 : decode cX7_nameLetter 110 = .ok (.if_icmp .ne 8, 3) := by decide +kernel
theorem dX7_nameLetter_113 : decode cX7_nameLetter 113 = .ok (.bipush 116, 2) := by decide +kernel
theorem dX7_nameLetter_115 : decode cX7_nameLetter 115 = .ok (.goto 4, 3) := by decide +kernel
theorem dX7_nameLetter_118 : decode cX7_nameLetter 118 = .ok (.iconst 0, 1) := by decide +kernel
theorem dX7_nameLetter_119 : decode cX7_nameLetter 119 = .ok (.ireturn, 1) := by decide +kernel
theorem dX7_nameLetter_120 : decode cX7_nameLetter 120 = .ok (.iload_n 1, 1) := by decide +kernel
theorem dX7_nameLetter_121 : decode cX7_nameLetter 121 = .ok (.ifCond .ne 8, 3) := by decide +kernel
theorem dX7_nameLetter_124 : decode cX7_nameLetter 124 = .ok (.bipush 115, 2) := by decide +kernel
theorem dX7_nameLetter_126 : decode cX7_nameLetter 126 = .ok (.goto 44, 3) := by decide +kernel
theorem dX7_nameLetter_129 : decode cX7_nameLetter 129 = .ok (.iload_n 1, 1) := by decide +kernel
theorem dX7_nameLetter_130 : decode cX7_nameLetter 130 = .ok (.iconst 1, 1) := by decide +kernel
theorem dX7_nameLetter_131 : decode cX7_nameLetter 131 = .ok (.if_icmp .ne 8, 3) := by decide +kernel
theorem dX7_nameLetter_134 : decode cX7_nameLetter 134 = .ok (.bipush 111, 2) := by decide +kernel
theorem dX7_nameLetter_136 : decode cX7_nameLetter 136 = .ok (.goto 34, 3) := by decide +kernel
theorem dX7_nameLetter_139 : decode cX7_nameLetter 139 = .ok (.iload_n 1, 1) := by decide +kernel
theorem dX7_nameLetter_140 : decode cX7_nameLetter 140 = .ok (.iconst 2, 1) := by decide +kernel
theorem dX7_nameLetter_141 : decode cX7_nameLetter 141 = .ok (.if_icmp .ne 8, 3) := by decide +kernel
theorem dX7_nameLetter_144 : decode cX7_nameLetter 144 = .ok (.bipush 117, 2) := by decide +kernel
theorem dX7_nameLetter_146 : decode cX7_nameLetter 146 = .ok (.goto 24, 3) := by decide +kernel
theorem dX7_nameLetter_149 : decode cX7_nameLetter 149 = .ok (.iload_n 1, 1) := by decide +kernel
theorem dX7_nameLetter_150 : decode cX7_nameLetter 150 = .ok (.iconst 3, 1) := by decide +kernel
theorem dX7_nameLetter_151 : decode cX7_nameLetter 151 = .ok (.if_icmp .ne 8, 3) := by decide +kernel
theorem dX7_nameLetter_154 : decode cX7_nameLetter 154 = .ok (.bipush 116, 2) := by decide +kernel
theorem dX7_nameLetter_156 : decode cX7_nameLetter 156 = .ok (.goto 14, 3) := by decide +kernel
theorem dX7_nameLetter_159 : decode cX7_nameLetter 159 = .ok (.iload_n 1, 1) := by decide +kernel
theorem dX7_nameLetter_160 : decode cX7_nameLetter 160 = .ok (.iconst 4, 1) := by decide +kernel
theorem dX7_nameLetter_161 : decode cX7_nameLetter 161 = .ok (.if_icmp .ne 8, 3) := by decide +kernel
theorem dX7_nameLetter_164 : decode cX7_nameLetter 164 = .ok (.bipush 104, 2) := by decide +kernel
theorem dX7_nameLetter_166 : decode cX7_nameLetter 166 = .ok (.goto 4, 3) := by decide +kernel
theorem dX7_nameLetter_169 : decode cX7_nameLetter 169 = .ok (.iconst 0, 1) := by decide +kernel
theorem dX7_nameLetter_170 : decode cX7_nameLetter 170 = .ok (.ireturn, 1) := by decide +kernel
theorem dX7_nameLetter_171 : decode cX7_nameLetter 171 = .ok (.iload_n 1, 1) := by decide +kernel
theorem dX7_nameLetter_172 : decode cX7_nameLetter 172 = .ok (.ifCond .ne 8, 3) := by decide +kernel
theorem dX7_nameLetter_175 : decode cX7_nameLetter 175 = .ok (.bipush 119, 2) := by decide +kernel
theorem dX7_nameLetter_177 : decode cX7_nameLetter 177 = .ok (.goto 34, 3) := by decide +kernel
theorem dX7_nameLetter_180 : decode cX7_nameLetter 180 = .ok (.iload_n 1, 1) := by decide +kernel
theorem dX7_nameLetter_181 : decode cX7_nameLetter 181 = .ok (.iconst 1, 1) := by decide +kernel
theorem dX7_nameLetter_182 : decode cX7_nameLetter 182 = .ok (.if_icmp .ne 8, 3) := by decide +kernel
theorem dX7_nameLetter_185 : decode cX7_nameLetter 185 = .ok (.bipush 101, 2) := by decide +kernel
theorem dX7_nameLetter_187 : decode cX7_nameLetter 187 = .ok (.goto 24, 3) := by decide +kernel
theorem dX7_nameLetter_190 : decode cX7_nameLetter 190 = .ok (.iload_n 1, 1) := by decide +kernel
theorem dX7_nameLetter_191 : decode cX7_nameLetter 191 = .ok (.iconst 2, 1) := by decide +kernel
theorem dX7_nameLetter_192 : decode cX7_nameLetter 192 = .ok (.if_icmp .ne 8, 3) := by decide +kernel
theorem dX7_nameLetter_195 : decode cX7_nameLetter 195 = .ok (.bipush 115, 2) := by decide +kernel
theorem dX7_nameLetter_197 : decode cX7_nameLetter 197 = .ok (.goto 14, 3) := by decide +kernel
theorem dX7_nameLetter_200 : decode cX7_nameLetter 200 = .ok (.iload_n 1, 1) := by decide +kernel
theorem dX7_nameLetter_201 : decode cX7_nameLetter 201 = .ok (.iconst 3, 1) := by decide +kernel
theorem dX7_nameLetter_202 : decode cX7_nameLetter 202 = .ok (.if_icmp .ne 8, 3) := by decide +kernel
theorem dX7_nameLetter_205 : decode cX7_nameLetter 205 = .ok (.bipush 116, 2) := by decide +kernel
theorem dX7_nameLetter_207 : decode cX7_nameLetter 207 = .ok (.goto 4, 3) := by decide +kernel
theorem dX7_nameLetter_210 : decode cX7_nameLetter 210 = .ok (.iconst 0, 1) := by decide +kernel
theorem dX7_nameLetter_211 : decode cX7_nameLetter 211 = .ok (.ireturn, 1) := by decide +kernel
theorem dX7_isName_0 : decode cX7_isName 0 = .ok (.iconst 1, 1) := by decide +kernel
theorem dX7_isName_1 : decode cX7_isName 1 = .ok (.istore_n 2, 1) := by decide +kernel
theorem dX7_isName_2 : decode cX7_isName 2 = .ok (.iconst 0, 1) := by decide +kernel
theorem dX7_isName_3 : decode cX7_isName 3 = .ok (.istore_n 3, 1) := by decide +kernel
theorem dX7_isName_4 : decode cX7_isName 4 = .ok (.iload_n 3, 1) := by decide +kernel
theorem dX7_isName_5 : decode cX7_isName 5 = .ok (.bipush 6, 2) := by decide +kernel
theorem dX7_isName_7 : decode cX7_isName 7 = .ok (.if_icmp .ge 45, 3) := by decide +kernel
theorem dX7_isName_10 : decode cX7_isName 10 = .ok (.iload_n 2, 1) := by decide +kernel
theorem dX7_isName_11 : decode cX7_isName 11 = .ok (.ifCond .eq 33, 3) := by decide +kernel
theorem dX7_isName_14 : decode cX7_isName 14 = .ok (.iload_n 3, 1) := by decide +kernel
theorem dX7_isName_15 : decode cX7_isName 15 = .ok (.aload_n 0, 1) := by decide +kernel
theorem dX7_isName_16 : decode cX7_isName 16 = .ok (.getfield 69, 3) := by decide +kernel
theorem dX7_isName_19 : decode cX7_isName 19 = .ok (.if_icmp .ge 12, 3) := by decide +kernel
theorem dX7_isName_22 : decode cX7_isName 22 = .ok (.aload_n 0, 1) := by decide +kernel
theorem dX7_isName_23 : decode cX7_isName 23 = .ok (.getfield 7, 3) := by decide +kernel
theorem dX7_isName_26 : decode cX7_isName 26 = .ok (.iload_n 3, 1) := by decide +kernel
theorem dX7_isName_27 : decode cX7_isName 27 = .ok (.iaload, 1) := by decide +kernel
theorem dX7_isName_28 : decode cX7_isName 28 = .ok (.goto 4, 3) := by decide +kernel
theorem dX7_isName_31 : decode cX7_isName 31 = .ok (.iconst 0, 1) := by decide +kernel
theorem dX7_isName_32 : decode cX7_isName 32 = .ok (.iload_n 1, 1) := by decide +kernel
theorem dX7_isName_33 : decode cX7_isName 33 = .ok (.iload_n 3, 1) := by decide +kernel
theorem dX7_isName_34 : decode cX7_isName 34 = .ok (.invokestatic 83, 3) := by decide +kernel
theorem dX7_isName_37 : decode cX7_isName 37 = .ok (.if_icmp .ne 7, 3) := by decide +kernel
theorem dX7_isName_40 : decode cX7_isName 40 = .ok (.iconst 1, 1) := by decide +kernel
theorem dX7_isName_41 : decode cX7_isName 41 = .ok (.goto 4, 3) := by decide +kernel
theorem dX7_isName_44 : decode cX7_isName 44 = .ok (.iconst 0, 1) := by decide +kernel
theorem dX7_isName_45 : decode cX7_isName 45 = .ok (.istore_n 2, 1) := by decide +kernel
theorem dX7_isName_46 : decode cX7_isName 46 = .ok (.iinc 3 1, 3) := by decide +kernel
theorem dX7_isName_49 : decode cX7_isName 49 = .ok (.goto (-45), 3) := by decide +kernel
theorem dX7_isName_52 : decode cX7_isName 52 = .ok (.iload_n 2, 1) := by decide +kernel
theorem dX7_isName_53 : decode cX7_isName 53 = .ok (.ifCond .eq 16, 3) := by decide +kernel
theorem dX7_isName_56 : decode cX7_isName 56 = .ok (.aload_n 0, 1) := by decide +kernel
theorem dX7_isName_57 : decode cX7_isName 57 = .ok (.getfield 69, 3) := by decide +kernel
theorem dX7_isName_60 : decode cX7_isName 60 = .ok (.bipush 6, 2) := by decide +kernel
theorem dX7_isName_62 : decode cX7_isName 62 = .ok (.if_icmp .ge 7, 3) := by decide +kernel
theorem dX7_isName_65 : decode cX7_isName 65 = .ok (.iconst 1, 1) := by decide +kernel
theorem dX7_isName_66 : decode cX7_isName 66 = .ok (.goto 4, 3) := by decide +kernel
theorem dX7_isName_69 : decode cX7_isName 69 = .ok (.iconst 0, 1) := by decide +kernel
theorem dX7_isName_70 : decode cX7_isName 70 = .ok (.ireturn, 1) := by decide +kernel
theorem dX7_tells_0 : decode cX7_tells 0 = .ok (.aload_n 0, 1) := by decide +kernel
theorem dX7_tells_1 : decode cX7_tells 1 = .ok (.getfield 13, 3) := by decide +kernel
theorem dX7_tells_4 : decode cX7_tells 4 = .ok (.iload_n 1, 1) := by decide +kernel
theorem dX7_tells_5 : decode cX7_tells 5 = .ok (.iaload, 1) := by decide +kernel
theorem dX7_tells_6 : decode cX7_tells 6 = .ok (.istore_n 3, 1) := by decide +kernel
theorem dX7_tells_7 : decode cX7_tells 7 = .ok (.iload_n 3, 1) := by decide +kernel
theorem dX7_tells_8 : decode cX7_tells 8 = .ok (.iload_n 2, 1) := by decide +kernel
theorem dX7_tells_9 : decode cX7_tells 9 = .ok (.if_icmp .ne 6, 3) := by decide +kernel
theorem dX7_tells_12 : decode cX7_tells 12 = .ok (.bipush (-2), 2) := by decide +kernel
theorem dX7_tells_14 : decode cX7_tells 14 = .ok (.ireturn, 1) := by decide +kernel
theorem dX7_tells_15 : decode cX7_tells 15 = .ok (.aload_n 0, 1) := by decide +kernel
theorem dX7_tells_16 : decode cX7_tells 16 = .ok (.invokevirtual 86, 3) := by decide +kernel
theorem dX7_tells_19 : decode cX7_tells 19 = .ok (.aload_n 0, 1) := by decide +kernel
theorem dX7_tells_20 : decode cX7_tells 20 = .ok (.getfield 13, 3) := by decide +kernel
theorem dX7_tells_23 : decode cX7_tells 23 = .ok (.iload_n 1, 1) := by decide +kernel
theorem dX7_tells_24 : decode cX7_tells 24 = .ok (.iload_n 2, 1) := by decide +kernel
theorem dX7_tells_25 : decode cX7_tells 25 = .ok (.iastore, 1) := by decide +kernel
theorem dX7_tells_26 : decode cX7_tells 26 = .ok (.iload_n 3, 1) := by decide +kernel
theorem dX7_tells_27 : decode cX7_tells 27 = .ok (.ireturn, 1) := by decide +kernel
theorem dX7_speak_0 : decode cX7_speak 0 = .ok (.iconst 0, 1) := by decide +kernel
theorem dX7_speak_1 : decode cX7_speak 1 = .ok (.istore_n 1, 1) := by decide +kernel
theorem dX7_speak_2 : decode cX7_speak 2 = .ok (.iload_n 1, 1) := by decide +kernel
theorem dX7_speak_3 : decode cX7_speak 3 = .ok (.iconst 4, 1) := by decide +kernel
theorem dX7_speak_4 : decode cX7_speak 4 = .ok (.if_icmp .ge 36, 3) := by decide +kernel
theorem dX7_speak_7 : decode cX7_speak 7 = .ok (.aload_n 0, 1) := by decide +kernel
theorem dX7_speak_8 : decode cX7_speak 8 = .ok (.iload_n 1, 1) := by decide +kernel
theorem dX7_speak_9 : decode cX7_speak 9 = .ok (.invokevirtual 89, 3) := by decide +kernel
theorem dX7_speak_12 : decode cX7_speak 12 = .ok (.ifCond .eq 22, 3) := by decide +kernel
theorem dX7_speak_15 : decode cX7_speak 15 = .ok (.aload_n 0, 1) := by decide +kernel
theorem dX7_speak_16 : decode cX7_speak 16 = .ok (.bipush 121, 2) := by decide +kernel
theorem dX7_speak_18 : decode cX7_speak 18 = .ok (.iload_n 1, 1) := by decide +kernel
theorem dX7_speak_19 : decode cX7_speak 19 = .ok (.invokevirtual 92, 3) := by decide +kernel
theorem dX7_speak_22 : decode cX7_speak 22 = .ok (.bipush (-2), 2) := by decide +kernel
theorem dX7_speak_24 : decode cX7_speak 24 = .ok (.if_icmp .ne 8, 3) := by decide +kernel
theorem dX7_speak_27 : decode cX7_speak 27 = .ok (.bipush (-2), 2) := by decide +kernel
theorem dX7_speak_29 : decode cX7_speak 29 = .ok (.goto 4, 3) := by decide +kernel
theorem dX7_speak_32 : decode cX7_speak 32 = .ok (.iload_n 1, 1) := by decide +kernel
theorem dX7_speak_33 : decode cX7_speak 33 = .ok (.ireturn, 1) := by decide +kernel
theorem dX7_speak_34 : decode cX7_speak 34 = .ok (.iinc 1 1, 3) := by decide +kernel
theorem dX7_speak_37 : decode cX7_speak 37 = .ok (.goto (-35), 3) := by decide +kernel
theorem dX7_speak_40 : decode cX7_speak 40 = .ok (.bipush (-4), 2) := by decide +kernel
theorem dX7_speak_42 : decode cX7_speak 42 = .ok (.ireturn, 1) := by decide +kernel
theorem dX7_rule_0 : decode cX7_rule 0 = .ok (.iload_n 1, 1) := by decide +kernel
theorem dX7_rule_1 : decode cX7_rule 1 = .ok (.i2l, 1) := by decide +kernel
theorem dX7_rule_2 : decode cX7_rule 2 = .ok (.lconst 0, 1) := by decide +kernel
theorem dX7_rule_3 : decode cX7_rule 3 = .ok (.ldc2_w 95, 3) := by decide +kernel
theorem dX7_rule_6 : decode cX7_rule 6 = .ok (.invokestatic 50, 3) := by decide +kernel
theorem dX7_rule_9 : decode cX7_rule 9 = .ok (.ifCond .eq 13, 3) := by decide +kernel
theorem dX7_rule_12 : decode cX7_rule 12 = .ok (.aload_n 0, 1) := by decide +kernel
theorem dX7_rule_13 : decode cX7_rule 13 = .ok (.bipush 122, 2) := by decide +kernel
theorem dX7_rule_15 : decode cX7_rule 15 = .ok (.iload_n 1, 1) := by decide +kernel
theorem dX7_rule_16 : decode cX7_rule 16 = .ok (.invokevirtual 92, 3) := by decide +kernel
theorem dX7_rule_19 : decode cX7_rule 19 = .ok (.goto 4, 3) := by decide +kernel
theorem dX7_rule_22 : decode cX7_rule 22 = .ok (.iconst (-1), 1) := by decide +kernel
theorem dX7_rule_23 : decode cX7_rule 23 = .ok (.ireturn, 1) := by decide +kernel
theorem dX7_weigh_0 : decode cX7_weigh 0 = .ok (.iload_n 1, 1) := by decide +kernel
theorem dX7_weigh_1 : decode cX7_weigh 1 = .ok (.i2l, 1) := by decide +kernel
theorem dX7_weigh_2 : decode cX7_weigh 2 = .ok (.lconst 0, 1) := by decide +kernel
theorem dX7_weigh_3 : decode cX7_weigh 3 = .ok (.ldc2_w 95, 3) := by decide +kernel
theorem dX7_weigh_6 : decode cX7_weigh 6 = .ok (.invokestatic 50, 3) := by decide +kernel
theorem dX7_weigh_9 : decode cX7_weigh 9 = .ok (.ifCond .eq 27, 3) := by decide +kernel
theorem dX7_weigh_12 : decode cX7_weigh 12 = .ok (.iload_n 2, 1) := by decide +kernel
theorem dX7_weigh_13 : decode cX7_weigh 13 = .ok (.i2l, 1) := by decide +kernel
theorem dX7_weigh_14 : decode cX7_weigh 14 = .ok (.lconst 1, 1) := by decide +kernel
theorem dX7_weigh_15 : decode cX7_weigh 15 = .ok (.ldc2_w 97, 3) := by decide +kernel
theorem dX7_weigh_18 : decode cX7_weigh 18 = .ok (.invokestatic 50, 3) := by decide +kernel
theorem dX7_weigh_21 : decode cX7_weigh 21 = .ok (.ifCond .eq 15, 3) := by decide +kernel
theorem dX7_weigh_24 : decode cX7_weigh 24 = .ok (.aload_n 0, 1) := by decide +kernel
theorem dX7_weigh_25 : decode cX7_weigh 25 = .ok (.bipush 123, 2) := by decide +kernel
theorem dX7_weigh_27 : decode cX7_weigh 27 = .ok (.iload_n 1, 1) := by decide +kernel
theorem dX7_weigh_28 : decode cX7_weigh 28 = .ok (.iadd, 1) := by decide +kernel
theorem dX7_weigh_29 : decode cX7_weigh 29 = .ok (.iload_n 2, 1) := by decide +kernel
theorem dX7_weigh_30 : decode cX7_weigh 30 = .ok (.invokevirtual 92, 3) := by decide +kernel
theorem dX7_weigh_33 : decode cX7_weigh 33 = .ok (.goto 4, 3) := by decide +kernel
theorem dX7_weigh_36 : decode cX7_weigh 36 = .ok (.iconst (-1), 1) := by decide +kernel
theorem dX7_weigh_37 : decode cX7_weigh 37 = .ok (.ireturn, 1) := by decide +kernel
theorem dX7_put_0 : decode cX7_put 0 = .ok (.aload_n 0, 1) := by decide +kernel
theorem dX7_put_1 : decode cX7_put 1 = .ok (.getfield 13, 3) := by decide +kernel
theorem dX7_put_4 : decode cX7_put 4 = .ok (.bipush 120, 2) := by decide +kernel
theorem dX7_put_6 : decode cX7_put 6 = .ok (.iaload, 1) := by decide +kernel
theorem dX7_put_7 : decode cX7_put 7 = .ok (.istore_n 3, 1) := by decide +kernel
theorem dX7_put_8 : decode cX7_put 8 = .ok (.iload_n 1, 1) := by decide +kernel
theorem dX7_put_9 : decode cX7_put 9 = .ok (.i2l, 1) := by decide +kernel
theorem dX7_put_10 : decode cX7_put 10 = .ok (.lconst 0, 1) := by decide +kernel
theorem dX7_put_11 : decode cX7_put 11 = .ok (.iload_n 3, 1) := by decide +kernel
theorem dX7_put_12 : decode cX7_put 12 = .ok (.i2l, 1) := by decide +kernel
theorem dX7_put_13 : decode cX7_put 13 = .ok (.invokestatic 50, 3) := by decide +kernel
theorem dX7_put_16 : decode cX7_put 16 = .ok (.ifCond .eq 10, 3) := by decide +kernel
theorem dX7_put_19 : decode cX7_put 19 = .ok (.iload_n 2, 1) := by decide +kernel
theorem dX7_put_20 : decode cX7_put 20 = .ok (.invokestatic 73, 3) := by decide +kernel
theorem dX7_put_23 : decode cX7_put 23 = .ok (.ifCond .ne 5, 3) := by decide +kernel
theorem dX7_put_26 : decode cX7_put 26 = .ok (.iconst (-1), 1) := by decide +kernel
theorem dX7_put_27 : decode cX7_put 27 = .ok (.ireturn, 1) := by decide +kernel
theorem dX7_put_28 : decode cX7_put 28 = .ok (.iload_n 3, 1) := by decide +kernel
theorem dX7_put_29 : decode cX7_put 29 = .ok (.bipush 120, 2) := by decide +kernel
theorem dX7_put_31 : decode cX7_put 31 = .ok (.if_icmp .ne 6, 3) := by decide +kernel
theorem dX7_put_34 : decode cX7_put 34 = .ok (.bipush (-3), 2) := by decide +kernel
theorem dX7_put_36 : decode cX7_put 36 = .ok (.ireturn, 1) := by decide +kernel
theorem dX7_put_37 : decode cX7_put 37 = .ok (.aload_n 0, 1) := by decide +kernel
theorem dX7_put_38 : decode cX7_put 38 = .ok (.invokevirtual 86, 3) := by decide +kernel
theorem dX7_put_41 : decode cX7_put 41 = .ok (.iload_n 3, 1) := by decide +kernel
theorem dX7_put_42 : decode cX7_put 42 = .ok (.istore 4, 2) := by decide +kernel
theorem dX7_put_44 : decode cX7_put 44 = .ok (.iload 4, 2) := by decide +kernel
theorem dX7_put_46 : decode cX7_put 46 = .ok (.iload_n 1, 1) := by decide +kernel
theorem dX7_put_47 : decode cX7_put 47 = .ok (.if_icmp .le 25, 3) := by decide +kernel
theorem dX7_put_50 : decode cX7_put 50 = .ok (.aload_n 0, 1) := by decide +kernel
theorem dX7_put_51 : decode cX7_put 51 = .ok (.getfield 13, 3) := by decide +kernel
theorem dX7_put_54 : decode cX7_put 54 = .ok (.iload 4, 2) := by decide +kernel
theorem dX7_put_56 : decode cX7_put 56 = .ok (.aload_n 0, 1) := by decide +kernel
theorem dX7_put_57 : decode cX7_put 57 = .ok (.getfield 13, 3) := by decide +kernel
theorem dX7_put_60 : decode cX7_put 60 = .ok (.iload 4, 2) := by decide +kernel
theorem dX7_put_62 : decode cX7_put 62 = .ok (.iconst 1, 1) := by decide +kernel
theorem dX7_put_63 : decode cX7_put 63 = .ok (.isub, 1) := by decide +kernel
theorem dX7_put_64 : decode cX7_put 64 = .ok (.iaload, 1) := by decide +kernel
theorem dX7_put_65 : decode cX7_put 65 = .ok (.iastore, 1) := by decide +kernel
theorem dX7_put_66 : decode cX7_put 66 = .ok (.iinc 4 (-1), 3) := by decide +kernel
theorem dX7_put_69 : decode cX7_put 69 = .ok (.goto (-25), 3) := by decide +kernel
theorem dX7_put_72 : decode cX7_put 72 = .ok (.aload_n 0, 1) := by decide +kernel
theorem dX7_put_73 : decode cX7_put 73 = .ok (.getfield 13, 3) := by decide +kernel
theorem dX7_put_76 : decode cX7_put 76 = .ok (.iload_n 1, 1) := by decide +kernel
theorem dX7_put_77 : decode cX7_put 77 = .ok (.iload_n 2, 1) := by decide +kernel
theorem dX7_put_78 : decode cX7_put 78 = .ok (.iastore, 1) := by decide +kernel
theorem dX7_put_79 : decode cX7_put 79 = .ok (.aload_n 0, 1) := by decide +kernel
theorem dX7_put_80 : decode cX7_put 80 = .ok (.getfield 13, 3) := by decide +kernel
theorem dX7_put_83 : decode cX7_put 83 = .ok (.bipush 120, 2) := by decide +kernel
theorem dX7_put_85 : decode cX7_put 85 = .ok (.iload_n 3, 1) := by decide +kernel
theorem dX7_put_86 : decode cX7_put 86 = .ok (.iconst 1, 1) := by decide +kernel
theorem dX7_put_87 : decode cX7_put 87 = .ok (.iadd, 1) := by decide +kernel
theorem dX7_put_88 : decode cX7_put 88 = .ok (.iastore, 1) := by decide +kernel
theorem dX7_put_89 : decode cX7_put 89 = .ok (.iload_n 3, 1) := by decide +kernel
theorem dX7_put_90 : decode cX7_put 90 = .ok (.iconst 1, 1) := by decide +kernel
theorem dX7_put_91 : decode cX7_put 91 = .ok (.iadd, 1) := by decide +kernel
theorem dX7_put_92 : decode cX7_put 92 = .ok (.ireturn, 1) := by decide +kernel
theorem dX7_isPlace_0 : decode cX7_isPlace 0 = .ok (.iload_n 1, 1) := by decide +kernel
theorem dX7_isPlace_1 : decode cX7_isPlace 1 = .ok (.i2l, 1) := by decide +kernel
theorem dX7_isPlace_2 : decode cX7_isPlace 2 = .ok (.lconst 0, 1) := by decide +kernel
theorem dX7_isPlace_3 : decode cX7_isPlace 3 = .ok (.aload_n 0, 1) := by decide +kernel
theorem dX7_isPlace_4 : decode cX7_isPlace 4 = .ok (.getfield 13, 3) := by decide +kernel
theorem dX7_isPlace_7 : decode cX7_isPlace 7 = .ok (.bipush 120, 2) := by decide +kernel
theorem dX7_isPlace_9 : decode cX7_isPlace 9 = .ok (.iaload, 1) := by decide +kernel
theorem dX7_isPlace_10 : decode cX7_isPlace 10 = .ok (.iconst 1, 1) := by decide +kernel
theorem dX7_isPlace_11 : decode cX7_isPlace 11 = .ok (.isub, 1) := by decide +kernel
theorem dX7_isPlace_12 : decode cX7_isPlace 12 = .ok (.i2l, 1) := by decide +kernel
theorem dX7_isPlace_13 : decode cX7_isPlace 13 = .ok (.invokestatic 50, 3) := by decide +kernel
theorem dX7_isPlace_16 : decode cX7_isPlace 16 = .ok (.ireturn, 1) := by decide +kernel
theorem dX7_take_0 : decode cX7_take 0 = .ok (.aload_n 0, 1) := by decide +kernel
theorem dX7_take_1 : decode cX7_take 1 = .ok (.iload_n 1, 1) := by decide +kernel
theorem dX7_take_2 : decode cX7_take 2 = .ok (.invokevirtual 99, 3) := by decide +kernel
theorem dX7_take_5 : decode cX7_take 5 = .ok (.ifCond .ne 5, 3) := by decide +kernel
theorem dX7_take_8 : decode cX7_take 8 = .ok (.iconst (-1), 1) := by decide +kernel
theorem dX7_take_9 : decode cX7_take 9 = .ok (.ireturn, 1) := by decide +kernel
theorem dX7_take_10 : decode cX7_take 10 = .ok (.aload_n 0, 1) := by decide +kernel
theorem dX7_take_11 : decode cX7_take 11 = .ok (.invokevirtual 86, 3) := by decide +kernel
theorem dX7_take_14 : decode cX7_take 14 = .ok (.aload_n 0, 1) := by decide +kernel
theorem dX7_take_15 : decode cX7_take 15 = .ok (.getfield 13, 3) := by decide +kernel
theorem dX7_take_18 : decode cX7_take 18 = .ok (.iload_n 1, 1) := by decide +kernel
theorem dX7_take_19 : decode cX7_take 19 = .ok (.iaload, 1) := by decide +kernel
theorem dX7_take_20 : decode cX7_take 20 = .ok (.istore_n 2, 1) := by decide +kernel
theorem dX7_take_21 : decode cX7_take 21 = .ok (.aload_n 0, 1) := by decide +kernel
theorem dX7_take_22 : decode cX7_take 22 = .ok (.getfield 13, 3) := by decide +kernel
theorem dX7_take_25 : decode cX7_take 25 = .ok (.bipush 120, 2) := by decide +kernel
theorem dX7_take_27 : decode cX7_take 27 = .ok (.dup2, 1) := by decide +kernel
theorem dX7_take_28 : decode cX7_take 28 = .ok (.iaload, 1) := by decide +kernel
theorem dX7_take_29 : decode cX7_take 29 = .ok (.iconst 1, 1) := by decide +kernel
theorem dX7_take_30 : decode cX7_take 30 = .ok (.isub, 1) := by decide +kernel
theorem dX7_take_31 : decode cX7_take 31 = .ok (.iastore, 1) := by decide +kernel
theorem dX7_take_32 : decode cX7_take 32 = .ok (.iload_n 1, 1) := by decide +kernel
theorem dX7_take_33 : decode cX7_take 33 = .ok (.istore_n 3, 1) := by decide +kernel
theorem dX7_take_34 : decode cX7_take 34 = .ok (.iload_n 3, 1) := by decide +kernel
theorem dX7_take_35 : decode cX7_take 35 = .ok (.aload_n 0, 1) := by decide +kernel
theorem dX7_take_36 : decode cX7_take 36 = .ok (.getfield 13, 3) := by decide +kernel
theorem dX7_take_39 : decode cX7_take 39 = .ok (.bipush 120, 2) := by decide +kernel
theorem dX7_take_41 : decode cX7_take 41 = .ok (.iaload, 1) := by decide +kernel
theorem dX7_take_42 : decode cX7_take 42 = .ok (.if_icmp .ge 23, 3) := by decide +kernel
theorem dX7_take_45 : decode cX7_take 45 = .ok (.aload_n 0, 1) := by decide +kernel
theorem dX7_take_46 : decode cX7_take 46 = .ok (.getfield 13, 3) := by decide +kernel
theorem dX7_take_49 : decode cX7_take 49 = .ok (.iload_n 3, 1) := by decide +kernel
theorem dX7_take_50 : decode cX7_take 50 = .ok (.aload_n 0, 1) := by decide +kernel
theorem dX7_take_51 : decode cX7_take 51 = .ok (.getfield 13, 3) := by decide +kernel
theorem dX7_take_54 : decode cX7_take 54 = .ok (.iload_n 3, 1) := by decide +kernel
theorem dX7_take_55 : decode cX7_take 55 = .ok (.iconst 1, 1) := by decide +kernel
theorem dX7_take_56 : decode cX7_take 56 = .ok (.iadd, 1) := by decide +kernel
theorem dX7_take_57 : decode cX7_take 57 = .ok (.iaload, 1) := by decide +kernel
theorem dX7_take_58 : decode cX7_take 58 = .ok (.iastore, 1) := by decide +kernel
theorem dX7_take_59 : decode cX7_take 59 = .ok (.iinc 3 1, 3) := by decide +kernel
theorem dX7_take_62 : decode cX7_take 62 = .ok (.goto (-28), 3) := by decide +kernel
theorem dX7_take_65 : decode cX7_take 65 = .ok (.iload_n 2, 1) := by decide +kernel
theorem dX7_take_66 : decode cX7_take 66 = .ok (.ireturn, 1) := by decide +kernel
theorem dX7_alter_0 : decode cX7_alter 0 = .ok (.aload_n 0, 1) := by decide +kernel
theorem dX7_alter_1 : decode cX7_alter 1 = .ok (.iload_n 1, 1) := by decide +kernel
theorem dX7_alter_2 : decode cX7_alter 2 = .ok (.invokevirtual 99, 3) := by decide +kernel
theorem dX7_alter_5 : decode cX7_alter 5 = .ok (.ifCond .eq 19, 3) := by decide +kernel
theorem dX7_alter_8 : decode cX7_alter 8 = .ok (.iload_n 2, 1) := by decide +kernel
theorem dX7_alter_9 : decode cX7_alter 9 = .ok (.invokestatic 73, 3) := by decide +kernel
theorem dX7_alter_12 : decode cX7_alter 12 = .ok (.ifCond .eq 12, 3) := by decide +kernel
theorem dX7_alter_15 : decode cX7_alter 15 = .ok (.aload_n 0, 1) := by decide +kernel
theorem dX7_alter_16 : decode cX7_alter 16 = .ok (.iload_n 1, 1) := by decide +kernel
theorem dX7_alter_17 : decode cX7_alter 17 = .ok (.iload_n 2, 1) := by decide +kernel
theorem dX7_alter_18 : decode cX7_alter 18 = .ok (.invokevirtual 92, 3) := by decide +kernel
theorem dX7_alter_21 : decode cX7_alter 21 = .ok (.goto 4, 3) := by decide +kernel
theorem dX7_alter_24 : decode cX7_alter 24 = .ok (.iconst (-1), 1) := by decide +kernel
theorem dX7_alter_25 : decode cX7_alter 25 = .ok (.ireturn, 1) := by decide +kernel
theorem dX7_wrong1_0 : decode cX7_wrong1 0 = .ok (.aload_n 0, 1) := by decide +kernel
theorem dX7_wrong1_1 : decode cX7_wrong1 1 = .ok (.getfield 28, 3) := by decide +kernel
theorem dX7_wrong1_4 : decode cX7_wrong1 4 = .ok (.aload_n 0, 1) := by decide +kernel
theorem dX7_wrong1_5 : decode cX7_wrong1 5 = .ok (.getfield 102, 3) := by decide +kernel
theorem dX7_wrong1_8 : decode cX7_wrong1 8 = .ok (.iload_n 1, 1) := by decide +kernel
theorem dX7_wrong1_9 : decode cX7_wrong1 9 = .ok (.iastore, 1) := by decide +kernel
theorem dX7_wrong1_10 : decode cX7_wrong1 10 = .ok (.aload_n 0, 1) := by decide +kernel
theorem dX7_wrong1_11 : decode cX7_wrong1 11 = .ok (.getfield 31, 3) := by decide +kernel
theorem dX7_wrong1_14 : decode cX7_wrong1 14 = .ok (.aload_n 0, 1) := by decide +kernel
theorem dX7_wrong1_15 : decode cX7_wrong1 15 = .ok (.getfield 102, 3) := by decide +kernel
theorem dX7_wrong1_18 : decode cX7_wrong1 18 = .ok (.iload_n 2, 1) := by decide +kernel
theorem dX7_wrong1_19 : decode cX7_wrong1 19 = .ok (.iastore, 1) := by decide +kernel
theorem dX7_wrong1_20 : decode cX7_wrong1 20 = .ok (.aload_n 0, 1) := by decide +kernel
theorem dX7_wrong1_21 : decode cX7_wrong1 21 = .ok (.dup, 1) := by decide +kernel
theorem dX7_wrong1_22 : decode cX7_wrong1 22 = .ok (.getfield 102, 3) := by decide +kernel
theorem dX7_wrong1_25 : decode cX7_wrong1 25 = .ok (.iconst 1, 1) := by decide +kernel
theorem dX7_wrong1_26 : decode cX7_wrong1 26 = .ok (.iadd, 1) := by decide +kernel
theorem dX7_wrong1_27 : decode cX7_wrong1 27 = .ok (.putfield 102, 3) := by decide +kernel
theorem dX7_wrong1_30 : decode cX7_wrong1 30 = .ok (.return_, 1) := by decide +kernel
theorem dX7_opened_0 : decode cX7_opened 0 = .ok (.iload_n 1, 1) := by decide +kernel
theorem dX7_opened_1 : decode cX7_opened 1 = .ok (.iconst 1, 1) := by decide +kernel
theorem dX7_opened_2 : decode cX7_opened 2 = .ok (.isub, 1) := by decide +kernel
theorem dX7_opened_3 : decode cX7_opened 3 = .ok (.istore_n 2, 1) := by decide +kernel
theorem dX7_opened_4 : decode cX7_opened 4 = .ok (.aload_n 0, 1) := by decide +kernel
theorem dX7_opened_5 : decode cX7_opened 5 = .ok (.getfield 19, 3) := by decide +kernel
theorem dX7_opened_8 : decode cX7_opened 8 = .ok (.iload_n 2, 1) := by decide +kernel
theorem dX7_opened_9 : decode cX7_opened 9 = .ok (.iaload, 1) := by decide +kernel
theorem dX7_opened_10 : decode cX7_opened 10 = .ok (.iconst 3, 1) := by decide +kernel
theorem dX7_opened_11 : decode cX7_opened 11 = .ok (.if_icmp .ne 14, 3) := by decide +kernel
theorem dX7_opened_14 : decode cX7_opened 14 = .ok (.aload_n 0, 1) := by decide +kernel
theorem dX7_opened_15 : decode cX7_opened 15 = .ok (.getfield 25, 3) := by decide +kernel
theorem dX7_opened_18 : decode cX7_opened 18 = .ok (.iload_n 2, 1) := by decide +kernel
theorem dX7_opened_19 : decode cX7_opened 19 = .ok (.iaload, 1) := by decide +kernel
theorem dX7_opened_20 : decode cX7_opened 20 = .ok (.bipush (-4), 2) := by decide +kernel
theorem dX7_opened_22 : decode cX7_opened 22 = .ok (.if_icmp .eq 9, 3) := by decide +kernel
theorem dX7_opened_25 : decode cX7_opened 25 = .ok (.iinc 2 (-1), 3) := by decide +kernel
theorem dX7_opened_28 : decode cX7_opened 28 = .ok (.goto (-24), 3) := by decide +kernel
theorem dX7_opened_31 : decode cX7_opened 31 = .ok (.iload_n 2, 1) := by decide +kernel
theorem dX7_opened_32 : decode cX7_opened 32 = .ok (.ireturn, 1) := by decide +kernel
theorem dX7_read_0 : decode cX7_read 0 = .ok (.aload_n 0, 1) := by decide +kernel
theorem dX7_read_1 : decode cX7_read 1 = .ok (.getfield 13, 3) := by decide +kernel
theorem dX7_read_4 : decode cX7_read 4 = .ok (.bipush 121, 2) := by decide +kernel
theorem dX7_read_6 : decode cX7_read 6 = .ok (.iaload, 1) := by decide +kernel
theorem dX7_read_7 : decode cX7_read 7 = .ok (.istore_n 1, 1) := by decide +kernel
theorem dX7_read_8 : decode cX7_read 8 = .ok (.iconst 0, 1) := by decide +kernel
theorem dX7_read_9 : decode cX7_read 9 = .ok (.istore_n 2, 1) := by decide +kernel
theorem dX7_read_10 : decode cX7_read 10 = .ok (.iconst 0, 1) := by decide +kernel
theorem dX7_read_11 : decode cX7_read 11 = .ok (.istore_n 3, 1) := by decide +kernel
theorem dX7_read_12 : decode cX7_read 12 = .ok (.aload_n 0, 1) := by decide +kernel
theorem dX7_read_13 : decode cX7_read 13 = .ok (.iconst 0, 1) := by decide +kernel
theorem dX7_read_14 : decode cX7_read 14 = .ok (.putfield 102, 3) := by decide +kernel
theorem dX7_read_17 : decode cX7_read 17 = .ok (.aload_n 0, 1) := by decide +kernel
theorem dX7_read_18 : decode cX7_read 18 = .ok (.iconst 0, 1) := by decide +kernel
theorem dX7_read_19 : decode cX7_read 19 = .ok (.putfield 105, 3) := by decide +kernel
theorem dX7_read_22 : decode cX7_read 22 = .ok (.iconst 0, 1) := by decide +kernel
theorem dX7_read_23 : decode cX7_read 23 = .ok (.istore 4, 2) := by decide +kernel
theorem dX7_read_25 : decode cX7_read 25 = .ok (.iload 4, 2) := by decide +kernel
theorem dX7_read_27 : decode cX7_read 27 = .ok (.aload_n 0, 1) := by decide +kernel
theorem dX7_read_28 : decode cX7_read 28 = .ok (.getfield 13, 3) := by decide +kernel
theorem dX7_read_31 : decode cX7_read 31 = .ok (.bipush 120, 2) := by decide +kernel
theorem dX7_read_33 : decode cX7_read 33 = .ok (.iaload, 1) := by decide +kernel
theorem dX7_read_34 : decode cX7_read 34 = .ok (.if_icmp .ge 340, 3) := by decide +kernel
theorem dX7_read_37 : decode cX7_read 37 = .ok (.aload_n 0, 1) := by decide +kernel
theorem dX7_read_38 : decode cX7_read 38 = .ok (.getfield 13, 3) := by decide +kernel
theorem dX7_read_41 : decode cX7_read 41 = .ok (.iload 4, 2) := by decide +kernel
theorem dX7_read_43 : decode cX7_read 43 = .ok (.iaload, 1) := by decide +kernel
theorem dX7_read_44 : decode cX7_read 44 = .ok (.istore 5, 2) := by decide +kernel
theorem dX7_read_46 : decode cX7_read 46 = .ok (.aload_n 0, 1) := by decide +kernel
theorem dX7_read_47 : decode cX7_read 47 = .ok (.getfield 25, 3) := by decide +kernel
theorem dX7_read_50 : decode cX7_read 50 = .ok (.iload 4, 2) := by decide +kernel
theorem dX7_read_52 : decode cX7_read 52 = .ok (.bipush (-4), 2) := by decide +kernel
theorem dX7_read_54 : decode cX7_read 54 = .ok (.iastore, 1) := by decide +kernel
theorem dX7_read_55 : decode cX7_read 55 = .ok (.iload_n 3, 1) := by decide +kernel
theorem dX7_read_56 : decode cX7_read 56 = .ok (.ifCond .le 25, 3) := by decide +kernel
theorem dX7_read_59 : decode cX7_read 59 = .ok (.iload 5, 2) := by decide +kernel
theorem dX7_read_61 : decode cX7_read 61 = .ok (.iload_n 1, 1) := by decide +kernel
theorem dX7_read_62 : decode cX7_read 62 = .ok (.aload_n 0, 1) := by decide +kernel
theorem dX7_read_63 : decode cX7_read 63 = .ok (.getfield 13, 3) := by decide +kernel
theorem dX7_read_66 : decode cX7_read 66 = .ok (.bipush 122, 2) := by decide +kernel
theorem dX7_read_68 : decode cX7_read 68 = .ok (.iaload, 1) := by decide +kernel
theorem dX7_read_69 : decode cX7_read 69 = .ok (.iload_n 2, 1) := by decide +kernel
theorem dX7_read_70 : decode cX7_read 70 = .ok (.iload_n 3, 1) := by decide +kernel
theorem dX7_read_71 : decode cX7_read 71 = .ok (.invokestatic 108, 3) := by decide +kernel
theorem dX7_read_74 : decode cX7_read 74 = .ok (.if_icmp .ne 7, 3) := by decide +kernel
theorem dX7_read_77 : decode cX7_read 77 = .ok (.iconst 1, 1) := by decide +kernel
theorem dX7_read_78 : decode cX7_read 78 = .ok (.goto 4, 3) := by decide +kernel
theorem dX7_read_81 : decode cX7_read 81 = .ok (.iconst 0, 1) := by decide +kernel
theorem dX7_read_82 : decode cX7_read 82 = .ok (.istore 6, 2) := by decide +kernel
theorem dX7_read_84 : decode cX7_read 84 = .ok (.iload_n 3, 1) := by decide +kernel
theorem dX7_read_85 : decode cX7_read 85 = .ok (.ifCond .le 17, 3) := by decide +kernel
theorem dX7_read_88 : decode cX7_read 88 = .ok (.iload 6, 2) := by decide +kernel
theorem dX7_read_90 : decode cX7_read 90 = .ok (.ifCond .ne 12, 3) := by decide +kernel
theorem dX7_read_93 : decode cX7_read 93 = .ok (.aload_n 0, 1) := by decide +kernel
theorem dX7_read_94 : decode cX7_read 94 = .ok (.iload 4, 2) := by decide +kernel
theorem dX7_read_96 : decode cX7_read 96 = .ok (.iconst 3, 1) := by decide +kernel
theorem dX7_read_97 : decode cX7_read 97 = .ok (.invokevirtual 112, 3) := by decide +kernel
theorem dX7_read_100 : decode cX7_read 100 = .ok (.iconst 0, 1) := by decide +kernel
theorem dX7_read_101 : decode cX7_read 101 = .ok (.istore_n 3, 1) := by decide +kernel
theorem dX7_read_102 : decode cX7_read 102 = .ok (.iload 6, 2) := by decide +kernel
theorem dX7_read_104 : decode cX7_read 104 = .ok (.ifCond .eq 17, 3) := by decide +kernel
theorem dX7_read_107 : decode cX7_read 107 = .ok (.aload_n 0, 1) := by decide +kernel
theorem dX7_read_108 : decode cX7_read 108 = .ok (.getfield 19, 3) := by decide +kernel
theorem dX7_read_111 : decode cX7_read 111 = .ok (.iload 4, 2) := by decide +kernel
theorem dX7_read_113 : decode cX7_read 113 = .ok (.iconst 5, 1) := by decide +kernel
theorem dX7_read_114 : decode cX7_read 114 = .ok (.iastore, 1) := by decide +kernel
theorem dX7_read_115 : decode cX7_read 115 = .ok (.iinc 3 (-1), 3) := by decide +kernel
theorem dX7_read_118 : decode cX7_read 118 = .ok (.goto 242, 3) := by decide +kernel
theorem dX7_read_121 : decode cX7_read 121 = .ok (.iload 5, 2) := by decide +kernel
theorem dX7_read_123 : decode cX7_read 123 = .ok (.i2l, 1) := by decide +kernel
theorem dX7_read_124 : decode cX7_read 124 = .ok (.ldc2_w 46, 3) := by decide +kernel
theorem dX7_read_127 : decode cX7_read 127 = .ok (.ldc2_w 48, 3) := by decide +kernel
theorem dX7_read_130 : decode cX7_read 130 = .ok (.invokestatic 50, 3) := by decide +kernel
theorem dX7_read_133 : decode cX7_read 133 = .ok (.ifCond .ne 10, 3) := by decide +kernel
theorem dX7_read_136 : decode cX7_read 136 = .ok (.iload 5, 2) := by decide +kernel
theorem dX7_read_138 : decode cX7_read 138 = .ok (.bipush 32, 2) := by decide +kernel
theorem dX7_read_140 : decode cX7_read 140 = .ok (.if_icmp .ne 25, 3) := by decide +kernel
theorem dX7_read_143 : decode cX7_read 143 = .ok (.aload_n 0, 1) := by decide +kernel
theorem dX7_read_144 : decode cX7_read 144 = .ok (.getfield 19, 3) := by decide +kernel
theorem dX7_read_147 : decode cX7_read 147 = .ok (.iload 4, 2) := by decide +kernel
theorem dX7_read_149 : decode cX7_read 149 = .ok (.iload 5, 2) := by decide +kernel
theorem dX7_read_151 : decode cX7_read 151 = .ok (.bipush 32, 2) := by decide +kernel
theorem dX7_read_153 : decode cX7_read 153 = .ok (.if_icmp .ne 7, 3) := by decide +kernel
theorem dX7_read_156 : decode cX7_read 156 = .ok (.iconst 1, 1) := by decide +kernel
theorem dX7_read_157 : decode cX7_read 157 = .ok (.goto 4, 3) := by decide +kernel
theorem dX7_read_160 : decode cX7_read 160 = .ok (.iconst 0, 1) := by decide +kernel
theorem dX7_read_161 : decode cX7_read 161 = .ok (.iastore, 1) := by decide +kernel
theorem dX7_read_162 : decode cX7_read 162 = .ok (.goto 198, 3) := by decide +kernel
theorem dX7_read_165 : decode cX7_read 165 = .ok (.iload 5, 2) := by decide +kernel
theorem dX7_read_167 : decode cX7_read 167 = .ok (.bipush 124, 2) := by decide +kernel
theorem dX7_read_169 : decode cX7_read 169 = .ok (.if_icmp .ne 26, 3) := by decide +kernel
theorem dX7_read_172 : decode cX7_read 172 = .ok (.aload_n 0, 1) := by decide +kernel
theorem dX7_read_173 : decode cX7_read 173 = .ok (.getfield 19, 3) := by decide +kernel
theorem dX7_read_176 : decode cX7_read 176 = .ok (.iload 4, 2) := by decide +kernel
theorem dX7_read_178 : decode cX7_read 178 = .ok (.iconst 2, 1) := by decide +kernel
theorem dX7_read_179 : decode cX7_read 179 = .ok (.iastore, 1) := by decide +kernel
theorem dX7_read_180 : decode cX7_read 180 = .ok (.aload_n 0, 1) := by decide +kernel
theorem dX7_read_181 : decode cX7_read 181 = .ok (.getfield 13, 3) := by decide +kernel
theorem dX7_read_184 : decode cX7_read 184 = .ok (.bipush 122, 2) := by decide +kernel
theorem dX7_read_186 : decode cX7_read 186 = .ok (.iaload, 1) := by decide +kernel
theorem dX7_read_187 : decode cX7_read 187 = .ok (.iload_n 2, 1) := by decide +kernel
theorem dX7_read_188 : decode cX7_read 188 = .ok (.invokestatic 116, 3) := by decide +kernel
theorem dX7_read_191 : decode cX7_read 191 = .ok (.istore_n 3, 1) := by decide +kernel
theorem dX7_read_192 : decode cX7_read 192 = .ok (.goto 168, 3) := by decide +kernel
theorem dX7_read_195 : decode cX7_read 195 = .ok (.iload_n 2, 1) := by decide +kernel
theorem dX7_read_196 : decode cX7_read 196 = .ok (.ifCond .le 53, 3) := by decide +kernel
theorem dX7_read_199 : decode cX7_read 199 = .ok (.iload 5, 2) := by decide +kernel
theorem dX7_read_201 : decode cX7_read 201 = .ok (.iload_n 1, 1) := by decide +kernel
theorem dX7_read_202 : decode cX7_read 202 = .ok (.iload_n 2, 1) := by decide +kernel
theorem dX7_read_203 : decode cX7_read 203 = .ok (.invokestatic 119, 3) := by decide +kernel
theorem dX7_read_206 : decode cX7_read 206 = .ok (.if_icmp .ne 43, 3) := by decide +kernel
theorem dX7_read_209 : decode cX7_read 209 = .ok (.aload_n 0, 1) := by decide +kernel
theorem dX7_read_210 : decode cX7_read 210 = .ok (.iload 4, 2) := by decide +kernel
theorem dX7_read_212 : decode cX7_read 212 = .ok (.invokevirtual 122, 3) := by decide +kernel
theorem dX7_read_215 : decode cX7_read 215 = .ok (.istore 7, 2) := by decide +kernel
theorem dX7_read_217 : decode cX7_read 217 = .ok (.aload_n 0, 1) := by decide +kernel
theorem dX7_read_218 : decode cX7_read 218 = .ok (.getfield 25, 3) := by decide +kernel
theorem dX7_read_221 : decode cX7_read 221 = .ok (.iload 4, 2) := by decide +kernel
theorem dX7_read_223 : decode cX7_read 223 = .ok (.iload 7, 2) := by decide +kernel
theorem dX7_read_225 : decode cX7_read 225 = .ok (.iastore, 1) := by decide +kernel
theorem dX7_read_226 : decode cX7_read 226 = .ok (.aload_n 0, 1) := by decide +kernel
theorem dX7_read_227 : decode cX7_read 227 = .ok (.getfield 25, 3) := by decide +kernel
theorem dX7_read_230 : decode cX7_read 230 = .ok (.iload 7, 2) := by decide +kernel
theorem dX7_read_232 : decode cX7_read 232 = .ok (.iload 4, 2) := by decide +kernel
theorem dX7_read_234 : decode cX7_read 234 = .ok (.iastore, 1) := by decide +kernel
theorem dX7_read_235 : decode cX7_read 235 = .ok (.aload_n 0, 1) := by decide +kernel
theorem dX7_read_236 : decode cX7_read 236 = .ok (.getfield 19, 3) := by decide +kernel
theorem dX7_read_239 : decode cX7_read 239 = .ok (.iload 4, 2) := by decide +kernel
theorem dX7_read_241 : decode cX7_read 241 = .ok (.iconst 4, 1) := by decide +kernel
theorem dX7_read_242 : decode cX7_read 242 = .ok (.iastore, 1) := by decide +kernel
theorem dX7_read_243 : decode cX7_read 243 = .ok (.iinc 2 (-1), 3) := by decide +kernel
theorem dX7_read_246 : decode cX7_read 246 = .ok (.goto 114, 3) := by decide +kernel
theorem dX7_read_249 : decode cX7_read 249 = .ok (.iload_n 2, 1) := by decide +kernel
theorem dX7_read_250 : decode cX7_read 250 = .ok (.bipush 6, 2) := by decide +kernel
theorem dX7_read_252 : decode cX7_read 252 = .ok (.if_icmp .ge 48, 3) := by decide +kernel
theorem dX7_read_255 : decode cX7_read 255 = .ok (.iload 5, 2) := by decide +kernel
theorem dX7_read_257 : decode cX7_read 257 = .ok (.iload_n 1, 1) := by decide +kernel
theorem dX7_read_258 : decode cX7_read 258 = .ok (.iload_n 2, 1) := by decide +kernel
theorem dX7_read_259 : decode cX7_read 259 = .ok (.invokestatic 62, 3) := by decide +kernel
theorem dX7_read_262 : decode cX7_read 262 = .ok (.if_icmp .ne 38, 3) := by decide +kernel
theorem dX7_read_265 : decode cX7_read 265 = .ok (.aload_n 0, 1) := by decide +kernel
theorem dX7_read_266 : decode cX7_read 266 = .ok (.getfield 19, 3) := by decide +kernel
theorem dX7_read_269 : decode cX7_read 269 = .ok (.iload 4, 2) := by decide +kernel
theorem dX7_read_271 : decode cX7_read 271 = .ok (.iconst 3, 1) := by decide +kernel
theorem dX7_read_272 : decode cX7_read 272 = .ok (.iastore, 1) := by decide +kernel
theorem dX7_read_273 : decode cX7_read 273 = .ok (.aload_n 0, 1) := by decide +kernel
theorem dX7_read_274 : decode cX7_read 274 = .ok (.getfield 34, 3) := by decide +kernel
theorem dX7_read_277 : decode cX7_read 277 = .ok (.aload_n 0, 1) := by decide +kernel
theorem dX7_read_278 : decode cX7_read 278 = .ok (.getfield 105, 3) := by decide +kernel
theorem dX7_read_281 : decode cX7_read 281 = .ok (.iload 4, 2) := by decide +kernel
theorem dX7_read_283 : decode cX7_read 283 = .ok (.iastore, 1) := by decide +kernel
theorem dX7_read_284 : decode cX7_read 284 = .ok (.aload_n 0, 1) := by decide +kernel
theorem dX7_read_285 : decode cX7_read 285 = .ok (.dup, 1) := by decide +kernel
theorem dX7_read_286 : decode cX7_read 286 = .ok (.getfield 105, 3) := by decide +kernel
theorem dX7_read_289 : decode cX7_read 289 = .ok (.iconst 1, 1) := by decide +kernel
theorem dX7_read_290 : decode cX7_read 290 = .ok (.iadd, 1) := by decide +kernel
theorem dX7_read_291 : decode cX7_read 291 = .ok (.putfield 105, 3) := by decide +kernel
theorem dX7_read_294 : decode cX7_read 294 = .ok (.iinc 2 1, 3) := by decide +kernel
theorem dX7_read_297 : decode cX7_read 297 = .ok (.goto 63, 3) := by decide +kernel
theorem dX7_read_300 : decode cX7_read 300 = .ok (.aload_n 0, 1) := by decide +kernel
theorem dX7_read_301 : decode cX7_read 301 = .ok (.getfield 19, 3) := by decide +kernel
theorem dX7_read_304 : decode cX7_read 304 = .ok (.iload 4, 2) := by decide +kernel
theorem dX7_read_306 : decode cX7_read 306 = .ok (.bipush 6, 2) := by decide +kernel
theorem dX7_read_308 : decode cX7_read 308 = .ok (.iastore, 1) := by decide +kernel
theorem dX7_read_309 : decode cX7_read 309 = .ok (.aload_n 0, 1) := by decide +kernel
theorem dX7_read_310 : decode cX7_read 310 = .ok (.iload 4, 2) := by decide +kernel
theorem dX7_read_312 : decode cX7_read 312 = .ok (.iload 5, 2) := by decide +kernel
theorem dX7_read_314 : decode cX7_read 314 = .ok (.iload_n 1, 1) := by decide +kernel
theorem dX7_read_315 : decode cX7_read 315 = .ok (.iconst 0, 1) := by decide +kernel
theorem dX7_read_316 : decode cX7_read 316 = .ok (.invokestatic 58, 3) := by decide +kernel
theorem dX7_read_319 : decode cX7_read 319 = .ok (.if_icmp .eq 33, 3) := by decide +kernel
theorem dX7_read_322 : decode cX7_read 322 = .ok (.iload 5, 2) := by decide +kernel
theorem dX7_read_324 : decode cX7_read 324 = .ok (.iload_n 1, 1) := by decide +kernel
theorem dX7_read_325 : decode cX7_read 325 = .ok (.iconst 1, 1) := by decide +kernel
theorem dX7_read_326 : decode cX7_read 326 = .ok (.invokestatic 58, 3) := by decide +kernel
theorem dX7_read_329 : decode cX7_read 329 = .ok (.if_icmp .eq 23, 3) := by decide +kernel
theorem dX7_read_332 : decode cX7_read 332 = .ok (.iload 5, 2) := by decide +kernel
theorem dX7_read_334 : decode cX7_read 334 = .ok (.iload_n 1, 1) := by decide +kernel
theorem dX7_read_335 : decode cX7_read 335 = .ok (.iconst 2, 1) := by decide +kernel
theorem dX7_read_336 : decode cX7_read 336 = .ok (.invokestatic 58, 3) := by decide +kernel
theorem dX7_read_339 : decode cX7_read 339 = .ok (.if_icmp .eq 13, 3) := by decide +kernel
theorem dX7_read_342 : decode cX7_read 342 = .ok (.iload 5, 2) := by decide +kernel
theorem dX7_read_344 : decode cX7_read 344 = .ok (.iload_n 1, 1) := by decide +kernel
theorem dX7_read_345 : decode cX7_read 345 = .ok (.iconst 3, 1) := by decide +kernel
theorem dX7_read_346 : decode cX7_read 346 = .ok (.invokestatic 58, 3) := by decide +kernel
theorem dX7_read_349 : decode cX7_read 349 = .ok (.if_icmp .ne 7, 3) := by decide +kernel
theorem dX7_read_352 : decode cX7_read 352 = .ok (.iconst 1, 1) := by decide +kernel
theorem dX7_read_353 : decode cX7_read 353 = .ok (.goto 4, 3) := by decide +kernel
theorem dX7_read_356 : decode cX7_read 356 = .ok (.iconst 2, 1) := by decide +kernel
theorem dX7_read_357 : decode cX7_read 357 = .ok (.invokevirtual 112, 3) := by decide +kernel
theorem dX7_read_360 : decode cX7_read 360 = .ok (.aload_n 0, 1) := by decide +kernel
theorem dX7_read_361 : decode cX7_read 361 = .ok (.getfield 22, 3) := by decide +kernel
theorem dX7_read_364 : decode cX7_read 364 = .ok (.iload 4, 2) := by decide +kernel
theorem dX7_read_366 : decode cX7_read 366 = .ok (.iload_n 2, 1) := by decide +kernel
theorem dX7_read_367 : decode cX7_read 367 = .ok (.iastore, 1) := by decide +kernel
theorem dX7_read_368 : decode cX7_read 368 = .ok (.iinc 4 1, 3) := by decide +kernel
theorem dX7_read_371 : decode cX7_read 371 = .ok (.goto (-346), 3) := by decide +kernel
theorem dX7_read_374 : decode cX7_read 374 = .ok (.iload_n 3, 1) := by decide +kernel
theorem dX7_read_375 : decode cX7_read 375 = .ok (.ifCond .le 15, 3) := by decide +kernel
theorem dX7_read_378 : decode cX7_read 378 = .ok (.aload_n 0, 1) := by decide +kernel
theorem dX7_read_379 : decode cX7_read 379 = .ok (.aload_n 0, 1) := by decide +kernel
theorem dX7_read_380 : decode cX7_read 380 = .ok (.getfield 13, 3) := by decide +kernel
theorem dX7_read_383 : decode cX7_read 383 = .ok (.bipush 120, 2) := by decide +kernel
theorem dX7_read_385 : decode cX7_read 385 = .ok (.iaload, 1) := by decide +kernel
theorem dX7_read_386 : decode cX7_read 386 = .ok (.iconst 3, 1) := by decide +kernel
theorem dX7_read_387 : decode cX7_read 387 = .ok (.invokevirtual 112, 3) := by decide +kernel
theorem dX7_read_390 : decode cX7_read 390 = .ok (.iload_n 2, 1) := by decide +kernel
theorem dX7_read_391 : decode cX7_read 391 = .ok (.ifCond .le 15, 3) := by decide +kernel
theorem dX7_read_394 : decode cX7_read 394 = .ok (.aload_n 0, 1) := by decide +kernel
theorem dX7_read_395 : decode cX7_read 395 = .ok (.aload_n 0, 1) := by decide +kernel
theorem dX7_read_396 : decode cX7_read 396 = .ok (.getfield 13, 3) := by decide +kernel
theorem dX7_read_399 : decode cX7_read 399 = .ok (.bipush 120, 2) := by decide +kernel
theorem dX7_read_401 : decode cX7_read 401 = .ok (.iaload, 1) := by decide +kernel
theorem dX7_read_402 : decode cX7_read 402 = .ok (.iconst 4, 1) := by decide +kernel
theorem dX7_read_403 : decode cX7_read 403 = .ok (.invokevirtual 112, 3) := by decide +kernel
theorem dX7_read_406 : decode cX7_read 406 = .ok (.return_, 1) := by decide +kernel
theorem dX7_sign_0 : decode cX7_sign 0 = .ok (.aload_n 0, 1) := by decide +kernel
theorem dX7_sign_1 : decode cX7_sign 1 = .ok (.iload_n 1, 1) := by decide +kernel
theorem dX7_sign_2 : decode cX7_sign 2 = .ok (.invokevirtual 99, 3) := by decide +kernel
theorem dX7_sign_5 : decode cX7_sign 5 = .ok (.ifCond .eq 12, 3) := by decide +kernel
theorem dX7_sign_8 : decode cX7_sign 8 = .ok (.aload_n 0, 1) := by decide +kernel
theorem dX7_sign_9 : decode cX7_sign 9 = .ok (.getfield 13, 3) := by decide +kernel
theorem dX7_sign_12 : decode cX7_sign 12 = .ok (.iload_n 1, 1) := by decide +kernel
theorem dX7_sign_13 : decode cX7_sign 13 = .ok (.iaload, 1) := by decide +kernel
theorem dX7_sign_14 : decode cX7_sign 14 = .ok (.goto 4, 3) := by decide +kernel
theorem dX7_sign_17 : decode cX7_sign 17 = .ok (.iconst (-1), 1) := by decide +kernel
theorem dX7_sign_18 : decode cX7_sign 18 = .ok (.ireturn, 1) := by decide +kernel
theorem dX7_kind_0 : decode cX7_kind 0 = .ok (.aload_n 0, 1) := by decide +kernel
theorem dX7_kind_1 : decode cX7_kind 1 = .ok (.iload_n 1, 1) := by decide +kernel
theorem dX7_kind_2 : decode cX7_kind 2 = .ok (.invokevirtual 99, 3) := by decide +kernel
theorem dX7_kind_5 : decode cX7_kind 5 = .ok (.ifCond .ne 5, 3) := by decide +kernel
theorem dX7_kind_8 : decode cX7_kind 8 = .ok (.iconst (-1), 1) := by decide +kernel
theorem dX7_kind_9 : decode cX7_kind 9 = .ok (.ireturn, 1) := by decide +kernel
theorem dX7_kind_10 : decode cX7_kind 10 = .ok (.aload_n 0, 1) := by decide +kernel
theorem dX7_kind_11 : decode cX7_kind 11 = .ok (.invokevirtual 126, 3) := by decide +kernel
theorem dX7_kind_14 : decode cX7_kind 14 = .ok (.aload_n 0, 1) := by decide +kernel
theorem dX7_kind_15 : decode cX7_kind 15 = .ok (.getfield 19, 3) := by decide +kernel
theorem dX7_kind_18 : decode cX7_kind 18 = .ok (.iload_n 1, 1) := by decide +kernel
theorem dX7_kind_19 : decode cX7_kind 19 = .ok (.iaload, 1) := by decide +kernel
theorem dX7_kind_20 : decode cX7_kind 20 = .ok (.ireturn, 1) := by decide +kernel
theorem dX7_depth_0 : decode cX7_depth 0 = .ok (.aload_n 0, 1) := by decide +kernel
theorem dX7_depth_1 : decode cX7_depth 1 = .ok (.iload_n 1, 1) := by decide +kernel
theorem dX7_depth_2 : decode cX7_depth 2 = .ok (.invokevirtual 99, 3) := by decide +kernel
theorem dX7_depth_5 : decode cX7_depth 5 = .ok (.ifCond .ne 5, 3) := by decide +kernel
theorem dX7_depth_8 : decode cX7_depth 8 = .ok (.iconst (-1), 1) := by decide +kernel
theorem dX7_depth_9 : decode cX7_depth 9 = .ok (.ireturn, 1) := by decide +kernel
theorem dX7_depth_10 : decode cX7_depth 10 = .ok (.aload_n 0, 1) := by decide +kernel
theorem dX7_depth_11 : decode cX7_depth 11 = .ok (.invokevirtual 126, 3) := by decide +kernel
theorem dX7_depth_14 : decode cX7_depth 14 = .ok (.aload_n 0, 1) := by decide +kernel
theorem dX7_depth_15 : decode cX7_depth 15 = .ok (.getfield 22, 3) := by decide +kernel
theorem dX7_depth_18 : decode cX7_depth 18 = .ok (.iload_n 1, 1) := by decide +kernel
theorem dX7_depth_19 : decode cX7_depth 19 = .ok (.iaload, 1) := by decide +kernel
theorem dX7_depth_20 : decode cX7_depth 20 = .ok (.ireturn, 1) := by decide +kernel
theorem dX7_partner_0 : decode cX7_partner 0 = .ok (.aload_n 0, 1) := by decide +kernel
theorem dX7_partner_1 : decode cX7_partner 1 = .ok (.iload_n 1, 1) := by decide +kernel
theorem dX7_partner_2 : decode cX7_partner 2 = .ok (.invokevirtual 99, 3) := by decide +kernel
theorem dX7_partner_5 : decode cX7_partner 5 = .ok (.ifCond .ne 5, 3) := by decide +kernel
theorem dX7_partner_8 : decode cX7_partner 8 = .ok (.iconst (-1), 1) := by decide +kernel
theorem dX7_partner_9 : decode cX7_partner 9 = .ok (.ireturn, 1) := by decide +kernel
theorem dX7_partner_10 : decode cX7_partner 10 = .ok (.aload_n 0, 1) := by decide +kernel
theorem dX7_partner_11 : decode cX7_partner 11 = .ok (.invokevirtual 126, 3) := by decide +kernel
theorem dX7_partner_14 : decode cX7_partner 14 = .ok (.aload_n 0, 1) := by decide +kernel
theorem dX7_partner_15 : decode cX7_partner 15 = .ok (.getfield 19, 3) := by decide +kernel
theorem dX7_partner_18 : decode cX7_partner 18 = .ok (.iload_n 1, 1) := by decide +kernel
theorem dX7_partner_19 : decode cX7_partner 19 = .ok (.iaload, 1) := by decide +kernel
theorem dX7_partner_20 : decode cX7_partner 20 = .ok (.iconst 3, 1) := by decide +kernel
theorem dX7_partner_21 : decode cX7_partner 21 = .ok (.if_icmp .eq 13, 3) := by decide +kernel
theorem dX7_partner_24 : decode cX7_partner 24 = .ok (.aload_n 0, 1) := by decide +kernel
theorem dX7_partner_25 : decode cX7_partner 25 = .ok (.getfield 19, 3) := by decide +kernel
theorem dX7_partner_28 : decode cX7_partner 28 = .ok (.iload_n 1, 1) := by decide +kernel
theorem dX7_partner_29 : decode cX7_partner 29 = .ok (.iaload, 1) := by decide +kernel
theorem dX7_partner_30 : decode cX7_partner 30 = .ok (.iconst 4, 1) := by decide +kernel
theorem dX7_partner_31 : decode cX7_partner 31 = .ok (.if_icmp .ne 12, 3) := by decide +kernel
theorem dX7_partner_34 : decode cX7_partner 34 = .ok (.aload_n 0, 1) := by decide +kernel
theorem dX7_partner_35 : decode cX7_partner 35 = .ok (.getfield 25, 3) := by decide +kernel
theorem dX7_partner_38 : decode cX7_partner 38 = .ok (.iload_n 1, 1) := by decide +kernel
theorem dX7_partner_39 : decode cX7_partner 39 = .ok (.iaload, 1) := by decide +kernel
theorem dX7_partner_40 : decode cX7_partner 40 = .ok (.goto 5, 3) := by decide +kernel
theorem dX7_partner_43 : decode cX7_partner 43 = .ok (.bipush (-2), 2) := by decide +kernel
theorem dX7_partner_45 : decode cX7_partner 45 = .ok (.ireturn, 1) := by decide +kernel
theorem dX7_wrong_0 : decode cX7_wrong 0 = .ok (.iload_n 1, 1) := by decide +kernel
theorem dX7_wrong_1 : decode cX7_wrong 1 = .ok (.iconst (-1), 1) := by decide +kernel
theorem dX7_wrong_2 : decode cX7_wrong 2 = .ok (.if_icmp .lt 13, 3) := by decide +kernel
theorem dX7_wrong_5 : decode cX7_wrong 5 = .ok (.iload_n 2, 1) := by decide +kernel
theorem dX7_wrong_6 : decode cX7_wrong 6 = .ok (.i2l, 1) := by decide +kernel
theorem dX7_wrong_7 : decode cX7_wrong 7 = .ok (.lconst 0, 1) := by decide +kernel
theorem dX7_wrong_8 : decode cX7_wrong 8 = .ok (.lconst 1, 1) := by decide +kernel
theorem dX7_wrong_9 : decode cX7_wrong 9 = .ok (.invokestatic 50, 3) := by decide +kernel
theorem dX7_wrong_12 : decode cX7_wrong 12 = .ok (.ifCond .ne 5, 3) := by decide +kernel
theorem dX7_wrong_15 : decode cX7_wrong 15 = .ok (.iconst (-1), 1) := by decide +kernel
theorem dX7_wrong_16 : decode cX7_wrong 16 = .ok (.ireturn, 1) := by decide +kernel
theorem dX7_wrong_17 : decode cX7_wrong 17 = .ok (.aload_n 0, 1) := by decide +kernel
theorem dX7_wrong_18 : decode cX7_wrong 18 = .ok (.invokevirtual 126, 3) := by decide +kernel
theorem dX7_wrong_21 : decode cX7_wrong 21 = .ok (.iload_n 1, 1) := by decide +kernel
theorem dX7_wrong_22 : decode cX7_wrong 22 = .ok (.ifCond .ge 10, 3) := by decide +kernel
theorem dX7_wrong_25 : decode cX7_wrong 25 = .ok (.aload_n 0, 1) := by decide +kernel
theorem dX7_wrong_26 : decode cX7_wrong 26 = .ok (.getfield 102, 3) := by decide +kernel
theorem dX7_wrong_29 : decode cX7_wrong 29 = .ok (.goto 35, 3) := by decide +kernel
theorem dX7_wrong_32 : decode cX7_wrong 32 = .ok (.iload_n 1, 1) := by decide +kernel
theorem dX7_wrong_33 : decode cX7_wrong 33 = .ok (.aload_n 0, 1) := by decide +kernel
theorem dX7_wrong_34 : decode cX7_wrong 34 = .ok (.getfield 102, 3) := by decide +kernel
theorem dX7_wrong_37 : decode cX7_wrong 37 = .ok (.if_icmp .lt 8, 3) := by decide +kernel
theorem dX7_wrong_40 : decode cX7_wrong 40 = .ok (.bipush (-4), 2) := by decide +kernel
theorem dX7_wrong_42 : decode cX7_wrong 42 = .ok (.goto 22, 3) := by decide +kernel
theorem dX7_wrong_45 : decode cX7_wrong 45 = .ok (.iload_n 2, 1) := by decide +kernel
theorem dX7_wrong_46 : decode cX7_wrong 46 = .ok (.ifCond .ne 12, 3) := by decide +kernel
theorem dX7_wrong_49 : decode cX7_wrong 49 = .ok (.aload_n 0, 1) := by decide +kernel
theorem dX7_wrong_50 : decode cX7_wrong 50 = .ok (.getfield 28, 3) := by decide +kernel
theorem dX7_wrong_53 : decode cX7_wrong 53 = .ok (.iload_n 1, 1) := by decide +kernel
theorem dX7_wrong_54 : decode cX7_wrong 54 = .ok (.iaload, 1) := by decide +kernel
theorem dX7_wrong_55 : decode cX7_wrong 55 = .ok (.goto 9, 3) := by decide +kernel
theorem dX7_wrong_58 : decode cX7_wrong 58 = .ok (.aload_n 0, 1) := by decide +kernel
theorem dX7_wrong_59 : decode cX7_wrong 59 = .ok (.getfield 31, 3) := by decide +kernel
theorem dX7_wrong_62 : decode cX7_wrong 62 = .ok (.iload_n 1, 1) := by decide +kernel
theorem dX7_wrong_63 : decode cX7_wrong 63 = .ok (.iaload, 1) := by decide +kernel
theorem dX7_wrong_64 : decode cX7_wrong 64 = .ok (.ireturn, 1) := by decide +kernel
theorem dX7_quote_0 : decode cX7_quote 0 = .ok (.iload_n 1, 1) := by decide +kernel
theorem dX7_quote_1 : decode cX7_quote 1 = .ok (.iconst (-1), 1) := by decide +kernel
theorem dX7_quote_2 : decode cX7_quote 2 = .ok (.if_icmp .lt 15, 3) := by decide +kernel
theorem dX7_quote_5 : decode cX7_quote 5 = .ok (.iload_n 2, 1) := by decide +kernel
theorem dX7_quote_6 : decode cX7_quote 6 = .ok (.i2l, 1) := by decide +kernel
theorem dX7_quote_7 : decode cX7_quote 7 = .ok (.lconst 0, 1) := by decide +kernel
theorem dX7_quote_8 : decode cX7_quote 8 = .ok (.ldc2_w 129, 3) := by decide +kernel
theorem dX7_quote_11 : decode cX7_quote 11 = .ok (.invokestatic 50, 3) := by decide +kernel
theorem dX7_quote_14 : decode cX7_quote 14 = .ok (.ifCond .ne 5, 3) := by decide +kernel
theorem dX7_quote_17 : decode cX7_quote 17 = .ok (.iconst (-1), 1) := by decide +kernel
theorem dX7_quote_18 : decode cX7_quote 18 = .ok (.ireturn, 1) := by decide +kernel
theorem dX7_quote_19 : decode cX7_quote 19 = .ok (.aload_n 0, 1) := by decide +kernel
theorem dX7_quote_20 : decode cX7_quote 20 = .ok (.invokevirtual 126, 3) := by decide +kernel
theorem dX7_quote_23 : decode cX7_quote 23 = .ok (.iload_n 1, 1) := by decide +kernel
theorem dX7_quote_24 : decode cX7_quote 24 = .ok (.ifCond .lt 11, 3) := by decide +kernel
theorem dX7_quote_27 : decode cX7_quote 27 = .ok (.iload_n 1, 1) := by decide +kernel
theorem dX7_quote_28 : decode cX7_quote 28 = .ok (.aload_n 0, 1) := by decide +kernel
theorem dX7_quote_29 : decode cX7_quote 29 = .ok (.getfield 105, 3) := by decide +kernel
theorem dX7_quote_32 : decode cX7_quote 32 = .ok (.if_icmp .lt 17, 3) := by decide +kernel
theorem dX7_quote_35 : decode cX7_quote 35 = .ok (.iload_n 1, 1) := by decide +kernel
theorem dX7_quote_36 : decode cX7_quote 36 = .ok (.ifCond .ge 10, 3) := by decide +kernel
theorem dX7_quote_39 : decode cX7_quote 39 = .ok (.aload_n 0, 1) := by decide +kernel
theorem dX7_quote_40 : decode cX7_quote 40 = .ok (.getfield 105, 3) := by decide +kernel
theorem dX7_quote_43 : decode cX7_quote 43 = .ok (.goto 5, 3) := by decide +kernel
theorem dX7_quote_46 : decode cX7_quote 46 = .ok (.bipush (-4), 2) := by decide +kernel
theorem dX7_quote_48 : decode cX7_quote 48 = .ok (.ireturn, 1) := by decide +kernel
theorem dX7_quote_49 : decode cX7_quote 49 = .ok (.aload_n 0, 1) := by decide +kernel
theorem dX7_quote_50 : decode cX7_quote 50 = .ok (.getfield 34, 3) := by decide +kernel
theorem dX7_quote_53 : decode cX7_quote 53 = .ok (.iload_n 1, 1) := by decide +kernel
theorem dX7_quote_54 : decode cX7_quote 54 = .ok (.iaload, 1) := by decide +kernel
theorem dX7_quote_55 : decode cX7_quote 55 = .ok (.istore_n 3, 1) := by decide +kernel
theorem dX7_quote_56 : decode cX7_quote 56 = .ok (.aload_n 0, 1) := by decide +kernel
theorem dX7_quote_57 : decode cX7_quote 57 = .ok (.getfield 25, 3) := by decide +kernel
theorem dX7_quote_60 : decode cX7_quote 60 = .ok (.iload_n 3, 1) := by decide +kernel
theorem dX7_quote_61 : decode cX7_quote 61 = .ok (.iaload, 1) := by decide +kernel
theorem dX7_quote_62 : decode cX7_quote 62 = .ok (.bipush (-4), 2) := by decide +kernel
theorem dX7_quote_64 : decode cX7_quote 64 = .ok (.if_icmp .ne 13, 3) := by decide +kernel
theorem dX7_quote_67 : decode cX7_quote 67 = .ok (.aload_n 0, 1) := by decide +kernel
theorem dX7_quote_68 : decode cX7_quote 68 = .ok (.getfield 13, 3) := by decide +kernel
theorem dX7_quote_71 : decode cX7_quote 71 = .ok (.bipush 120, 2) := by decide +kernel
theorem dX7_quote_73 : decode cX7_quote 73 = .ok (.iaload, 1) := by decide +kernel
theorem dX7_quote_74 : decode cX7_quote 74 = .ok (.goto 9, 3) := by decide +kernel
theorem dX7_quote_77 : decode cX7_quote 77 = .ok (.aload_n 0, 1) := by decide +kernel
theorem dX7_quote_78 : decode cX7_quote 78 = .ok (.getfield 25, 3) := by decide +kernel
theorem dX7_quote_81 : decode cX7_quote 81 = .ok (.iload_n 3, 1) := by decide +kernel
theorem dX7_quote_82 : decode cX7_quote 82 = .ok (.iaload, 1) := by decide +kernel
theorem dX7_quote_83 : decode cX7_quote 83 = .ok (.istore 4, 2) := by decide +kernel
theorem dX7_quote_85 : decode cX7_quote 85 = .ok (.iconst 0, 1) := by decide +kernel
theorem dX7_quote_86 : decode cX7_quote 86 = .ok (.istore 5, 2) := by decide +kernel
theorem dX7_quote_88 : decode cX7_quote 88 = .ok (.iload_n 3, 1) := by decide +kernel
theorem dX7_quote_89 : decode cX7_quote 89 = .ok (.iconst 1, 1) := by decide +kernel
theorem dX7_quote_90 : decode cX7_quote 90 = .ok (.iadd, 1) := by decide +kernel
theorem dX7_quote_91 : decode cX7_quote 91 = .ok (.istore 6, 2) := by decide +kernel
theorem dX7_quote_93 : decode cX7_quote 93 = .ok (.iload 6, 2) := by decide +kernel
theorem dX7_quote_95 : decode cX7_quote 95 = .ok (.iload 4, 2) := by decide +kernel
theorem dX7_quote_97 : decode cX7_quote 97 = .ok (.if_icmp .ge 128, 3) := by decide +kernel
theorem dX7_quote_100 : decode cX7_quote 100 = .ok (.iload_n 2, 1) := by decide +kernel
theorem dX7_quote_101 : decode cX7_quote 101 = .ok (.iconst 3, 1) := by decide +kernel
theorem dX7_quote_102 : decode cX7_quote 102 = .ok (.if_icmp .ne 21, 3) := by decide +kernel
theorem dX7_quote_105 : decode cX7_quote 105 = .ok (.aload_n 0, 1) := by decide +kernel
theorem dX7_quote_106 : decode cX7_quote 106 = .ok (.getfield 19, 3) := by decide +kernel
theorem dX7_quote_109 : decode cX7_quote 109 = .ok (.iload 6, 2) := by decide +kernel
theorem dX7_quote_111 : decode cX7_quote 111 = .ok (.iaload, 1) := by decide +kernel
theorem dX7_quote_112 : decode cX7_quote 112 = .ok (.ifCond .ne 7, 3) := by decide +kernel
theorem dX7_quote_115 : decode cX7_quote 115 = .ok (.iconst 1, 1) := by decide +kernel
theorem dX7_quote_116 : decode cX7_quote 116 = .ok (.goto 86, 3) := by decide +kernel
theorem dX7_quote_119 : decode cX7_quote 119 = .ok (.iconst 0, 1) := by decide +kernel
theorem dX7_quote_120 : decode cX7_quote 120 = .ok (.goto 82, 3) := by decide +kernel
theorem dX7_quote_123 : decode cX7_quote 123 = .ok (.iload_n 2, 1) := by decide +kernel
theorem dX7_quote_124 : decode cX7_quote 124 = .ok (.iconst 4, 1) := by decide +kernel
theorem dX7_quote_125 : decode cX7_quote 125 = .ok (.if_icmp .ne 37, 3) := by decide +kernel
theorem dX7_quote_128 : decode cX7_quote 128 = .ok (.aload_n 0, 1) := by decide +kernel
theorem dX7_quote_129 : decode cX7_quote 129 = .ok (.getfield 19, 3) := by decide +kernel
theorem dX7_quote_132 : decode cX7_quote 132 = .ok (.iload 6, 2) := by decide +kernel
theorem dX7_quote_134 : decode cX7_quote 134 = .ok (.iaload, 1) := by decide +kernel
theorem dX7_quote_135 : decode cX7_quote 135 = .ok (.ifCond .ne 23, 3) := by decide +kernel
theorem dX7_quote_138 : decode cX7_quote 138 = .ok (.aload_n 0, 1) := by decide +kernel
theorem dX7_quote_139 : decode cX7_quote 139 = .ok (.getfield 22, 3) := by decide +kernel
theorem dX7_quote_142 : decode cX7_quote 142 = .ok (.iload 6, 2) := by decide +kernel
theorem dX7_quote_144 : decode cX7_quote 144 = .ok (.iaload, 1) := by decide +kernel
theorem dX7_quote_145 : decode cX7_quote 145 = .ok (.aload_n 0, 1) := by decide +kernel
theorem dX7_quote_146 : decode cX7_quote 146 = .ok (.getfield 22, 3) := by decide +kernel
theorem dX7_quote_149 : decode cX7_quote 149 = .ok (.iload_n 3, 1) := by decide +kernel
theorem dX7_quote_150 : decode cX7_quote 150 = .ok (.iaload, 1) := by decide +kernel
theorem dX7_quote_151 : decode cX7_quote 151 = .ok (.if_icmp .ne 7, 3) := by decide +kernel
theorem dX7_quote_154 : decode cX7_quote 154 = .ok (.iconst 1, 1) := by decide +kernel
theorem dX7_quote_155 : decode cX7_quote 155 = .ok (.goto 47, 3) := by decide +kernel
theorem dX7_quote_158 : decode cX7_quote 158 = .ok (.iconst 0, 1) := by decide +kernel
theorem dX7_quote_159 : decode cX7_quote 159 = .ok (.goto 43, 3) := by decide +kernel
theorem dX7_quote_162 : decode cX7_quote 162 = .ok (.iload_n 2, 1) := by decide +kernel
theorem dX7_quote_163 : decode cX7_quote 163 = .ok (.iconst 5, 1) := by decide +kernel
theorem dX7_quote_164 : decode cX7_quote 164 = .ok (.if_icmp .ne 22, 3) := by decide +kernel
theorem dX7_quote_167 : decode cX7_quote 167 = .ok (.aload_n 0, 1) := by decide +kernel
theorem dX7_quote_168 : decode cX7_quote 168 = .ok (.getfield 19, 3) := by decide +kernel
theorem dX7_quote_171 : decode cX7_quote 171 = .ok (.iload 6, 2) := by decide +kernel
theorem dX7_quote_173 : decode cX7_quote 173 = .ok (.iaload, 1) := by decide +kernel
theorem dX7_quote_174 : decode cX7_quote 174 = .ok (.iconst 2, 1) := by decide +kernel
theorem dX7_quote_175 : decode cX7_quote 175 = .ok (.if_icmp .ne 7, 3) := by decide +kernel
theorem dX7_quote_178 : decode cX7_quote 178 = .ok (.iconst 1, 1) := by decide +kernel
theorem dX7_quote_179 : decode cX7_quote 179 = .ok (.goto 23, 3) := by decide +kernel
theorem dX7_quote_182 : decode cX7_quote 182 = .ok (.iconst 0, 1) := by decide +kernel
theorem dX7_quote_183 : decode cX7_quote 183 = .ok (.goto 19, 3) := by decide +kernel
theorem dX7_quote_186 : decode cX7_quote 186 = .ok (.aload_n 0, 1) := by decide +kernel
theorem dX7_quote_187 : decode cX7_quote 187 = .ok (.getfield 19, 3) := by decide +kernel
theorem dX7_quote_190 : decode cX7_quote 190 = .ok (.iload 6, 2) := by decide +kernel
theorem dX7_quote_192 : decode cX7_quote 192 = .ok (.iaload, 1) := by decide +kernel
theorem dX7_quote_193 : decode cX7_quote 193 = .ok (.iconst 3, 1) := by decide +kernel
theorem dX7_quote_194 : decode cX7_quote 194 = .ok (.if_icmp .ne 7, 3) := by decide +kernel
theorem dX7_quote_197 : decode cX7_quote 197 = .ok (.iconst 1, 1) := by decide +kernel
theorem dX7_quote_198 : decode cX7_quote 198 = .ok (.goto 4, 3) := by decide +kernel
theorem dX7_quote_201 : decode cX7_quote 201 = .ok (.iconst 0, 1) := by decide +kernel
theorem dX7_quote_202 : decode cX7_quote 202 = .ok (.istore 7, 2) := by decide +kernel
theorem dX7_quote_204 : decode cX7_quote 204 = .ok (.iload 5, 2) := by decide +kernel
theorem dX7_quote_206 : decode cX7_quote 206 = .ok (.iload 7, 2) := by decide +kernel
theorem dX7_quote_208 : decode cX7_quote 208 = .ok (.ifCond .eq 7, 3) := by decide +kernel
theorem dX7_quote_211 : decode cX7_quote 211 = .ok (.iconst 1, 1) := by decide +kernel
theorem dX7_quote_212 : decode cX7_quote 212 = .ok (.goto 4, 3) := by decide +kernel
theorem dX7_quote_215 : decode cX7_quote 215 = .ok (.iconst 0, 1) := by decide +kernel
theorem dX7_quote_216 : decode cX7_quote 216 = .ok (.iadd, 1) := by decide +kernel
theorem dX7_quote_217 : decode cX7_quote 217 = .ok (.istore 5, 2) := by decide +kernel
theorem dX7_quote_219 : decode cX7_quote 219 = .ok (.iinc 6 1, 3) := by decide +kernel
theorem dX7_quote_222 : decode cX7_quote 222 = .ok (.goto (-129), 3) := by decide +kernel
theorem dX7_quote_225 : decode cX7_quote 225 = .ok (.iload_n 2, 1) := by decide +kernel
theorem dX7_quote_226 : decode cX7_quote 226 = .ok (.ifCond .ne 7, 3) := by decide +kernel
theorem dX7_quote_229 : decode cX7_quote 229 = .ok (.iload_n 3, 1) := by decide +kernel
theorem dX7_quote_230 : decode cX7_quote 230 = .ok (.goto 33, 3) := by decide +kernel
theorem dX7_quote_233 : decode cX7_quote 233 = .ok (.iload_n 2, 1) := by decide +kernel
theorem dX7_quote_234 : decode cX7_quote 234 = .ok (.iconst 1, 1) := by decide +kernel
theorem dX7_quote_235 : decode cX7_quote 235 = .ok (.if_icmp .ne 12, 3) := by decide +kernel
theorem dX7_quote_238 : decode cX7_quote 238 = .ok (.aload_n 0, 1) := by decide +kernel
theorem dX7_quote_239 : decode cX7_quote 239 = .ok (.getfield 25, 3) := by decide +kernel
theorem dX7_quote_242 : decode cX7_quote 242 = .ok (.iload_n 3, 1) := by decide +kernel
theorem dX7_quote_243 : decode cX7_quote 243 = .ok (.iaload, 1) := by decide +kernel
theorem dX7_quote_244 : decode cX7_quote 244 = .ok (.goto 19, 3) := by decide +kernel
theorem dX7_quote_247 : decode cX7_quote 247 = .ok (.iload_n 2, 1) := by decide +kernel
theorem dX7_quote_248 : decode cX7_quote 248 = .ok (.iconst 2, 1) := by decide +kernel
theorem dX7_quote_249 : decode cX7_quote 249 = .ok (.if_icmp .ne 12, 3) := by decide +kernel
theorem dX7_quote_252 : decode cX7_quote 252 = .ok (.aload_n 0, 1) := by decide +kernel
theorem dX7_quote_253 : decode cX7_quote 253 = .ok (.getfield 22, 3) := by decide +kernel
theorem dX7_quote_256 : decode cX7_quote 256 = .ok (.iload_n 3, 1) := by decide +kernel
theorem dX7_quote_257 : decode cX7_quote 257 = .ok (.iaload, 1) := by decide +kernel
theorem dX7_quote_258 : decode cX7_quote 258 = .ok (.goto 5, 3) := by decide +kernel
theorem dX7_quote_261 : decode cX7_quote 261 = .ok (.iload 5, 2) := by decide +kernel
theorem dX7_quote_263 : decode cX7_quote 263 = .ok (.ireturn, 1) := by decide +kernel
theorem dX7_said_0 : decode cX7_said 0 = .ok (.iload_n 1, 1) := by decide +kernel
theorem dX7_said_1 : decode cX7_said 1 = .ok (.i2l, 1) := by decide +kernel
theorem dX7_said_2 : decode cX7_said 2 = .ok (.lconst 0, 1) := by decide +kernel
theorem dX7_said_3 : decode cX7_said 3 = .ok (.ldc2_w 129, 3) := by decide +kernel
theorem dX7_said_6 : decode cX7_said 6 = .ok (.invokestatic 50, 3) := by decide +kernel
theorem dX7_said_9 : decode cX7_said 9 = .ok (.ifCond .ne 5, 3) := by decide +kernel
theorem dX7_said_12 : decode cX7_said 12 = .ok (.iconst (-1), 1) := by decide +kernel
theorem dX7_said_13 : decode cX7_said 13 = .ok (.ireturn, 1) := by decide +kernel
theorem dX7_said_14 : decode cX7_said 14 = .ok (.aload_n 0, 1) := by decide +kernel
theorem dX7_said_15 : decode cX7_said 15 = .ok (.invokevirtual 126, 3) := by decide +kernel
theorem dX7_said_18 : decode cX7_said 18 = .ok (.iconst 0, 1) := by decide +kernel
theorem dX7_said_19 : decode cX7_said 19 = .ok (.istore_n 2, 1) := by decide +kernel
theorem dX7_said_20 : decode cX7_said 20 = .ok (.iconst 0, 1) := by decide +kernel
theorem dX7_said_21 : decode cX7_said 21 = .ok (.istore_n 3, 1) := by decide +kernel
theorem dX7_said_22 : decode cX7_said 22 = .ok (.iload_n 3, 1) := by decide +kernel
theorem dX7_said_23 : decode cX7_said 23 = .ok (.aload_n 0, 1) := by decide +kernel
theorem dX7_said_24 : decode cX7_said 24 = .ok (.getfield 13, 3) := by decide +kernel
theorem dX7_said_27 : decode cX7_said 27 = .ok (.bipush 120, 2) := by decide +kernel
theorem dX7_said_29 : decode cX7_said 29 = .ok (.iaload, 1) := by decide +kernel
theorem dX7_said_30 : decode cX7_said 30 = .ok (.if_icmp .ge 36, 3) := by decide +kernel
theorem dX7_said_33 : decode cX7_said 33 = .ok (.iload_n 2, 1) := by decide +kernel
theorem dX7_said_34 : decode cX7_said 34 = .ok (.aload_n 0, 1) := by decide +kernel
theorem dX7_said_35 : decode cX7_said 35 = .ok (.getfield 19, 3) := by decide +kernel
theorem dX7_said_38 : decode cX7_said 38 = .ok (.iload_n 3, 1) := by decide +kernel
theorem dX7_said_39 : decode cX7_said 39 = .ok (.iaload, 1) := by decide +kernel
theorem dX7_said_40 : decode cX7_said 40 = .ok (.ifCond .ne 17, 3) := by decide +kernel
theorem dX7_said_43 : decode cX7_said 43 = .ok (.aload_n 0, 1) := by decide +kernel
theorem dX7_said_44 : decode cX7_said 44 = .ok (.getfield 22, 3) := by decide +kernel
theorem dX7_said_47 : decode cX7_said 47 = .ok (.iload_n 3, 1) := by decide +kernel
theorem dX7_said_48 : decode cX7_said 48 = .ok (.iaload, 1) := by decide +kernel
theorem dX7_said_49 : decode cX7_said 49 = .ok (.iload_n 1, 1) := by decide +kernel
theorem dX7_said_50 : decode cX7_said 50 = .ok (.if_icmp .ne 7, 3) := by decide +kernel
theorem dX7_said_53 : decode cX7_said 53 = .ok (.iconst 1, 1) := by decide +kernel
theorem dX7_said_54 : decode cX7_said 54 = .ok (.goto 4, 3) := by decide +kernel
theorem dX7_said_57 : decode cX7_said 57 = .ok (.iconst 0, 1) := by decide +kernel
theorem dX7_said_58 : decode cX7_said 58 = .ok (.iadd, 1) := by decide +kernel
theorem dX7_said_59 : decode cX7_said 59 = .ok (.istore_n 2, 1) := by decide +kernel
theorem dX7_said_60 : decode cX7_said 60 = .ok (.iinc 3 1, 3) := by decide +kernel
theorem dX7_said_63 : decode cX7_said 63 = .ok (.goto (-41), 3) := by decide +kernel
theorem dX7_said_66 : decode cX7_said 66 = .ok (.iload_n 2, 1) := by decide +kernel
theorem dX7_said_67 : decode cX7_said 67 = .ok (.ireturn, 1) := by decide +kernel
theorem dX7_paragraph_0 : decode cX7_paragraph 0 = .ok (.iload_n 1, 1) := by decide +kernel
theorem dX7_paragraph_1 : decode cX7_paragraph 1 = .ok (.iconst (-1), 1) := by decide +kernel
theorem dX7_paragraph_2 : decode cX7_paragraph 2 = .ok (.if_icmp .lt 15, 3) := by decide +kernel
theorem dX7_paragraph_5 : decode cX7_paragraph 5 = .ok (.iload_n 2, 1) := by decide +kernel
theorem dX7_paragraph_6 : decode cX7_paragraph 6 = .ok (.i2l, 1) := by decide +kernel
theorem dX7_paragraph_7 : decode cX7_paragraph 7 = .ok (.lconst 0, 1) := by decide +kernel
theorem dX7_paragraph_8 : decode cX7_paragraph 8 = .ok (.ldc2_w 95, 3) := by decide +kernel
theorem dX7_paragraph_11 : decode cX7_paragraph 11 = .ok (.invokestatic 50, 3) := by decide +kernel
theorem dX7_paragraph_14 : decode cX7_paragraph 14 = .ok (.ifCond .ne 5, 3) := by decide +kernel
theorem dX7_paragraph_17 : decode cX7_paragraph 17 = .ok (.iconst (-1), 1) := by decide +kernel
theorem dX7_paragraph_18 : decode cX7_paragraph 18 = .ok (.ireturn, 1) := by decide +kernel
theorem dX7_paragraph_19 : decode cX7_paragraph 19 = .ok (.aload_n 0, 1) := by decide +kernel
theorem dX7_paragraph_20 : decode cX7_paragraph 20 = .ok (.invokevirtual 126, 3) := by decide +kernel
theorem dX7_paragraph_23 : decode cX7_paragraph 23 = .ok (.iconst 0, 1) := by decide +kernel
theorem dX7_paragraph_24 : decode cX7_paragraph 24 = .ok (.istore_n 3, 1) := by decide +kernel
theorem dX7_paragraph_25 : decode cX7_paragraph 25 = .ok (.iconst 0, 1) := by decide +kernel
theorem dX7_paragraph_26 : decode cX7_paragraph 26 = .ok (.istore 4, 2) := by decide +kernel
theorem dX7_paragraph_28 : decode cX7_paragraph 28 = .ok (.iconst 0, 1) := by decide +kernel
theorem dX7_paragraph_29 : decode cX7_paragraph 29 = .ok (.istore 5, 2) := by decide +kernel
theorem dX7_paragraph_31 : decode cX7_paragraph 31 = .ok (.iconst 0, 1) := by decide +kernel
theorem dX7_paragraph_32 : decode cX7_paragraph 32 = .ok (.istore 6, 2) := by decide +kernel
theorem dX7_paragraph_34 : decode cX7_paragraph 34 = .ok (.iload 6, 2) := by decide +kernel
theorem dX7_paragraph_36 : decode cX7_paragraph 36 = .ok (.aload_n 0, 1) := by decide +kernel
theorem dX7_paragraph_37 : decode cX7_paragraph 37 = .ok (.getfield 13, 3) := by decide +kernel
theorem dX7_paragraph_40 : decode cX7_paragraph 40 = .ok (.bipush 120, 2) := by decide +kernel
theorem dX7_paragraph_42 : decode cX7_paragraph 42 = .ok (.iaload, 1) := by decide +kernel
theorem dX7_paragraph_43 : decode cX7_paragraph 43 = .ok (.if_icmp .ge 91, 3) := by decide +kernel
theorem dX7_paragraph_46 : decode cX7_paragraph 46 = .ok (.aload_n 0, 1) := by decide +kernel
theorem dX7_paragraph_47 : decode cX7_paragraph 47 = .ok (.getfield 19, 3) := by decide +kernel
theorem dX7_paragraph_50 : decode cX7_paragraph 50 = .ok (.iload 6, 2) := by decide +kernel
theorem dX7_paragraph_52 : decode cX7_paragraph 52 = .ok (.iaload, 1) := by decide +kernel
theorem dX7_paragraph_53 : decode cX7_paragraph 53 = .ok (.iconst 2, 1) := by decide +kernel
theorem dX7_paragraph_54 : decode cX7_paragraph 54 = .ok (.if_icmp .ne 28, 3) := by decide +kernel
theorem dX7_paragraph_57 : decode cX7_paragraph 57 = .ok (.iinc 3 1, 3) := by decide +kernel
theorem dX7_paragraph_60 : decode cX7_paragraph 60 = .ok (.iload_n 3, 1) := by decide +kernel
theorem dX7_paragraph_61 : decode cX7_paragraph 61 = .ok (.iload_n 1, 1) := by decide +kernel
theorem dX7_paragraph_62 : decode cX7_paragraph 62 = .ok (.if_icmp .ne 13, 3) := by decide +kernel
theorem dX7_paragraph_65 : decode cX7_paragraph 65 = .ok (.aload_n 0, 1) := by decide +kernel
theorem dX7_paragraph_66 : decode cX7_paragraph 66 = .ok (.getfield 22, 3) := by decide +kernel
theorem dX7_paragraph_69 : decode cX7_paragraph 69 = .ok (.iload 6, 2) := by decide +kernel
theorem dX7_paragraph_71 : decode cX7_paragraph 71 = .ok (.iaload, 1) := by decide +kernel
theorem dX7_paragraph_72 : decode cX7_paragraph 72 = .ok (.goto 5, 3) := by decide +kernel
theorem dX7_paragraph_75 : decode cX7_paragraph 75 = .ok (.iload 4, 2) := by decide +kernel
theorem dX7_paragraph_77 : decode cX7_paragraph 77 = .ok (.istore 4, 2) := by decide +kernel
theorem dX7_paragraph_79 : decode cX7_paragraph 79 = .ok (.goto 49, 3) := by decide +kernel
theorem dX7_paragraph_82 : decode cX7_paragraph 82 = .ok (.iload_n 3, 1) := by decide +kernel
theorem dX7_paragraph_83 : decode cX7_paragraph 83 = .ok (.iload_n 1, 1) := by decide +kernel
theorem dX7_paragraph_84 : decode cX7_paragraph 84 = .ok (.if_icmp .ne 44, 3) := by decide +kernel
theorem dX7_paragraph_87 : decode cX7_paragraph 87 = .ok (.iload 5, 2) := by decide +kernel
theorem dX7_paragraph_89 : decode cX7_paragraph 89 = .ok (.iload_n 2, 1) := by decide +kernel
theorem dX7_paragraph_90 : decode cX7_paragraph 90 = .ok (.iconst 1, 1) := by decide +kernel
theorem dX7_paragraph_91 : decode cX7_paragraph 91 = .ok (.if_icmp .ne 13, 3) := by decide +kernel
theorem dX7_paragraph_94 : decode cX7_paragraph 94 = .ok (.aload_n 0, 1) := by decide +kernel
theorem dX7_paragraph_95 : decode cX7_paragraph 95 = .ok (.getfield 19, 3) := by decide +kernel
theorem dX7_paragraph_98 : decode cX7_paragraph 98 = .ok (.iload 6, 2) := by decide +kernel
theorem dX7_paragraph_100 : decode cX7_paragraph 100 = .ok (.iaload, 1) := by decide +kernel
theorem dX7_paragraph_101 : decode cX7_paragraph 101 = .ok (.ifCond .eq 19, 3) := by decide +kernel
theorem dX7_paragraph_104 : decode cX7_paragraph 104 = .ok (.iload_n 2, 1) := by decide +kernel
theorem dX7_paragraph_105 : decode cX7_paragraph 105 = .ok (.iconst 2, 1) := by decide +kernel
theorem dX7_paragraph_106 : decode cX7_paragraph 106 = .ok (.if_icmp .ne 18, 3) := by decide +kernel
theorem dX7_paragraph_109 : decode cX7_paragraph 109 = .ok (.aload_n 0, 1) := by decide +kernel
theorem dX7_paragraph_110 : decode cX7_paragraph 110 = .ok (.getfield 19, 3) := by decide +kernel
theorem dX7_paragraph_113 : decode cX7_paragraph 113 = .ok (.iload 6, 2) := by decide +kernel
theorem dX7_paragraph_115 : decode cX7_paragraph 115 = .ok (.iaload, 1) := by decide +kernel
theorem dX7_paragraph_116 : decode cX7_paragraph 116 = .ok (.iconst 5, 1) := by decide +kernel
theorem dX7_paragraph_117 : decode cX7_paragraph 117 = .ok (.if_icmp .ne 7, 3) := by decide +kernel
theorem dX7_paragraph_120 : decode cX7_paragraph 120 = .ok (.iconst 1, 1) := by decide +kernel
theorem dX7_paragraph_121 : decode cX7_paragraph 121 = .ok (.goto 4, 3) := by decide +kernel
theorem dX7_paragraph_124 : decode cX7_paragraph 124 = .ok (.iconst 0, 1) := by decide +kernel
theorem dX7_paragraph_125 : decode cX7_paragraph 125 = .ok (.iadd, 1) := by decide +kernel
theorem dX7_paragraph_126 : decode cX7_paragraph 126 = .ok (.istore 5, 2) := by decide +kernel
theorem dX7_paragraph_128 : decode cX7_paragraph 128 = .ok (.iinc 6 1, 3) := by decide +kernel
theorem dX7_paragraph_131 : decode cX7_paragraph 131 = .ok (.goto (-97), 3) := by decide +kernel
theorem dX7_paragraph_134 : decode cX7_paragraph 134 = .ok (.iload_n 1, 1) := by decide +kernel
theorem dX7_paragraph_135 : decode cX7_paragraph 135 = .ok (.ifCond .ge 9, 3) := by decide +kernel
theorem dX7_paragraph_138 : decode cX7_paragraph 138 = .ok (.iload_n 3, 1) := by decide +kernel
theorem dX7_paragraph_139 : decode cX7_paragraph 139 = .ok (.iconst 1, 1) := by decide +kernel
theorem dX7_paragraph_140 : decode cX7_paragraph 140 = .ok (.iadd, 1) := by decide +kernel
theorem dX7_paragraph_141 : decode cX7_paragraph 141 = .ok (.goto 24, 3) := by decide +kernel
theorem dX7_paragraph_144 : decode cX7_paragraph 144 = .ok (.iload_n 1, 1) := by decide +kernel
theorem dX7_paragraph_145 : decode cX7_paragraph 145 = .ok (.iload_n 3, 1) := by decide +kernel
theorem dX7_paragraph_146 : decode cX7_paragraph 146 = .ok (.if_icmp .le 8, 3) := by decide +kernel
theorem dX7_paragraph_149 : decode cX7_paragraph 149 = .ok (.bipush (-4), 2) := by decide +kernel
theorem dX7_paragraph_151 : decode cX7_paragraph 151 = .ok (.goto 14, 3) := by decide +kernel
theorem dX7_paragraph_154 : decode cX7_paragraph 154 = .ok (.iload_n 2, 1) := by decide +kernel
theorem dX7_paragraph_155 : decode cX7_paragraph 155 = .ok (.ifCond .ne 8, 3) := by decide +kernel
theorem dX7_paragraph_158 : decode cX7_paragraph 158 = .ok (.iload 4, 2) := by decide +kernel
theorem dX7_paragraph_160 : decode cX7_paragraph 160 = .ok (.goto 5, 3) := by decide +kernel
theorem dX7_paragraph_163 : decode cX7_paragraph 163 = .ok (.iload 5, 2) := by decide +kernel
theorem dX7_paragraph_165 : decode cX7_paragraph 165 = .ok (.ireturn, 1) := by decide +kernel
theorem dX7_at_0 : decode cX7_at 0 = .ok (.bipush 49, 2) := by decide +kernel
theorem dX7_at_2 : decode cX7_at 2 = .ok (.iload_n 0, 1) := by decide +kernel
theorem dX7_at_3 : decode cX7_at 3 = .ok (.imul, 1) := by decide +kernel
theorem dX7_at_4 : decode cX7_at 4 = .ok (.bipush 7, 2) := by decide +kernel
theorem dX7_at_6 : decode cX7_at 6 = .ok (.iload_n 1, 1) := by decide +kernel
theorem dX7_at_7 : decode cX7_at 7 = .ok (.imul, 1) := by decide +kernel
theorem dX7_at_8 : decode cX7_at 8 = .ok (.iadd, 1) := by decide +kernel
theorem dX7_at_9 : decode cX7_at 9 = .ok (.iload_n 2, 1) := by decide +kernel
theorem dX7_at_10 : decode cX7_at 10 = .ok (.iadd, 1) := by decide +kernel
theorem dX7_at_11 : decode cX7_at 11 = .ok (.ireturn, 1) := by decide +kernel
theorem dX7_stays_0 : decode cX7_stays 0 = .ok (.aload_n 0, 1) := by decide +kernel
theorem dX7_stays_1 : decode cX7_stays 1 = .ok (.getfield 13, 3) := by decide +kernel
theorem dX7_stays_4 : decode cX7_stays 4 = .ok (.iload_n 1, 1) := by decide +kernel
theorem dX7_stays_5 : decode cX7_stays 5 = .ok (.iaload, 1) := by decide +kernel
theorem dX7_stays_6 : decode cX7_stays 6 = .ok (.istore 6, 2) := by decide +kernel
theorem dX7_stays_8 : decode cX7_stays 8 = .ok (.iload_n 3, 1) := by decide +kernel
theorem dX7_stays_9 : decode cX7_stays 9 = .ok (.ifCond .le 38, 3) := by decide +kernel
theorem dX7_stays_12 : decode cX7_stays 12 = .ok (.iload 6, 2) := by decide +kernel
theorem dX7_stays_14 : decode cX7_stays 14 = .ok (.iload 4, 2) := by decide +kernel
theorem dX7_stays_16 : decode cX7_stays 16 = .ok (.iload 5, 2) := by decide +kernel
theorem dX7_stays_18 : decode cX7_stays 18 = .ok (.iload_n 2, 1) := by decide +kernel
theorem dX7_stays_19 : decode cX7_stays 19 = .ok (.iload_n 3, 1) := by decide +kernel
theorem dX7_stays_20 : decode cX7_stays 20 = .ok (.invokestatic 108, 3) := by decide +kernel
theorem dX7_stays_23 : decode cX7_stays 23 = .ok (.if_icmp .ne 21, 3) := by decide +kernel
theorem dX7_stays_26 : decode cX7_stays 26 = .ok (.aload_n 0, 1) := by decide +kernel
theorem dX7_stays_27 : decode cX7_stays 27 = .ok (.getfield 37, 3) := by decide +kernel
theorem dX7_stays_30 : decode cX7_stays 30 = .ok (.iload_n 1, 1) := by decide +kernel
theorem dX7_stays_31 : decode cX7_stays 31 = .ok (.iconst 1, 1) := by decide +kernel
theorem dX7_stays_32 : decode cX7_stays 32 = .ok (.iadd, 1) := by decide +kernel
theorem dX7_stays_33 : decode cX7_stays 33 = .ok (.iload_n 2, 1) := by decide +kernel
theorem dX7_stays_34 : decode cX7_stays 34 = .ok (.iload_n 3, 1) := by decide +kernel
theorem dX7_stays_35 : decode cX7_stays 35 = .ok (.iconst 1, 1) := by decide +kernel
theorem dX7_stays_36 : decode cX7_stays 36 = .ok (.isub, 1) := by decide +kernel
theorem dX7_stays_37 : decode cX7_stays 37 = .ok (.invokestatic 131, 3) := by decide +kernel
theorem dX7_stays_40 : decode cX7_stays 40 = .ok (.iaload, 1) := by decide +kernel
theorem dX7_stays_41 : decode cX7_stays 41 = .ok (.goto 5, 3) := by decide +kernel
theorem dX7_stays_44 : decode cX7_stays 44 = .ok (.ldc 135, 2) := by decide +kernel
theorem dX7_stays_46 : decode cX7_stays 46 = .ok (.ireturn, 1) := by decide +kernel
theorem dX7_stays_47 : decode cX7_stays 47 = .ok (.iload 6, 2) := by decide +kernel
theorem dX7_stays_49 : decode cX7_stays 49 = .ok (.invokestatic 54, 3) := by decide +kernel
theorem dX7_stays_52 : decode cX7_stays 52 = .ok (.ifCond .ne 33, 3) := by decide +kernel
theorem dX7_stays_55 : decode cX7_stays 55 = .ok (.aload_n 0, 1) := by decide +kernel
theorem dX7_stays_56 : decode cX7_stays 56 = .ok (.getfield 37, 3) := by decide +kernel
theorem dX7_stays_59 : decode cX7_stays 59 = .ok (.iload_n 1, 1) := by decide +kernel
theorem dX7_stays_60 : decode cX7_stays 60 = .ok (.iconst 1, 1) := by decide +kernel
theorem dX7_stays_61 : decode cX7_stays 61 = .ok (.iadd, 1) := by decide +kernel
theorem dX7_stays_62 : decode cX7_stays 62 = .ok (.iload_n 2, 1) := by decide +kernel
theorem dX7_stays_63 : decode cX7_stays 63 = .ok (.iload 6, 2) := by decide +kernel
theorem dX7_stays_65 : decode cX7_stays 65 = .ok (.bipush 124, 2) := by decide +kernel
theorem dX7_stays_67 : decode cX7_stays 67 = .ok (.if_icmp .ne 12, 3) := by decide +kernel
theorem dX7_stays_70 : decode cX7_stays 70 = .ok (.iload 5, 2) := by decide +kernel
theorem dX7_stays_72 : decode cX7_stays 72 = .ok (.iload_n 2, 1) := by decide +kernel
theorem dX7_stays_73 : decode cX7_stays 73 = .ok (.invokestatic 116, 3) := by decide +kernel
theorem dX7_stays_76 : decode cX7_stays 76 = .ok (.goto 4, 3) := by decide +kernel
theorem dX7_stays_79 : decode cX7_stays 79 = .ok (.iconst 0, 1) := by decide +kernel
theorem dX7_stays_80 : decode cX7_stays 80 = .ok (.invokestatic 131, 3) := by decide +kernel
theorem dX7_stays_83 : decode cX7_stays 83 = .ok (.iaload, 1) := by decide +kernel
theorem dX7_stays_84 : decode cX7_stays 84 = .ok (.ireturn, 1) := by decide +kernel
theorem dX7_stays_85 : decode cX7_stays 85 = .ok (.iload_n 2, 1) := by decide +kernel
theorem dX7_stays_86 : decode cX7_stays 86 = .ok (.ifCond .le 30, 3) := by decide +kernel
theorem dX7_stays_89 : decode cX7_stays 89 = .ok (.iload 6, 2) := by decide +kernel
theorem dX7_stays_91 : decode cX7_stays 91 = .ok (.iload 4, 2) := by decide +kernel
theorem dX7_stays_93 : decode cX7_stays 93 = .ok (.iload_n 2, 1) := by decide +kernel
theorem dX7_stays_94 : decode cX7_stays 94 = .ok (.invokestatic 119, 3) := by decide +kernel
theorem dX7_stays_97 : decode cX7_stays 97 = .ok (.if_icmp .ne 19, 3) := by decide +kernel
theorem dX7_stays_100 : decode cX7_stays 100 = .ok (.aload_n 0, 1) := by decide +kernel
theorem dX7_stays_101 : decode cX7_stays 101 = .ok (.getfield 37, 3) := by decide +kernel
theorem dX7_stays_104 : decode cX7_stays 104 = .ok (.iload_n 1, 1) := by decide +kernel
theorem dX7_stays_105 : decode cX7_stays 105 = .ok (.iconst 1, 1) := by decide +kernel
theorem dX7_stays_106 : decode cX7_stays 106 = .ok (.iadd, 1) := by decide +kernel
theorem dX7_stays_107 : decode cX7_stays 107 = .ok (.iload_n 2, 1) := by decide +kernel
theorem dX7_stays_108 : decode cX7_stays 108 = .ok (.iconst 1, 1) := by decide +kernel
theorem dX7_stays_109 : decode cX7_stays 109 = .ok (.isub, 1) := by decide +kernel
theorem dX7_stays_110 : decode cX7_stays 110 = .ok (.iconst 0, 1) := by decide +kernel
theorem dX7_stays_111 : decode cX7_stays 111 = .ok (.invokestatic 131, 3) := by decide +kernel
theorem dX7_stays_114 : decode cX7_stays 114 = .ok (.iaload, 1) := by decide +kernel
theorem dX7_stays_115 : decode cX7_stays 115 = .ok (.ireturn, 1) := by decide +kernel
theorem dX7_stays_116 : decode cX7_stays 116 = .ok (.iload_n 2, 1) := by decide +kernel
theorem dX7_stays_117 : decode cX7_stays 117 = .ok (.bipush 6, 2) := by decide +kernel
theorem dX7_stays_119 : decode cX7_stays 119 = .ok (.if_icmp .ge 32, 3) := by decide +kernel
theorem dX7_stays_122 : decode cX7_stays 122 = .ok (.iload 6, 2) := by decide +kernel
theorem dX7_stays_124 : decode cX7_stays 124 = .ok (.iload 4, 2) := by decide +kernel
theorem dX7_stays_126 : decode cX7_stays 126 = .ok (.iload_n 2, 1) := by decide +kernel
theorem dX7_stays_127 : decode cX7_stays 127 = .ok (.invokestatic 62, 3) := by decide +kernel
theorem dX7_stays_130 : decode cX7_stays 130 = .ok (.if_icmp .ne 21, 3) := by decide +kernel
theorem dX7_stays_133 : decode cX7_stays 133 = .ok (.aload_n 0, 1) := by decide +kernel
theorem dX7_stays_134 : decode cX7_stays 134 = .ok (.getfield 37, 3) := by decide +kernel
theorem dX7_stays_137 : decode cX7_stays 137 = .ok (.iload_n 1, 1) := by decide +kernel
theorem dX7_stays_138 : decode cX7_stays 138 = .ok (.iconst 1, 1) := by decide +kernel
theorem dX7_stays_139 : decode cX7_stays 139 = .ok (.iadd, 1) := by decide +kernel
theorem dX7_stays_140 : decode cX7_stays 140 = .ok (.iload_n 2, 1) := by decide +kernel
theorem dX7_stays_141 : decode cX7_stays 141 = .ok (.iconst 1, 1) := by decide +kernel
theorem dX7_stays_142 : decode cX7_stays 142 = .ok (.iadd, 1) := by decide +kernel
theorem dX7_stays_143 : decode cX7_stays 143 = .ok (.iconst 0, 1) := by decide +kernel
theorem dX7_stays_144 : decode cX7_stays 144 = .ok (.invokestatic 131, 3) := by decide +kernel
theorem dX7_stays_147 : decode cX7_stays 147 = .ok (.iaload, 1) := by decide +kernel
theorem dX7_stays_148 : decode cX7_stays 148 = .ok (.goto 5, 3) := by decide +kernel
theorem dX7_stays_151 : decode cX7_stays 151 = .ok (.ldc 135, 2) := by decide +kernel
theorem dX7_stays_153 : decode cX7_stays 153 = .ok (.ireturn, 1) := by decide +kernel
theorem dX7_becomes_0 : decode cX7_becomes 0 = .ok (.aload_n 0, 1) := by decide +kernel
theorem dX7_becomes_1 : decode cX7_becomes 1 = .ok (.getfield 13, 3) := by decide +kernel
theorem dX7_becomes_4 : decode cX7_becomes 4 = .ok (.iload_n 1, 1) := by decide +kernel
theorem dX7_becomes_5 : decode cX7_becomes 5 = .ok (.iaload, 1) := by decide +kernel
theorem dX7_becomes_6 : decode cX7_becomes 6 = .ok (.invokestatic 54, 3) := by decide +kernel
theorem dX7_becomes_9 : decode cX7_becomes 9 = .ok (.ifCond .eq 44, 3) := by decide +kernel
theorem dX7_becomes_12 : decode cX7_becomes 12 = .ok (.iload 4, 2) := by decide +kernel
theorem dX7_becomes_14 : decode cX7_becomes 14 = .ok (.ifCond .ne 7, 3) := by decide +kernel
theorem dX7_becomes_17 : decode cX7_becomes 17 = .ok (.iconst 1, 1) := by decide +kernel
theorem dX7_becomes_18 : decode cX7_becomes 18 = .ok (.goto 4, 3) := by decide +kernel
theorem dX7_becomes_21 : decode cX7_becomes 21 = .ok (.iconst 0, 1) := by decide +kernel
theorem dX7_becomes_22 : decode cX7_becomes 22 = .ok (.iload_n 3, 1) := by decide +kernel
theorem dX7_becomes_23 : decode cX7_becomes 23 = .ok (.ifCond .le 7, 3) := by decide +kernel
theorem dX7_becomes_26 : decode cX7_becomes 26 = .ok (.iconst 1, 1) := by decide +kernel
theorem dX7_becomes_27 : decode cX7_becomes 27 = .ok (.goto 4, 3) := by decide +kernel
theorem dX7_becomes_30 : decode cX7_becomes 30 = .ok (.iconst 0, 1) := by decide +kernel
theorem dX7_becomes_31 : decode cX7_becomes 31 = .ok (.if_icmp .ne 22, 3) := by decide +kernel
theorem dX7_becomes_34 : decode cX7_becomes 34 = .ok (.iload_n 2, 1) := by decide +kernel
theorem dX7_becomes_35 : decode cX7_becomes 35 = .ok (.iload 4, 2) := by decide +kernel
theorem dX7_becomes_37 : decode cX7_becomes 37 = .ok (.iadd, 1) := by decide +kernel
theorem dX7_becomes_38 : decode cX7_becomes 38 = .ok (.i2l, 1) := by decide +kernel
theorem dX7_becomes_39 : decode cX7_becomes 39 = .ok (.lconst 0, 1) := by decide +kernel
theorem dX7_becomes_40 : decode cX7_becomes 40 = .ok (.ldc2_w 129, 3) := by decide +kernel
theorem dX7_becomes_43 : decode cX7_becomes 43 = .ok (.invokestatic 50, 3) := by decide +kernel
theorem dX7_becomes_46 : decode cX7_becomes 46 = .ok (.ifCond .eq 7, 3) := by decide +kernel
theorem dX7_becomes_49 : decode cX7_becomes 49 = .ok (.iconst 1, 1) := by decide +kernel
theorem dX7_becomes_50 : decode cX7_becomes 50 = .ok (.goto 4, 3) := by decide +kernel
theorem dX7_becomes_53 : decode cX7_becomes 53 = .ok (.iconst 0, 1) := by decide +kernel
theorem dX7_becomes_54 : decode cX7_becomes 54 = .ok (.istore 5, 2) := by decide +kernel
theorem dX7_becomes_56 : decode cX7_becomes 56 = .ok (.iload 5, 2) := by decide +kernel
theorem dX7_becomes_58 : decode cX7_becomes 58 = .ok (.ifCond .eq 41, 3) := by decide +kernel
theorem dX7_becomes_61 : decode cX7_becomes 61 = .ok (.aload_n 0, 1) := by decide +kernel
theorem dX7_becomes_62 : decode cX7_becomes 62 = .ok (.getfield 13, 3) := by decide +kernel
theorem dX7_becomes_65 : decode cX7_becomes 65 = .ok (.bipush 125, 2) := by decide +kernel
theorem dX7_becomes_67 : decode cX7_becomes 67 = .ok (.iaload, 1) := by decide +kernel
theorem dX7_becomes_68 : decode cX7_becomes 68 = .ok (.aload_n 0, 1) := by decide +kernel
theorem dX7_becomes_69 : decode cX7_becomes 69 = .ok (.getfield 37, 3) := by decide +kernel
theorem dX7_becomes_72 : decode cX7_becomes 72 = .ok (.iload_n 1, 1) := by decide +kernel
theorem dX7_becomes_73 : decode cX7_becomes 73 = .ok (.iconst 1, 1) := by decide +kernel
theorem dX7_becomes_74 : decode cX7_becomes 74 = .ok (.iadd, 1) := by decide +kernel
theorem dX7_becomes_75 : decode cX7_becomes 75 = .ok (.iload_n 2, 1) := by decide +kernel
theorem dX7_becomes_76 : decode cX7_becomes 76 = .ok (.iload 4, 2) := by decide +kernel
theorem dX7_becomes_78 : decode cX7_becomes 78 = .ok (.iadd, 1) := by decide +kernel
theorem dX7_becomes_79 : decode cX7_becomes 79 = .ok (.iload 4, 2) := by decide +kernel
theorem dX7_becomes_81 : decode cX7_becomes 81 = .ok (.ifCond .ne 9, 3) := by decide +kernel
theorem dX7_becomes_84 : decode cX7_becomes 84 = .ok (.iload_n 3, 1) := by decide +kernel
theorem dX7_becomes_85 : decode cX7_becomes 85 = .ok (.iconst 1, 1) := by decide +kernel
theorem dX7_becomes_86 : decode cX7_becomes 86 = .ok (.isub, 1) := by decide +kernel
theorem dX7_becomes_87 : decode cX7_becomes 87 = .ok (.goto 4, 3) := by decide +kernel
theorem dX7_becomes_90 : decode cX7_becomes 90 = .ok (.iconst 0, 1) := by decide +kernel
theorem dX7_becomes_91 : decode cX7_becomes 91 = .ok (.invokestatic 131, 3) := by decide +kernel
theorem dX7_becomes_94 : decode cX7_becomes 94 = .ok (.iaload, 1) := by decide +kernel
theorem dX7_becomes_95 : decode cX7_becomes 95 = .ok (.iadd, 1) := by decide +kernel
theorem dX7_becomes_96 : decode cX7_becomes 96 = .ok (.goto 5, 3) := by decide +kernel
theorem dX7_becomes_99 : decode cX7_becomes 99 = .ok (.ldc 135, 2) := by decide +kernel
theorem dX7_becomes_101 : decode cX7_becomes 101 = .ok (.ireturn, 1) := by decide +kernel
theorem dX7_taken_0 : decode cX7_taken 0 = .ok (.aload_n 0, 1) := by decide +kernel
theorem dX7_taken_1 : decode cX7_taken 1 = .ok (.getfield 13, 3) := by decide +kernel
theorem dX7_taken_4 : decode cX7_taken 4 = .ok (.iload_n 1, 1) := by decide +kernel
theorem dX7_taken_5 : decode cX7_taken 5 = .ok (.iaload, 1) := by decide +kernel
theorem dX7_taken_6 : decode cX7_taken 6 = .ok (.invokestatic 54, 3) := by decide +kernel
theorem dX7_taken_9 : decode cX7_taken 9 = .ok (.ifCond .eq 27, 3) := by decide +kernel
theorem dX7_taken_12 : decode cX7_taken 12 = .ok (.aload_n 0, 1) := by decide +kernel
theorem dX7_taken_13 : decode cX7_taken 13 = .ok (.getfield 13, 3) := by decide +kernel
theorem dX7_taken_16 : decode cX7_taken 16 = .ok (.bipush 124, 2) := by decide +kernel
theorem dX7_taken_18 : decode cX7_taken 18 = .ok (.iaload, 1) := by decide +kernel
theorem dX7_taken_19 : decode cX7_taken 19 = .ok (.aload_n 0, 1) := by decide +kernel
theorem dX7_taken_20 : decode cX7_taken 20 = .ok (.getfield 37, 3) := by decide +kernel
theorem dX7_taken_23 : decode cX7_taken 23 = .ok (.iload_n 1, 1) := by decide +kernel
theorem dX7_taken_24 : decode cX7_taken 24 = .ok (.iconst 1, 1) := by decide +kernel
theorem dX7_taken_25 : decode cX7_taken 25 = .ok (.iadd, 1) := by decide +kernel
theorem dX7_taken_26 : decode cX7_taken 26 = .ok (.iload_n 2, 1) := by decide +kernel
theorem dX7_taken_27 : decode cX7_taken 27 = .ok (.iload_n 3, 1) := by decide +kernel
theorem dX7_taken_28 : decode cX7_taken 28 = .ok (.invokestatic 131, 3) := by decide +kernel
theorem dX7_taken_31 : decode cX7_taken 31 = .ok (.iaload, 1) := by decide +kernel
theorem dX7_taken_32 : decode cX7_taken 32 = .ok (.iadd, 1) := by decide +kernel
theorem dX7_taken_33 : decode cX7_taken 33 = .ok (.goto 5, 3) := by decide +kernel
theorem dX7_taken_36 : decode cX7_taken 36 = .ok (.ldc 135, 2) := by decide +kernel
theorem dX7_taken_38 : decode cX7_taken 38 = .ok (.ireturn, 1) := by decide +kernel
theorem dX7_min_0 : decode cX7_min 0 = .ok (.iload_n 0, 1) := by decide +kernel
theorem dX7_min_1 : decode cX7_min 1 = .ok (.iload_n 1, 1) := by decide +kernel
theorem dX7_min_2 : decode cX7_min 2 = .ok (.if_icmp .ge 7, 3) := by decide +kernel
theorem dX7_min_5 : decode cX7_min 5 = .ok (.iload_n 0, 1) := by decide +kernel
theorem dX7_min_6 : decode cX7_min 6 = .ok (.goto 4, 3) := by decide +kernel
theorem dX7_min_9 : decode cX7_min 9 = .ok (.iload_n 1, 1) := by decide +kernel
theorem dX7_min_10 : decode cX7_min 10 = .ok (.ireturn, 1) := by decide +kernel
theorem dX7_findLeast_0 : decode cX7_findLeast 0 = .ok (.aload_n 0, 1) := by decide +kernel
theorem dX7_findLeast_1 : decode cX7_findLeast 1 = .ok (.getfield 13, 3) := by decide +kernel
theorem dX7_findLeast_4 : decode cX7_findLeast 4 = .ok (.bipush 120, 2) := by decide +kernel
theorem dX7_findLeast_6 : decode cX7_findLeast 6 = .ok (.iaload, 1) := by decide +kernel
theorem dX7_findLeast_7 : decode cX7_findLeast 7 = .ok (.istore_n 3, 1) := by decide +kernel
theorem dX7_findLeast_8 : decode cX7_findLeast 8 = .ok (.aload_n 0, 1) := by decide +kernel
theorem dX7_findLeast_9 : decode cX7_findLeast 9 = .ok (.getfield 13, 3) := by decide +kernel
theorem dX7_findLeast_12 : decode cX7_findLeast 12 = .ok (.bipush 123, 2) := by decide +kernel
theorem dX7_findLeast_14 : decode cX7_findLeast 14 = .ok (.iaload, 1) := by decide +kernel
theorem dX7_findLeast_15 : decode cX7_findLeast 15 = .ok (.istore 4, 2) := by decide +kernel
theorem dX7_findLeast_17 : decode cX7_findLeast 17 = .ok (.iload_n 3, 1) := by decide +kernel
theorem dX7_findLeast_18 : decode cX7_findLeast 18 = .ok (.istore 5, 2) := by decide +kernel
theorem dX7_findLeast_20 : decode cX7_findLeast 20 = .ok (.iload 5, 2) := by decide +kernel
theorem dX7_findLeast_22 : decode cX7_findLeast 22 = .ok (.ifCond .lt 361, 3) := by decide +kernel
theorem dX7_findLeast_25 : decode cX7_findLeast 25 = .ok (.iconst 0, 1) := by decide +kernel
theorem dX7_findLeast_26 : decode cX7_findLeast 26 = .ok (.istore 6, 2) := by decide +kernel
theorem dX7_findLeast_28 : decode cX7_findLeast 28 = .ok (.iload 6, 2) := by decide +kernel
theorem dX7_findLeast_30 : decode cX7_findLeast 30 = .ok (.bipush 6, 2) := by decide +kernel
theorem dX7_findLeast_32 : decode cX7_findLeast 32 = .ok (.if_icmp .gt 95, 3) := by decide +kernel
theorem dX7_findLeast_35 : decode cX7_findLeast 35 = .ok (.iload 5, 2) := by decide +kernel
theorem dX7_findLeast_37 : decode cX7_findLeast 37 = .ok (.iload_n 3, 1) := by decide +kernel
theorem dX7_findLeast_38 : decode cX7_findLeast 38 = .ok (.if_icmp .ne 17, 3) := by decide +kernel
theorem dX7_findLeast_41 : decode cX7_findLeast 41 = .ok (.iload 6, 2) := by decide +kernel
theorem dX7_findLeast_43 : decode cX7_findLeast 43 = .ok (.ifCond .ne 7, 3) := by decide +kernel
theorem dX7_findLeast_46 : decode cX7_findLeast 46 = .ok (.iconst 0, 1) := by decide +kernel
theorem dX7_findLeast_47 : decode cX7_findLeast 47 = .ok (.goto 57, 3) := by decide +kernel
theorem dX7_findLeast_50 : decode cX7_findLeast 50 = .ok (.ldc 135, 2) := by decide +kernel
theorem dX7_findLeast_52 : decode cX7_findLeast 52 = .ok (.goto 52, 3) := by decide +kernel
theorem dX7_findLeast_55 : decode cX7_findLeast 55 = .ok (.aload_n 0, 1) := by decide +kernel
theorem dX7_findLeast_56 : decode cX7_findLeast 56 = .ok (.iload 5, 2) := by decide +kernel
theorem dX7_findLeast_58 : decode cX7_findLeast 58 = .ok (.iload 6, 2) := by decide +kernel
theorem dX7_findLeast_60 : decode cX7_findLeast 60 = .ok (.iconst 0, 1) := by decide +kernel
theorem dX7_findLeast_61 : decode cX7_findLeast 61 = .ok (.iload_n 1, 1) := by decide +kernel
theorem dX7_findLeast_62 : decode cX7_findLeast 62 = .ok (.iload_n 2, 1) := by decide +kernel
theorem dX7_findLeast_63 : decode cX7_findLeast 63 = .ok (.invokevirtual 136, 3) := by decide +kernel
theorem dX7_findLeast_66 : decode cX7_findLeast 66 = .ok (.aload_n 0, 1) := by decide +kernel
theorem dX7_findLeast_67 : decode cX7_findLeast 67 = .ok (.iload 5, 2) := by decide +kernel
theorem dX7_findLeast_69 : decode cX7_findLeast 69 = .ok (.iload 6, 2) := by decide +kernel
theorem dX7_findLeast_71 : decode cX7_findLeast 71 = .ok (.iconst 0, 1) := by decide +kernel
theorem dX7_findLeast_72 : decode cX7_findLeast 72 = .ok (.invokevirtual 140, 3) := by decide +kernel
theorem dX7_findLeast_75 : decode cX7_findLeast 75 = .ok (.invokestatic 143, 3) := by decide +kernel
theorem dX7_findLeast_78 : decode cX7_findLeast 78 = .ok (.aload_n 0, 1) := by decide +kernel
theorem dX7_findLeast_79 : decode cX7_findLeast 79 = .ok (.iload 5, 2) := by decide +kernel
theorem dX7_findLeast_81 : decode cX7_findLeast 81 = .ok (.iload 6, 2) := by decide +kernel
theorem dX7_findLeast_83 : decode cX7_findLeast 83 = .ok (.iconst 0, 1) := by decide +kernel
theorem dX7_findLeast_84 : decode cX7_findLeast 84 = .ok (.iconst 1, 1) := by decide +kernel
theorem dX7_findLeast_85 : decode cX7_findLeast 85 = .ok (.invokevirtual 146, 3) := by decide +kernel
theorem dX7_findLeast_88 : decode cX7_findLeast 88 = .ok (.aload_n 0, 1) := by decide +kernel
theorem dX7_findLeast_89 : decode cX7_findLeast 89 = .ok (.iload 5, 2) := by decide +kernel
theorem dX7_findLeast_91 : decode cX7_findLeast 91 = .ok (.iload 6, 2) := by decide +kernel
theorem dX7_findLeast_93 : decode cX7_findLeast 93 = .ok (.iconst 0, 1) := by decide +kernel
theorem dX7_findLeast_94 : decode cX7_findLeast 94 = .ok (.iconst (-1), 1) := by decide +kernel
theorem dX7_findLeast_95 : decode cX7_findLeast 95 = .ok (.invokevirtual 146, 3) := by decide +kernel
end
section
theorem dX7_findLeast_98 : decode cX7_findLeast 98 = .ok (.invokestatic 143, 3) := by decide +kernel
theorem dX7_findLeast_101 : decode cX7_findLeast 101 = .ok (.invokestatic 143, 3) := by decide +kernel
theorem dX7_findLeast_104 : decode cX7_findLeast 104 = .ok (.istore 7, 2) := by decide +kernel
theorem dX7_findLeast_106 : decode cX7_findLeast 106 = .ok (.aload_n 0, 1) := by decide +kernel
theorem dX7_findLeast_107 : decode cX7_findLeast 107 = .ok (.getfield 37, 3) := by decide +kernel
theorem dX7_findLeast_110 : decode cX7_findLeast 110 = .ok (.iload 5, 2) := by decide +kernel
theorem dX7_findLeast_112 : decode cX7_findLeast 112 = .ok (.iload 6, 2) := by decide +kernel
theorem dX7_findLeast_114 : decode cX7_findLeast 114 = .ok (.iconst 0, 1) := by decide +kernel
theorem dX7_findLeast_115 : decode cX7_findLeast 115 = .ok (.invokestatic 131, 3) := by decide +kernel
theorem dX7_findLeast_118 : decode cX7_findLeast 118 = .ok (.iload 7, 2) := by decide +kernel
theorem dX7_findLeast_120 : decode cX7_findLeast 120 = .ok (.iastore, 1) := by decide +kernel
theorem dX7_findLeast_121 : decode cX7_findLeast 121 = .ok (.iinc 6 1, 3) := by decide +kernel
theorem dX7_findLeast_124 : decode cX7_findLeast 124 = .ok (.goto (-96), 3) := by decide +kernel
theorem dX7_findLeast_127 : decode cX7_findLeast 127 = .ok (.iconst 1, 1) := by decide +kernel
theorem dX7_findLeast_128 : decode cX7_findLeast 128 = .ok (.istore 6, 2) := by decide +kernel
theorem dX7_findLeast_130 : decode cX7_findLeast 130 = .ok (.iload 6, 2) := by decide +kernel
theorem dX7_findLeast_132 : decode cX7_findLeast 132 = .ok (.bipush 6, 2) := by decide +kernel
theorem dX7_findLeast_134 : decode cX7_findLeast 134 = .ok (.if_icmp .gt 56, 3) := by decide +kernel
theorem dX7_findLeast_137 : decode cX7_findLeast 137 = .ok (.aload_n 0, 1) := by decide +kernel
theorem dX7_findLeast_138 : decode cX7_findLeast 138 = .ok (.getfield 37, 3) := by decide +kernel
theorem dX7_findLeast_141 : decode cX7_findLeast 141 = .ok (.iload 5, 2) := by decide +kernel
theorem dX7_findLeast_143 : decode cX7_findLeast 143 = .ok (.iload 6, 2) := by decide +kernel
theorem dX7_findLeast_145 : decode cX7_findLeast 145 = .ok (.iconst 0, 1) := by decide +kernel
theorem dX7_findLeast_146 : decode cX7_findLeast 146 = .ok (.invokestatic 131, 3) := by decide +kernel
theorem dX7_findLeast_149 : decode cX7_findLeast 149 = .ok (.aload_n 0, 1) := by decide +kernel
theorem dX7_findLeast_150 : decode cX7_findLeast 150 = .ok (.getfield 37, 3) := by decide +kernel
theorem dX7_findLeast_153 : decode cX7_findLeast 153 = .ok (.iload 5, 2) := by decide +kernel
theorem dX7_findLeast_155 : decode cX7_findLeast 155 = .ok (.iload 6, 2) := by decide +kernel
theorem dX7_findLeast_157 : decode cX7_findLeast 157 = .ok (.iconst 0, 1) := by decide +kernel
theorem dX7_findLeast_158 : decode cX7_findLeast 158 = .ok (.invokestatic 131, 3) := by decide +kernel
theorem dX7_findLeast_161 : decode cX7_findLeast 161 = .ok (.iaload, 1) := by decide +kernel
theorem dX7_findLeast_162 : decode cX7_findLeast 162 = .ok (.iload 4, 2) := by decide +kernel
theorem dX7_findLeast_164 : decode cX7_findLeast 164 = .ok (.aload_n 0, 1) := by decide +kernel
theorem dX7_findLeast_165 : decode cX7_findLeast 165 = .ok (.getfield 37, 3) := by decide +kernel
theorem dX7_findLeast_168 : decode cX7_findLeast 168 = .ok (.iload 5, 2) := by decide +kernel
theorem dX7_findLeast_170 : decode cX7_findLeast 170 = .ok (.iload 6, 2) := by decide +kernel
theorem dX7_findLeast_172 : decode cX7_findLeast 172 = .ok (.iconst 1, 1) := by decide +kernel
theorem dX7_findLeast_173 : decode cX7_findLeast 173 = .ok (.isub, 1) := by decide +kernel
theorem dX7_findLeast_174 : decode cX7_findLeast 174 = .ok (.iconst 0, 1) := by decide +kernel
theorem dX7_findLeast_175 : decode cX7_findLeast 175 = .ok (.invokestatic 131, 3) := by decide +kernel
theorem dX7_findLeast_178 : decode cX7_findLeast 178 = .ok (.iaload, 1) := by decide +kernel
theorem dX7_findLeast_179 : decode cX7_findLeast 179 = .ok (.iadd, 1) := by decide +kernel
theorem dX7_findLeast_180 : decode cX7_findLeast 180 = .ok (.invokestatic 143, 3) := by decide +kernel
theorem dX7_findLeast_183 : decode cX7_findLeast 183 = .ok (.iastore, 1) := by decide +kernel
theorem dX7_findLeast_184 : decode cX7_findLeast 184 = .ok (.iinc 6 1, 3) := by decide +kernel
theorem dX7_findLeast_187 : decode cX7_findLeast 187 = .ok (.goto (-57), 3) := by decide +kernel
theorem dX7_findLeast_190 : decode cX7_findLeast 190 = .ok (.iconst 5, 1) := by decide +kernel
theorem dX7_findLeast_191 : decode cX7_findLeast 191 = .ok (.istore 6, 2) := by decide +kernel
theorem dX7_findLeast_193 : decode cX7_findLeast 193 = .ok (.iload 6, 2) := by decide +kernel
theorem dX7_findLeast_195 : decode cX7_findLeast 195 = .ok (.ifCond .lt 56, 3) := by decide +kernel
theorem dX7_findLeast_198 : decode cX7_findLeast 198 = .ok (.aload_n 0, 1) := by decide +kernel
theorem dX7_findLeast_199 : decode cX7_findLeast 199 = .ok (.getfield 37, 3) := by decide +kernel
theorem dX7_findLeast_202 : decode cX7_findLeast 202 = .ok (.iload 5, 2) := by decide +kernel
theorem dX7_findLeast_204 : decode cX7_findLeast 204 = .ok (.iload 6, 2) := by decide +kernel
theorem dX7_findLeast_206 : decode cX7_findLeast 206 = .ok (.iconst 0, 1) := by decide +kernel
theorem dX7_findLeast_207 : decode cX7_findLeast 207 = .ok (.invokestatic 131, 3) := by decide +kernel
theorem dX7_findLeast_210 : decode cX7_findLeast 210 = .ok (.aload_n 0, 1) := by decide +kernel
theorem dX7_findLeast_211 : decode cX7_findLeast 211 = .ok (.getfield 37, 3) := by decide +kernel
theorem dX7_findLeast_214 : decode cX7_findLeast 214 = .ok (.iload 5, 2) := by decide +kernel
theorem dX7_findLeast_216 : decode cX7_findLeast 216 = .ok (.iload 6, 2) := by decide +kernel
theorem dX7_findLeast_218 : decode cX7_findLeast 218 = .ok (.iconst 0, 1) := by decide +kernel
theorem dX7_findLeast_219 : decode cX7_findLeast 219 = .ok (.invokestatic 131, 3) := by decide +kernel
theorem dX7_findLeast_222 : decode cX7_findLeast 222 = .ok (.iaload, 1) := by decide +kernel
theorem dX7_findLeast_223 : decode cX7_findLeast 223 = .ok (.iload 4, 2) := by decide +kernel
theorem dX7_findLeast_225 : decode cX7_findLeast 225 = .ok (.aload_n 0, 1) := by decide +kernel
theorem dX7_findLeast_226 : decode cX7_findLeast 226 = .ok (.getfield 37, 3) := by decide +kernel
theorem dX7_findLeast_229 : decode cX7_findLeast 229 = .ok (.iload 5, 2) := by decide +kernel
theorem dX7_findLeast_231 : decode cX7_findLeast 231 = .ok (.iload 6, 2) := by decide +kernel
theorem dX7_findLeast_233 : decode cX7_findLeast 233 = .ok (.iconst 1, 1) := by decide +kernel
theorem dX7_findLeast_234 : decode cX7_findLeast 234 = .ok (.iadd, 1) := by decide +kernel
theorem dX7_findLeast_235 : decode cX7_findLeast 235 = .ok (.iconst 0, 1) := by decide +kernel
theorem dX7_findLeast_236 : decode cX7_findLeast 236 = .ok (.invokestatic 131, 3) := by decide +kernel
theorem dX7_findLeast_239 : decode cX7_findLeast 239 = .ok (.iaload, 1) := by decide +kernel
theorem dX7_findLeast_240 : decode cX7_findLeast 240 = .ok (.iadd, 1) := by decide +kernel
theorem dX7_findLeast_241 : decode cX7_findLeast 241 = .ok (.invokestatic 143, 3) := by decide +kernel
theorem dX7_findLeast_244 : decode cX7_findLeast 244 = .ok (.iastore, 1) := by decide +kernel
theorem dX7_findLeast_245 : decode cX7_findLeast 245 = .ok (.iinc 6 (-1), 3) := by decide +kernel
theorem dX7_findLeast_248 : decode cX7_findLeast 248 = .ok (.goto (-55), 3) := by decide +kernel
theorem dX7_findLeast_251 : decode cX7_findLeast 251 = .ok (.iconst 0, 1) := by decide +kernel
theorem dX7_findLeast_252 : decode cX7_findLeast 252 = .ok (.istore 6, 2) := by decide +kernel
theorem dX7_findLeast_254 : decode cX7_findLeast 254 = .ok (.iload 6, 2) := by decide +kernel
theorem dX7_findLeast_256 : decode cX7_findLeast 256 = .ok (.bipush 6, 2) := by decide +kernel
theorem dX7_findLeast_258 : decode cX7_findLeast 258 = .ok (.if_icmp .gt 119, 3) := by decide +kernel
theorem dX7_findLeast_261 : decode cX7_findLeast 261 = .ok (.iconst 1, 1) := by decide +kernel
theorem dX7_findLeast_262 : decode cX7_findLeast 262 = .ok (.istore 7, 2) := by decide +kernel
theorem dX7_findLeast_264 : decode cX7_findLeast 264 = .ok (.iload 7, 2) := by decide +kernel
theorem dX7_findLeast_266 : decode cX7_findLeast 266 = .ok (.iload_n 2, 1) := by decide +kernel
theorem dX7_findLeast_267 : decode cX7_findLeast 267 = .ok (.iload 6, 2) := by decide +kernel
theorem dX7_findLeast_269 : decode cX7_findLeast 269 = .ok (.invokestatic 116, 3) := by decide +kernel
theorem dX7_findLeast_272 : decode cX7_findLeast 272 = .ok (.if_icmp .gt 99, 3) := by decide +kernel
theorem dX7_findLeast_275 : decode cX7_findLeast 275 = .ok (.iload 5, 2) := by decide +kernel
theorem dX7_findLeast_277 : decode cX7_findLeast 277 = .ok (.iload_n 3, 1) := by decide +kernel
theorem dX7_findLeast_278 : decode cX7_findLeast 278 = .ok (.if_icmp .ne 8, 3) := by decide +kernel
theorem dX7_findLeast_281 : decode cX7_findLeast 281 = .ok (.ldc 135, 2) := by decide +kernel
theorem dX7_findLeast_283 : decode cX7_findLeast 283 = .ok (.goto 42, 3) := by decide +kernel
theorem dX7_findLeast_286 : decode cX7_findLeast 286 = .ok (.aload_n 0, 1) := by decide +kernel
theorem dX7_findLeast_287 : decode cX7_findLeast 287 = .ok (.iload 5, 2) := by decide +kernel
theorem dX7_findLeast_289 : decode cX7_findLeast 289 = .ok (.iload 6, 2) := by decide +kernel
theorem dX7_findLeast_291 : decode cX7_findLeast 291 = .ok (.iload 7, 2) := by decide +kernel
theorem dX7_findLeast_293 : decode cX7_findLeast 293 = .ok (.iload_n 1, 1) := by decide +kernel
theorem dX7_findLeast_294 : decode cX7_findLeast 294 = .ok (.iload_n 2, 1) := by decide +kernel
theorem dX7_findLeast_295 : decode cX7_findLeast 295 = .ok (.invokevirtual 136, 3) := by decide +kernel
theorem dX7_findLeast_298 : decode cX7_findLeast 298 = .ok (.aload_n 0, 1) := by decide +kernel
theorem dX7_findLeast_299 : decode cX7_findLeast 299 = .ok (.iload 5, 2) := by decide +kernel
theorem dX7_findLeast_301 : decode cX7_findLeast 301 = .ok (.iload 6, 2) := by decide +kernel
theorem dX7_findLeast_303 : decode cX7_findLeast 303 = .ok (.iload 7, 2) := by decide +kernel
theorem dX7_findLeast_305 : decode cX7_findLeast 305 = .ok (.invokevirtual 140, 3) := by decide +kernel
theorem dX7_findLeast_308 : decode cX7_findLeast 308 = .ok (.invokestatic 143, 3) := by decide +kernel
theorem dX7_findLeast_311 : decode cX7_findLeast 311 = .ok (.aload_n 0, 1) := by decide +kernel
theorem dX7_findLeast_312 : decode cX7_findLeast 312 = .ok (.iload 5, 2) := by decide +kernel
theorem dX7_findLeast_314 : decode cX7_findLeast 314 = .ok (.iload 6, 2) := by decide +kernel
theorem dX7_findLeast_316 : decode cX7_findLeast 316 = .ok (.iload 7, 2) := by decide +kernel
theorem dX7_findLeast_318 : decode cX7_findLeast 318 = .ok (.iconst 0, 1) := by decide +kernel
theorem dX7_findLeast_319 : decode cX7_findLeast 319 = .ok (.invokevirtual 146, 3) := by decide +kernel
theorem dX7_findLeast_322 : decode cX7_findLeast 322 = .ok (.invokestatic 143, 3) := by decide +kernel
theorem dX7_findLeast_325 : decode cX7_findLeast 325 = .ok (.istore 8, 2) := by decide +kernel
theorem dX7_findLeast_327 : decode cX7_findLeast 327 = .ok (.aload_n 0, 1) := by decide +kernel
theorem dX7_findLeast_328 : decode cX7_findLeast 328 = .ok (.getfield 37, 3) := by decide +kernel
theorem dX7_findLeast_331 : decode cX7_findLeast 331 = .ok (.iload 5, 2) := by decide +kernel
theorem dX7_findLeast_333 : decode cX7_findLeast 333 = .ok (.iload 6, 2) := by decide +kernel
theorem dX7_findLeast_335 : decode cX7_findLeast 335 = .ok (.iload 7, 2) := by decide +kernel
theorem dX7_findLeast_337 : decode cX7_findLeast 337 = .ok (.invokestatic 131, 3) := by decide +kernel
theorem dX7_findLeast_340 : decode cX7_findLeast 340 = .ok (.iload 8, 2) := by decide +kernel
theorem dX7_findLeast_342 : decode cX7_findLeast 342 = .ok (.iload 4, 2) := by decide +kernel
theorem dX7_findLeast_344 : decode cX7_findLeast 344 = .ok (.aload_n 0, 1) := by decide +kernel
theorem dX7_findLeast_345 : decode cX7_findLeast 345 = .ok (.getfield 37, 3) := by decide +kernel
theorem dX7_findLeast_348 : decode cX7_findLeast 348 = .ok (.iload 5, 2) := by decide +kernel
theorem dX7_findLeast_350 : decode cX7_findLeast 350 = .ok (.iload 6, 2) := by decide +kernel
theorem dX7_findLeast_352 : decode cX7_findLeast 352 = .ok (.iload 7, 2) := by decide +kernel
theorem dX7_findLeast_354 : decode cX7_findLeast 354 = .ok (.iconst 1, 1) := by decide +kernel
theorem dX7_findLeast_355 : decode cX7_findLeast 355 = .ok (.isub, 1) := by decide +kernel
theorem dX7_findLeast_356 : decode cX7_findLeast 356 = .ok (.invokestatic 131, 3) := by decide +kernel
theorem dX7_findLeast_359 : decode cX7_findLeast 359 = .ok (.iaload, 1) := by decide +kernel
theorem dX7_findLeast_360 : decode cX7_findLeast 360 = .ok (.iadd, 1) := by decide +kernel
theorem dX7_findLeast_361 : decode cX7_findLeast 361 = .ok (.invokestatic 143, 3) := by decide +kernel
theorem dX7_findLeast_364 : decode cX7_findLeast 364 = .ok (.iastore, 1) := by decide +kernel
theorem dX7_findLeast_365 : decode cX7_findLeast 365 = .ok (.iinc 7 1, 3) := by decide +kernel
theorem dX7_findLeast_368 : decode cX7_findLeast 368 = .ok (.goto (-104), 3) := by decide +kernel
theorem dX7_findLeast_371 : decode cX7_findLeast 371 = .ok (.iinc 6 1, 3) := by decide +kernel
theorem dX7_findLeast_374 : decode cX7_findLeast 374 = .ok (.goto (-120), 3) := by decide +kernel
theorem dX7_findLeast_377 : decode cX7_findLeast 377 = .ok (.iinc 5 (-1), 3) := by decide +kernel
theorem dX7_findLeast_380 : decode cX7_findLeast 380 = .ok (.goto (-360), 3) := by decide +kernel
theorem dX7_findLeast_383 : decode cX7_findLeast 383 = .ok (.aload_n 0, 1) := by decide +kernel
theorem dX7_findLeast_384 : decode cX7_findLeast 384 = .ok (.getfield 37, 3) := by decide +kernel
theorem dX7_findLeast_387 : decode cX7_findLeast 387 = .ok (.iconst 0, 1) := by decide +kernel
theorem dX7_findLeast_388 : decode cX7_findLeast 388 = .ok (.iaload, 1) := by decide +kernel
theorem dX7_findLeast_389 : decode cX7_findLeast 389 = .ok (.ireturn, 1) := by decide +kernel
theorem dX7_puts_0 : decode cX7_puts 0 = .ok (.aload_n 0, 1) := by decide +kernel
theorem dX7_puts_1 : decode cX7_puts 1 = .ok (.getfield 40, 3) := by decide +kernel
theorem dX7_puts_4 : decode cX7_puts 4 = .ok (.aload_n 0, 1) := by decide +kernel
theorem dX7_puts_5 : decode cX7_puts 5 = .ok (.getfield 149, 3) := by decide +kernel
theorem dX7_puts_8 : decode cX7_puts 8 = .ok (.iload_n 1, 1) := by decide +kernel
theorem dX7_puts_9 : decode cX7_puts 9 = .ok (.iastore, 1) := by decide +kernel
theorem dX7_puts_10 : decode cX7_puts 10 = .ok (.aload_n 0, 1) := by decide +kernel
theorem dX7_puts_11 : decode cX7_puts 11 = .ok (.dup, 1) := by decide +kernel
theorem dX7_puts_12 : decode cX7_puts 12 = .ok (.getfield 149, 3) := by decide +kernel
theorem dX7_puts_15 : decode cX7_puts 15 = .ok (.iconst 1, 1) := by decide +kernel
theorem dX7_puts_16 : decode cX7_puts 16 = .ok (.iadd, 1) := by decide +kernel
theorem dX7_puts_17 : decode cX7_puts 17 = .ok (.putfield 149, 3) := by decide +kernel
theorem dX7_puts_20 : decode cX7_puts 20 = .ok (.iload_n 2, 1) := by decide +kernel
theorem dX7_puts_21 : decode cX7_puts 21 = .ok (.iconst 3, 1) := by decide +kernel
theorem dX7_puts_22 : decode cX7_puts 22 = .ok (.if_icmp .ge 13, 3) := by decide +kernel
theorem dX7_puts_25 : decode cX7_puts 25 = .ok (.aload_n 0, 1) := by decide +kernel
theorem dX7_puts_26 : decode cX7_puts 26 = .ok (.getfield 43, 3) := by decide +kernel
theorem dX7_puts_29 : decode cX7_puts 29 = .ok (.iload_n 2, 1) := by decide +kernel
theorem dX7_puts_30 : decode cX7_puts 30 = .ok (.dup2, 1) := by decide +kernel
theorem dX7_puts_31 : decode cX7_puts 31 = .ok (.iaload, 1) := by decide +kernel
theorem dX7_puts_32 : decode cX7_puts 32 = .ok (.iconst 1, 1) := by decide +kernel
theorem dX7_puts_33 : decode cX7_puts 33 = .ok (.iadd, 1) := by decide +kernel
theorem dX7_puts_34 : decode cX7_puts 34 = .ok (.iastore, 1) := by decide +kernel
theorem dX7_puts_35 : decode cX7_puts 35 = .ok (.return_, 1) := by decide +kernel
theorem dX7_findMended_0 : decode cX7_findMended 0 = .ok (.aload_n 0, 1) := by decide +kernel
theorem dX7_findMended_1 : decode cX7_findMended 1 = .ok (.getfield 13, 3) := by decide +kernel
theorem dX7_findMended_4 : decode cX7_findMended 4 = .ok (.bipush 121, 2) := by decide +kernel
theorem dX7_findMended_6 : decode cX7_findMended 6 = .ok (.iaload, 1) := by decide +kernel
theorem dX7_findMended_7 : decode cX7_findMended 7 = .ok (.istore_n 1, 1) := by decide +kernel
theorem dX7_findMended_8 : decode cX7_findMended 8 = .ok (.aload_n 0, 1) := by decide +kernel
theorem dX7_findMended_9 : decode cX7_findMended 9 = .ok (.getfield 13, 3) := by decide +kernel
theorem dX7_findMended_12 : decode cX7_findMended 12 = .ok (.bipush 122, 2) := by decide +kernel
theorem dX7_findMended_14 : decode cX7_findMended 14 = .ok (.iaload, 1) := by decide +kernel
theorem dX7_findMended_15 : decode cX7_findMended 15 = .ok (.istore_n 2, 1) := by decide +kernel
theorem dX7_findMended_16 : decode cX7_findMended 16 = .ok (.aload_n 0, 1) := by decide +kernel
theorem dX7_findMended_17 : decode cX7_findMended 17 = .ok (.iload_n 1, 1) := by decide +kernel
theorem dX7_findMended_18 : decode cX7_findMended 18 = .ok (.iload_n 2, 1) := by decide +kernel
theorem dX7_findMended_19 : decode cX7_findMended 19 = .ok (.invokevirtual 152, 3) := by decide +kernel
theorem dX7_findMended_22 : decode cX7_findMended 22 = .ok (.pop, 1) := by decide +kernel
theorem dX7_findMended_23 : decode cX7_findMended 23 = .ok (.aload_n 0, 1) := by decide +kernel
theorem dX7_findMended_24 : decode cX7_findMended 24 = .ok (.iconst 0, 1) := by decide +kernel
theorem dX7_findMended_25 : decode cX7_findMended 25 = .ok (.putfield 149, 3) := by decide +kernel
theorem dX7_findMended_28 : decode cX7_findMended 28 = .ok (.aload_n 0, 1) := by decide +kernel
theorem dX7_findMended_29 : decode cX7_findMended 29 = .ok (.getfield 43, 3) := by decide +kernel
theorem dX7_findMended_32 : decode cX7_findMended 32 = .ok (.iconst 0, 1) := by decide +kernel
theorem dX7_findMended_33 : decode cX7_findMended 33 = .ok (.iconst 0, 1) := by decide +kernel
theorem dX7_findMended_34 : decode cX7_findMended 34 = .ok (.iastore, 1) := by decide +kernel
theorem dX7_findMended_35 : decode cX7_findMended 35 = .ok (.aload_n 0, 1) := by decide +kernel
theorem dX7_findMended_36 : decode cX7_findMended 36 = .ok (.getfield 43, 3) := by decide +kernel
theorem dX7_findMended_39 : decode cX7_findMended 39 = .ok (.iconst 1, 1) := by decide +kernel
theorem dX7_findMended_40 : decode cX7_findMended 40 = .ok (.iconst 0, 1) := by decide +kernel
theorem dX7_findMended_41 : decode cX7_findMended 41 = .ok (.iastore, 1) := by decide +kernel
theorem dX7_findMended_42 : decode cX7_findMended 42 = .ok (.aload_n 0, 1) := by decide +kernel
theorem dX7_findMended_43 : decode cX7_findMended 43 = .ok (.getfield 43, 3) := by decide +kernel
theorem dX7_findMended_46 : decode cX7_findMended 46 = .ok (.iconst 2, 1) := by decide +kernel
theorem dX7_findMended_47 : decode cX7_findMended 47 = .ok (.iconst 0, 1) := by decide +kernel
theorem dX7_findMended_48 : decode cX7_findMended 48 = .ok (.iastore, 1) := by decide +kernel
theorem dX7_findMended_49 : decode cX7_findMended 49 = .ok (.iconst 0, 1) := by decide +kernel
theorem dX7_findMended_50 : decode cX7_findMended 50 = .ok (.istore_n 3, 1) := by decide +kernel
theorem dX7_findMended_51 : decode cX7_findMended 51 = .ok (.iconst 0, 1) := by decide +kernel
theorem dX7_findMended_52 : decode cX7_findMended 52 = .ok (.istore 4, 2) := by decide +kernel
theorem dX7_findMended_54 : decode cX7_findMended 54 = .ok (.iconst 0, 1) := by decide +kernel
theorem dX7_findMended_55 : decode cX7_findMended 55 = .ok (.istore 5, 2) := by decide +kernel
theorem dX7_findMended_57 : decode cX7_findMended 57 = .ok (.iload_n 3, 1) := by decide +kernel
theorem dX7_findMended_58 : decode cX7_findMended 58 = .ok (.aload_n 0, 1) := by decide +kernel
theorem dX7_findMended_59 : decode cX7_findMended 59 = .ok (.getfield 13, 3) := by decide +kernel
theorem dX7_findMended_62 : decode cX7_findMended 62 = .ok (.bipush 120, 2) := by decide +kernel
theorem dX7_findMended_64 : decode cX7_findMended 64 = .ok (.iaload, 1) := by decide +kernel
theorem dX7_findMended_65 : decode cX7_findMended 65 = .ok (.if_icmp .lt 13, 3) := by decide +kernel
theorem dX7_findMended_68 : decode cX7_findMended 68 = .ok (.iload 4, 2) := by decide +kernel
theorem dX7_findMended_70 : decode cX7_findMended 70 = .ok (.ifCond .gt 8, 3) := by decide +kernel
theorem dX7_findMended_73 : decode cX7_findMended 73 = .ok (.iload 5, 2) := by decide +kernel
theorem dX7_findMended_75 : decode cX7_findMended 75 = .ok (.ifCond .le 413, 3) := by decide +kernel
theorem dX7_findMended_78 : decode cX7_findMended 78 = .ok (.aload_n 0, 1) := by decide +kernel
theorem dX7_findMended_79 : decode cX7_findMended 79 = .ok (.getfield 37, 3) := by decide +kernel
theorem dX7_findMended_82 : decode cX7_findMended 82 = .ok (.iload_n 3, 1) := by decide +kernel
theorem dX7_findMended_83 : decode cX7_findMended 83 = .ok (.iload 4, 2) := by decide +kernel
theorem dX7_findMended_85 : decode cX7_findMended 85 = .ok (.iload 5, 2) := by decide +kernel
theorem dX7_findMended_87 : decode cX7_findMended 87 = .ok (.invokestatic 131, 3) := by decide +kernel
theorem dX7_findMended_90 : decode cX7_findMended 90 = .ok (.iaload, 1) := by decide +kernel
theorem dX7_findMended_91 : decode cX7_findMended 91 = .ok (.istore 6, 2) := by decide +kernel
theorem dX7_findMended_93 : decode cX7_findMended 93 = .ok (.iload 5, 2) := by decide +kernel
theorem dX7_findMended_95 : decode cX7_findMended 95 = .ok (.ifCond .le 15, 3) := by decide +kernel
theorem dX7_findMended_98 : decode cX7_findMended 98 = .ok (.iload_n 1, 1) := by decide +kernel
theorem dX7_findMended_99 : decode cX7_findMended 99 = .ok (.iload_n 2, 1) := by decide +kernel
theorem dX7_findMended_100 : decode cX7_findMended 100 = .ok (.iload 4, 2) := by decide +kernel
theorem dX7_findMended_102 : decode cX7_findMended 102 = .ok (.iload 5, 2) := by decide +kernel
theorem dX7_findMended_104 : decode cX7_findMended 104 = .ok (.invokestatic 108, 3) := by decide +kernel
theorem dX7_findMended_107 : decode cX7_findMended 107 = .ok (.goto 4, 3) := by decide +kernel
theorem dX7_findMended_110 : decode cX7_findMended 110 = .ok (.iconst 0, 1) := by decide +kernel
theorem dX7_findMended_111 : decode cX7_findMended 111 = .ok (.istore 7, 2) := by decide +kernel
theorem dX7_findMended_113 : decode cX7_findMended 113 = .ok (.iload_n 3, 1) := by decide +kernel
theorem dX7_findMended_114 : decode cX7_findMended 114 = .ok (.aload_n 0, 1) := by decide +kernel
theorem dX7_findMended_115 : decode cX7_findMended 115 = .ok (.getfield 13, 3) := by decide +kernel
theorem dX7_findMended_118 : decode cX7_findMended 118 = .ok (.bipush 120, 2) := by decide +kernel
theorem dX7_findMended_120 : decode cX7_findMended 120 = .ok (.iaload, 1) := by decide +kernel
theorem dX7_findMended_121 : decode cX7_findMended 121 = .ok (.if_icmp .ne 7, 3) := by decide +kernel
theorem dX7_findMended_124 : decode cX7_findMended 124 = .ok (.iconst 1, 1) := by decide +kernel
theorem dX7_findMended_125 : decode cX7_findMended 125 = .ok (.goto 4, 3) := by decide +kernel
theorem dX7_findMended_128 : decode cX7_findMended 128 = .ok (.iconst 0, 1) := by decide +kernel
theorem dX7_findMended_129 : decode cX7_findMended 129 = .ok (.istore 8, 2) := by decide +kernel
theorem dX7_findMended_131 : decode cX7_findMended 131 = .ok (.iload 8, 2) := by decide +kernel
theorem dX7_findMended_133 : decode cX7_findMended 133 = .ok (.ifCond .ne 118, 3) := by decide +kernel
theorem dX7_findMended_136 : decode cX7_findMended 136 = .ok (.aload_n 0, 1) := by decide +kernel
theorem dX7_findMended_137 : decode cX7_findMended 137 = .ok (.iload_n 3, 1) := by decide +kernel
theorem dX7_findMended_138 : decode cX7_findMended 138 = .ok (.iload 4, 2) := by decide +kernel
theorem dX7_findMended_140 : decode cX7_findMended 140 = .ok (.iload 5, 2) := by decide +kernel
theorem dX7_findMended_142 : decode cX7_findMended 142 = .ok (.iload_n 1, 1) := by decide +kernel
theorem dX7_findMended_143 : decode cX7_findMended 143 = .ok (.iload_n 2, 1) := by decide +kernel
theorem dX7_findMended_144 : decode cX7_findMended 144 = .ok (.invokevirtual 136, 3) := by decide +kernel
theorem dX7_findMended_147 : decode cX7_findMended 147 = .ok (.iload 6, 2) := by decide +kernel
theorem dX7_findMended_149 : decode cX7_findMended 149 = .ok (.if_icmp .ne 102, 3) := by decide +kernel
theorem dX7_findMended_152 : decode cX7_findMended 152 = .ok (.aload_n 0, 1) := by decide +kernel
theorem dX7_findMended_153 : decode cX7_findMended 153 = .ok (.getfield 13, 3) := by decide +kernel
theorem dX7_findMended_156 : decode cX7_findMended 156 = .ok (.iload_n 3, 1) := by decide +kernel
theorem dX7_findMended_157 : decode cX7_findMended 157 = .ok (.iaload, 1) := by decide +kernel
theorem dX7_findMended_158 : decode cX7_findMended 158 = .ok (.istore 9, 2) := by decide +kernel
theorem dX7_findMended_160 : decode cX7_findMended 160 = .ok (.iload 4, 2) := by decide +kernel
theorem dX7_findMended_162 : decode cX7_findMended 162 = .ok (.istore 10, 2) := by decide +kernel
theorem dX7_findMended_164 : decode cX7_findMended 164 = .ok (.iload 4, 2) := by decide +kernel
theorem dX7_findMended_166 : decode cX7_findMended 166 = .ok (.iload 5, 2) := by decide +kernel
theorem dX7_findMended_168 : decode cX7_findMended 168 = .ok (.ifCond .gt 11, 3) := by decide +kernel
theorem dX7_findMended_171 : decode cX7_findMended 171 = .ok (.iload 9, 2) := by decide +kernel
theorem dX7_findMended_173 : decode cX7_findMended 173 = .ok (.invokestatic 54, 3) := by decide +kernel
theorem dX7_findMended_176 : decode cX7_findMended 176 = .ok (.ifCond .ne 7, 3) := by decide +kernel
theorem dX7_findMended_179 : decode cX7_findMended 179 = .ok (.iconst 0, 1) := by decide +kernel
theorem dX7_findMended_180 : decode cX7_findMended 180 = .ok (.goto 24, 3) := by decide +kernel
theorem dX7_findMended_183 : decode cX7_findMended 183 = .ok (.iload 4, 2) := by decide +kernel
theorem dX7_findMended_185 : decode cX7_findMended 185 = .ok (.ifCond .le 18, 3) := by decide +kernel
theorem dX7_findMended_188 : decode cX7_findMended 188 = .ok (.iload 9, 2) := by decide +kernel
theorem dX7_findMended_190 : decode cX7_findMended 190 = .ok (.iload_n 1, 1) := by decide +kernel
theorem dX7_findMended_191 : decode cX7_findMended 191 = .ok (.iload 4, 2) := by decide +kernel
theorem dX7_findMended_193 : decode cX7_findMended 193 = .ok (.invokestatic 119, 3) := by decide +kernel
theorem dX7_findMended_196 : decode cX7_findMended 196 = .ok (.if_icmp .ne 7, 3) := by decide +kernel
theorem dX7_findMended_199 : decode cX7_findMended 199 = .ok (.iconst (-1), 1) := by decide +kernel
theorem dX7_findMended_200 : decode cX7_findMended 200 = .ok (.goto 4, 3) := by decide +kernel
theorem dX7_findMended_203 : decode cX7_findMended 203 = .ok (.iconst 1, 1) := by decide +kernel
theorem dX7_findMended_204 : decode cX7_findMended 204 = .ok (.iadd, 1) := by decide +kernel
theorem dX7_findMended_205 : decode cX7_findMended 205 = .ok (.istore 4, 2) := by decide +kernel
theorem dX7_findMended_207 : decode cX7_findMended 207 = .ok (.iload 5, 2) := by decide +kernel
theorem dX7_findMended_209 : decode cX7_findMended 209 = .ok (.ifCond .le 10, 3) := by decide +kernel
theorem dX7_findMended_212 : decode cX7_findMended 212 = .ok (.iload 5, 2) := by decide +kernel
theorem dX7_findMended_214 : decode cX7_findMended 214 = .ok (.iconst 1, 1) := by decide +kernel
theorem dX7_findMended_215 : decode cX7_findMended 215 = .ok (.isub, 1) := by decide +kernel
theorem dX7_findMended_216 : decode cX7_findMended 216 = .ok (.goto 20, 3) := by decide +kernel
theorem dX7_findMended_219 : decode cX7_findMended 219 = .ok (.iload 9, 2) := by decide +kernel
theorem dX7_findMended_221 : decode cX7_findMended 221 = .ok (.bipush 124, 2) := by decide +kernel
theorem dX7_findMended_223 : decode cX7_findMended 223 = .ok (.if_icmp .ne 12, 3) := by decide +kernel
theorem dX7_findMended_226 : decode cX7_findMended 226 = .ok (.iload_n 2, 1) := by decide +kernel
theorem dX7_findMended_227 : decode cX7_findMended 227 = .ok (.iload 10, 2) := by decide +kernel
theorem dX7_findMended_229 : decode cX7_findMended 229 = .ok (.invokestatic 116, 3) := by decide +kernel
theorem dX7_findMended_232 : decode cX7_findMended 232 = .ok (.goto 4, 3) := by decide +kernel
theorem dX7_findMended_235 : decode cX7_findMended 235 = .ok (.iconst 0, 1) := by decide +kernel
theorem dX7_findMended_236 : decode cX7_findMended 236 = .ok (.istore 5, 2) := by decide +kernel
theorem dX7_findMended_238 : decode cX7_findMended 238 = .ok (.aload_n 0, 1) := by decide +kernel
theorem dX7_findMended_239 : decode cX7_findMended 239 = .ok (.iload 9, 2) := by decide +kernel
theorem dX7_findMended_241 : decode cX7_findMended 241 = .ok (.iconst 3, 1) := by decide +kernel
theorem dX7_findMended_242 : decode cX7_findMended 242 = .ok (.invokevirtual 155, 3) := by decide +kernel
theorem dX7_findMended_245 : decode cX7_findMended 245 = .ok (.iinc 3 1, 3) := by decide +kernel
theorem dX7_findMended_248 : decode cX7_findMended 248 = .ok (.goto 237, 3) := by decide +kernel
theorem dX7_findMended_251 : decode cX7_findMended 251 = .ok (.iload 8, 2) := by decide +kernel
theorem dX7_findMended_253 : decode cX7_findMended 253 = .ok (.ifCond .ne 34, 3) := by decide +kernel
theorem dX7_findMended_256 : decode cX7_findMended 256 = .ok (.aload_n 0, 1) := by decide +kernel
theorem dX7_findMended_257 : decode cX7_findMended 257 = .ok (.iload_n 3, 1) := by decide +kernel
theorem dX7_findMended_258 : decode cX7_findMended 258 = .ok (.iload 4, 2) := by decide +kernel
theorem dX7_findMended_260 : decode cX7_findMended 260 = .ok (.iload 5, 2) := by decide +kernel
theorem dX7_findMended_262 : decode cX7_findMended 262 = .ok (.iconst 0, 1) := by decide +kernel
theorem dX7_findMended_263 : decode cX7_findMended 263 = .ok (.invokevirtual 146, 3) := by decide +kernel
theorem dX7_findMended_266 : decode cX7_findMended 266 = .ok (.iload 6, 2) := by decide +kernel
theorem dX7_findMended_268 : decode cX7_findMended 268 = .ok (.if_icmp .ne 19, 3) := by decide +kernel
theorem dX7_findMended_271 : decode cX7_findMended 271 = .ok (.aload_n 0, 1) := by decide +kernel
theorem dX7_findMended_272 : decode cX7_findMended 272 = .ok (.iload 7, 2) := by decide +kernel
theorem dX7_findMended_274 : decode cX7_findMended 274 = .ok (.iconst 2, 1) := by decide +kernel
theorem dX7_findMended_275 : decode cX7_findMended 275 = .ok (.invokevirtual 155, 3) := by decide +kernel
theorem dX7_findMended_278 : decode cX7_findMended 278 = .ok (.iinc 5 (-1), 3) := by decide +kernel
theorem dX7_findMended_281 : decode cX7_findMended 281 = .ok (.iinc 3 1, 3) := by decide +kernel
theorem dX7_findMended_284 : decode cX7_findMended 284 = .ok (.goto 201, 3) := by decide +kernel
theorem dX7_findMended_287 : decode cX7_findMended 287 = .ok (.iload 8, 2) := by decide +kernel
theorem dX7_findMended_289 : decode cX7_findMended 289 = .ok (.ifCond .ne 38, 3) := by decide +kernel
theorem dX7_findMended_292 : decode cX7_findMended 292 = .ok (.aload_n 0, 1) := by decide +kernel
theorem dX7_findMended_293 : decode cX7_findMended 293 = .ok (.iload_n 3, 1) := by decide +kernel
theorem dX7_findMended_294 : decode cX7_findMended 294 = .ok (.iload 4, 2) := by decide +kernel
theorem dX7_findMended_296 : decode cX7_findMended 296 = .ok (.iload 5, 2) := by decide +kernel
theorem dX7_findMended_298 : decode cX7_findMended 298 = .ok (.iconst 1, 1) := by decide +kernel
theorem dX7_findMended_299 : decode cX7_findMended 299 = .ok (.invokevirtual 146, 3) := by decide +kernel
theorem dX7_findMended_302 : decode cX7_findMended 302 = .ok (.iload 6, 2) := by decide +kernel
theorem dX7_findMended_304 : decode cX7_findMended 304 = .ok (.if_icmp .ne 23, 3) := by decide +kernel
theorem dX7_findMended_307 : decode cX7_findMended 307 = .ok (.aload_n 0, 1) := by decide +kernel
theorem dX7_findMended_308 : decode cX7_findMended 308 = .ok (.iload_n 1, 1) := by decide +kernel
theorem dX7_findMended_309 : decode cX7_findMended 309 = .ok (.iload 4, 2) := by decide +kernel
theorem dX7_findMended_311 : decode cX7_findMended 311 = .ok (.invokestatic 62, 3) := by decide +kernel
theorem dX7_findMended_314 : decode cX7_findMended 314 = .ok (.iconst 2, 1) := by decide +kernel
theorem dX7_findMended_315 : decode cX7_findMended 315 = .ok (.invokevirtual 155, 3) := by decide +kernel
theorem dX7_findMended_318 : decode cX7_findMended 318 = .ok (.iinc 4 1, 3) := by decide +kernel
theorem dX7_findMended_321 : decode cX7_findMended 321 = .ok (.iinc 3 1, 3) := by decide +kernel
theorem dX7_findMended_324 : decode cX7_findMended 324 = .ok (.goto 161, 3) := by decide +kernel
theorem dX7_findMended_327 : decode cX7_findMended 327 = .ok (.iload 8, 2) := by decide +kernel
theorem dX7_findMended_329 : decode cX7_findMended 329 = .ok (.ifCond .ne 38, 3) := by decide +kernel
theorem dX7_findMended_332 : decode cX7_findMended 332 = .ok (.aload_n 0, 1) := by decide +kernel
theorem dX7_findMended_333 : decode cX7_findMended 333 = .ok (.iload_n 3, 1) := by decide +kernel
theorem dX7_findMended_334 : decode cX7_findMended 334 = .ok (.iload 4, 2) := by decide +kernel
theorem dX7_findMended_336 : decode cX7_findMended 336 = .ok (.iload 5, 2) := by decide +kernel
theorem dX7_findMended_338 : decode cX7_findMended 338 = .ok (.iconst (-1), 1) := by decide +kernel
theorem dX7_findMended_339 : decode cX7_findMended 339 = .ok (.invokevirtual 146, 3) := by decide +kernel
theorem dX7_findMended_342 : decode cX7_findMended 342 = .ok (.iload 6, 2) := by decide +kernel
theorem dX7_findMended_344 : decode cX7_findMended 344 = .ok (.if_icmp .ne 23, 3) := by decide +kernel
theorem dX7_findMended_347 : decode cX7_findMended 347 = .ok (.aload_n 0, 1) := by decide +kernel
theorem dX7_findMended_348 : decode cX7_findMended 348 = .ok (.iload_n 1, 1) := by decide +kernel
theorem dX7_findMended_349 : decode cX7_findMended 349 = .ok (.iload 4, 2) := by decide +kernel
theorem dX7_findMended_351 : decode cX7_findMended 351 = .ok (.invokestatic 119, 3) := by decide +kernel
theorem dX7_findMended_354 : decode cX7_findMended 354 = .ok (.iconst 2, 1) := by decide +kernel
theorem dX7_findMended_355 : decode cX7_findMended 355 = .ok (.invokevirtual 155, 3) := by decide +kernel
theorem dX7_findMended_358 : decode cX7_findMended 358 = .ok (.iinc 4 (-1), 3) := by decide +kernel
theorem dX7_findMended_361 : decode cX7_findMended 361 = .ok (.iinc 3 1, 3) := by decide +kernel
theorem dX7_findMended_364 : decode cX7_findMended 364 = .ok (.goto 121, 3) := by decide +kernel
theorem dX7_findMended_367 : decode cX7_findMended 367 = .ok (.iload 8, 2) := by decide +kernel
theorem dX7_findMended_369 : decode cX7_findMended 369 = .ok (.ifCond .ne 33, 3) := by decide +kernel
theorem dX7_findMended_372 : decode cX7_findMended 372 = .ok (.aload_n 0, 1) := by decide +kernel
theorem dX7_findMended_373 : decode cX7_findMended 373 = .ok (.iload_n 3, 1) := by decide +kernel
theorem dX7_findMended_374 : decode cX7_findMended 374 = .ok (.iload 4, 2) := by decide +kernel
theorem dX7_findMended_376 : decode cX7_findMended 376 = .ok (.iload 5, 2) := by decide +kernel
theorem dX7_findMended_378 : decode cX7_findMended 378 = .ok (.invokevirtual 140, 3) := by decide +kernel
theorem dX7_findMended_381 : decode cX7_findMended 381 = .ok (.iload 6, 2) := by decide +kernel
theorem dX7_findMended_383 : decode cX7_findMended 383 = .ok (.if_icmp .ne 19, 3) := by decide +kernel
theorem dX7_findMended_386 : decode cX7_findMended 386 = .ok (.aload_n 0, 1) := by decide +kernel
theorem dX7_findMended_387 : decode cX7_findMended 387 = .ok (.getfield 43, 3) := by decide +kernel
theorem dX7_findMended_390 : decode cX7_findMended 390 = .ok (.iconst 1, 1) := by decide +kernel
theorem dX7_findMended_391 : decode cX7_findMended 391 = .ok (.dup2, 1) := by decide +kernel
theorem dX7_findMended_392 : decode cX7_findMended 392 = .ok (.iaload, 1) := by decide +kernel
theorem dX7_findMended_393 : decode cX7_findMended 393 = .ok (.iconst 1, 1) := by decide +kernel
theorem dX7_findMended_394 : decode cX7_findMended 394 = .ok (.iadd, 1) := by decide +kernel
theorem dX7_findMended_395 : decode cX7_findMended 395 = .ok (.iastore, 1) := by decide +kernel
theorem dX7_findMended_396 : decode cX7_findMended 396 = .ok (.iinc 3 1, 3) := by decide +kernel
theorem dX7_findMended_399 : decode cX7_findMended 399 = .ok (.goto 86, 3) := by decide +kernel
theorem dX7_findMended_402 : decode cX7_findMended 402 = .ok (.iload 5, 2) := by decide +kernel
theorem dX7_findMended_404 : decode cX7_findMended 404 = .ok (.ifCond .le 16, 3) := by decide +kernel
theorem dX7_findMended_407 : decode cX7_findMended 407 = .ok (.aload_n 0, 1) := by decide +kernel
theorem dX7_findMended_408 : decode cX7_findMended 408 = .ok (.iload 7, 2) := by decide +kernel
theorem dX7_findMended_410 : decode cX7_findMended 410 = .ok (.iconst 0, 1) := by decide +kernel
theorem dX7_findMended_411 : decode cX7_findMended 411 = .ok (.invokevirtual 155, 3) := by decide +kernel
theorem dX7_findMended_414 : decode cX7_findMended 414 = .ok (.iinc 5 (-1), 3) := by decide +kernel
theorem dX7_findMended_417 : decode cX7_findMended 417 = .ok (.goto 68, 3) := by decide +kernel
theorem dX7_findMended_420 : decode cX7_findMended 420 = .ok (.iload 4, 2) := by decide +kernel
theorem dX7_findMended_422 : decode cX7_findMended 422 = .ok (.bipush 6, 2) := by decide +kernel
theorem dX7_findMended_424 : decode cX7_findMended 424 = .ok (.if_icmp .ge 47, 3) := by decide +kernel
theorem dX7_findMended_427 : decode cX7_findMended 427 = .ok (.aload_n 0, 1) := by decide +kernel
theorem dX7_findMended_428 : decode cX7_findMended 428 = .ok (.getfield 13, 3) := by decide +kernel
theorem dX7_findMended_431 : decode cX7_findMended 431 = .ok (.bipush 123, 2) := by decide +kernel
theorem dX7_findMended_433 : decode cX7_findMended 433 = .ok (.iaload, 1) := by decide +kernel
theorem dX7_findMended_434 : decode cX7_findMended 434 = .ok (.aload_n 0, 1) := by decide +kernel
theorem dX7_findMended_435 : decode cX7_findMended 435 = .ok (.getfield 37, 3) := by decide +kernel
theorem dX7_findMended_438 : decode cX7_findMended 438 = .ok (.iload_n 3, 1) := by decide +kernel
theorem dX7_findMended_439 : decode cX7_findMended 439 = .ok (.iload 4, 2) := by decide +kernel
theorem dX7_findMended_441 : decode cX7_findMended 441 = .ok (.iconst 1, 1) := by decide +kernel
theorem dX7_findMended_442 : decode cX7_findMended 442 = .ok (.iadd, 1) := by decide +kernel
theorem dX7_findMended_443 : decode cX7_findMended 443 = .ok (.iconst 0, 1) := by decide +kernel
theorem dX7_findMended_444 : decode cX7_findMended 444 = .ok (.invokestatic 131, 3) := by decide +kernel
theorem dX7_findMended_447 : decode cX7_findMended 447 = .ok (.iaload, 1) := by decide +kernel
theorem dX7_findMended_448 : decode cX7_findMended 448 = .ok (.iadd, 1) := by decide +kernel
theorem dX7_findMended_449 : decode cX7_findMended 449 = .ok (.iload 6, 2) := by decide +kernel
theorem dX7_findMended_451 : decode cX7_findMended 451 = .ok (.if_icmp .ne 20, 3) := by decide +kernel
theorem dX7_findMended_454 : decode cX7_findMended 454 = .ok (.aload_n 0, 1) := by decide +kernel
theorem dX7_findMended_455 : decode cX7_findMended 455 = .ok (.iload_n 1, 1) := by decide +kernel
theorem dX7_findMended_456 : decode cX7_findMended 456 = .ok (.iload 4, 2) := by decide +kernel
theorem dX7_findMended_458 : decode cX7_findMended 458 = .ok (.invokestatic 62, 3) := by decide +kernel
theorem dX7_findMended_461 : decode cX7_findMended 461 = .ok (.iconst 0, 1) := by decide +kernel
theorem dX7_findMended_462 : decode cX7_findMended 462 = .ok (.invokevirtual 155, 3) := by decide +kernel
theorem dX7_findMended_465 : decode cX7_findMended 465 = .ok (.iinc 4 1, 3) := by decide +kernel
theorem dX7_findMended_468 : decode cX7_findMended 468 = .ok (.goto 17, 3) := by decide +kernel
theorem dX7_findMended_471 : decode cX7_findMended 471 = .ok (.aload_n 0, 1) := by decide +kernel
theorem dX7_findMended_472 : decode cX7_findMended 472 = .ok (.iload_n 1, 1) := by decide +kernel
theorem dX7_findMended_473 : decode cX7_findMended 473 = .ok (.iload 4, 2) := by decide +kernel
theorem dX7_findMended_475 : decode cX7_findMended 475 = .ok (.invokestatic 119, 3) := by decide +kernel
theorem dX7_findMended_478 : decode cX7_findMended 478 = .ok (.iconst 0, 1) := by decide +kernel
theorem dX7_findMended_479 : decode cX7_findMended 479 = .ok (.invokevirtual 155, 3) := by decide +kernel
theorem dX7_findMended_482 : decode cX7_findMended 482 = .ok (.iinc 4 (-1), 3) := by decide +kernel
theorem dX7_findMended_485 : decode cX7_findMended 485 = .ok (.goto (-428), 3) := by decide +kernel
theorem dX7_findMended_488 : decode cX7_findMended 488 = .ok (.return_, 1) := by decide +kernel
theorem dX7_least_0 : decode cX7_least 0 = .ok (.aload_n 0, 1) := by decide +kernel
theorem dX7_least_1 : decode cX7_least 1 = .ok (.aload_n 0, 1) := by decide +kernel
theorem dX7_least_2 : decode cX7_least 2 = .ok (.getfield 13, 3) := by decide +kernel
theorem dX7_least_5 : decode cX7_least 5 = .ok (.bipush 121, 2) := by decide +kernel
theorem dX7_least_7 : decode cX7_least 7 = .ok (.iaload, 1) := by decide +kernel
theorem dX7_least_8 : decode cX7_least 8 = .ok (.aload_n 0, 1) := by decide +kernel
theorem dX7_least_9 : decode cX7_least 9 = .ok (.getfield 13, 3) := by decide +kernel
theorem dX7_least_12 : decode cX7_least 12 = .ok (.bipush 122, 2) := by decide +kernel
theorem dX7_least_14 : decode cX7_least 14 = .ok (.iaload, 1) := by decide +kernel
theorem dX7_least_15 : decode cX7_least 15 = .ok (.invokevirtual 152, 3) := by decide +kernel
theorem dX7_least_18 : decode cX7_least 18 = .ok (.ireturn, 1) := by decide +kernel
theorem dX7_changes_0 : decode cX7_changes 0 = .ok (.iload_n 1, 1) := by decide +kernel
theorem dX7_changes_1 : decode cX7_changes 1 = .ok (.i2l, 1) := by decide +kernel
theorem dX7_changes_2 : decode cX7_changes 2 = .ok (.lconst 0, 1) := by decide +kernel
theorem dX7_changes_3 : decode cX7_changes 3 = .ok (.ldc2_w 95, 3) := by decide +kernel
theorem dX7_changes_6 : decode cX7_changes 6 = .ok (.invokestatic 50, 3) := by decide +kernel
theorem dX7_changes_9 : decode cX7_changes 9 = .ok (.ifCond .ne 5, 3) := by decide +kernel
theorem dX7_changes_12 : decode cX7_changes 12 = .ok (.iconst (-1), 1) := by decide +kernel
theorem dX7_changes_13 : decode cX7_changes 13 = .ok (.ireturn, 1) := by decide +kernel
theorem dX7_changes_14 : decode cX7_changes 14 = .ok (.aload_n 0, 1) := by decide +kernel
theorem dX7_changes_15 : decode cX7_changes 15 = .ok (.invokevirtual 158, 3) := by decide +kernel
theorem dX7_changes_18 : decode cX7_changes 18 = .ok (.aload_n 0, 1) := by decide +kernel
theorem dX7_changes_19 : decode cX7_changes 19 = .ok (.getfield 43, 3) := by decide +kernel
theorem dX7_changes_22 : decode cX7_changes 22 = .ok (.iload_n 1, 1) := by decide +kernel
theorem dX7_changes_23 : decode cX7_changes 23 = .ok (.iaload, 1) := by decide +kernel
theorem dX7_changes_24 : decode cX7_changes 24 = .ok (.ireturn, 1) := by decide +kernel
theorem dX7_mended_0 : decode cX7_mended 0 = .ok (.iload_n 1, 1) := by decide +kernel
theorem dX7_mended_1 : decode cX7_mended 1 = .ok (.iconst (-1), 1) := by decide +kernel
theorem dX7_mended_2 : decode cX7_mended 2 = .ok (.if_icmp .ge 5, 3) := by decide +kernel
theorem dX7_mended_5 : decode cX7_mended 5 = .ok (.iconst (-1), 1) := by decide +kernel
theorem dX7_mended_6 : decode cX7_mended 6 = .ok (.ireturn, 1) := by decide +kernel
theorem dX7_mended_7 : decode cX7_mended 7 = .ok (.aload_n 0, 1) := by decide +kernel
theorem dX7_mended_8 : decode cX7_mended 8 = .ok (.invokevirtual 158, 3) := by decide +kernel
theorem dX7_mended_11 : decode cX7_mended 11 = .ok (.iload_n 1, 1) := by decide +kernel
theorem dX7_mended_12 : decode cX7_mended 12 = .ok (.ifCond .ge 10, 3) := by decide +kernel
theorem dX7_mended_15 : decode cX7_mended 15 = .ok (.aload_n 0, 1) := by decide +kernel
theorem dX7_mended_16 : decode cX7_mended 16 = .ok (.getfield 149, 3) := by decide +kernel
theorem dX7_mended_19 : decode cX7_mended 19 = .ok (.goto 22, 3) := by decide +kernel
theorem dX7_mended_22 : decode cX7_mended 22 = .ok (.iload_n 1, 1) := by decide +kernel
theorem dX7_mended_23 : decode cX7_mended 23 = .ok (.aload_n 0, 1) := by decide +kernel
theorem dX7_mended_24 : decode cX7_mended 24 = .ok (.getfield 149, 3) := by decide +kernel
theorem dX7_mended_27 : decode cX7_mended 27 = .ok (.if_icmp .ge 12, 3) := by decide +kernel
theorem dX7_mended_30 : decode cX7_mended 30 = .ok (.aload_n 0, 1) := by decide +kernel
theorem dX7_mended_31 : decode cX7_mended 31 = .ok (.getfield 40, 3) := by decide +kernel
theorem dX7_mended_34 : decode cX7_mended 34 = .ok (.iload_n 1, 1) := by decide +kernel
theorem dX7_mended_35 : decode cX7_mended 35 = .ok (.iaload, 1) := by decide +kernel
theorem dX7_mended_36 : decode cX7_mended 36 = .ok (.goto 5, 3) := by decide +kernel
theorem dX7_mended_39 : decode cX7_mended 39 = .ok (.bipush (-4), 2) := by decide +kernel
theorem dX7_mended_41 : decode cX7_mended 41 = .ok (.ireturn, 1) := by decide +kernel
theorem dX7_mend_0 : decode cX7_mend 0 = .ok (.aload_n 0, 1) := by decide +kernel
theorem dX7_mend_1 : decode cX7_mend 1 = .ok (.invokevirtual 126, 3) := by decide +kernel
theorem dX7_mend_4 : decode cX7_mend 4 = .ok (.aload_n 0, 1) := by decide +kernel
theorem dX7_mend_5 : decode cX7_mend 5 = .ok (.getfield 102, 3) := by decide +kernel
theorem dX7_mend_8 : decode cX7_mend 8 = .ok (.ifCond .ne 6, 3) := by decide +kernel
theorem dX7_mend_11 : decode cX7_mend 11 = .ok (.bipush (-2), 2) := by decide +kernel
theorem dX7_mend_13 : decode cX7_mend 13 = .ok (.ireturn, 1) := by decide +kernel
theorem dX7_mend_14 : decode cX7_mend 14 = .ok (.aload_n 0, 1) := by decide +kernel
theorem dX7_mend_15 : decode cX7_mend 15 = .ok (.invokevirtual 158, 3) := by decide +kernel
theorem dX7_mend_18 : decode cX7_mend 18 = .ok (.aload_n 0, 1) := by decide +kernel
theorem dX7_mend_19 : decode cX7_mend 19 = .ok (.getfield 149, 3) := by decide +kernel
theorem dX7_mend_22 : decode cX7_mend 22 = .ok (.bipush 120, 2) := by decide +kernel
theorem dX7_mend_24 : decode cX7_mend 24 = .ok (.if_icmp .le 6, 3) := by decide +kernel
theorem dX7_mend_27 : decode cX7_mend 27 = .ok (.bipush (-3), 2) := by decide +kernel
theorem dX7_mend_29 : decode cX7_mend 29 = .ok (.ireturn, 1) := by decide +kernel
theorem dX7_mend_30 : decode cX7_mend 30 = .ok (.aload_n 0, 1) := by decide +kernel
theorem dX7_mend_31 : decode cX7_mend 31 = .ok (.getfield 37, 3) := by decide +kernel
theorem dX7_mend_34 : decode cX7_mend 34 = .ok (.iconst 0, 1) := by decide +kernel
theorem dX7_mend_35 : decode cX7_mend 35 = .ok (.iaload, 1) := by decide +kernel
theorem dX7_mend_36 : decode cX7_mend 36 = .ok (.istore_n 1, 1) := by decide +kernel
theorem dX7_mend_37 : decode cX7_mend 37 = .ok (.aload_n 0, 1) := by decide +kernel
theorem dX7_mend_38 : decode cX7_mend 38 = .ok (.invokevirtual 86, 3) := by decide +kernel
theorem dX7_mend_41 : decode cX7_mend 41 = .ok (.iconst 0, 1) := by decide +kernel
theorem dX7_mend_42 : decode cX7_mend 42 = .ok (.istore_n 2, 1) := by decide +kernel
theorem dX7_mend_43 : decode cX7_mend 43 = .ok (.iload_n 2, 1) := by decide +kernel
theorem dX7_mend_44 : decode cX7_mend 44 = .ok (.aload_n 0, 1) := by decide +kernel
theorem dX7_mend_45 : decode cX7_mend 45 = .ok (.getfield 149, 3) := by decide +kernel
theorem dX7_mend_48 : decode cX7_mend 48 = .ok (.if_icmp .ge 21, 3) := by decide +kernel
theorem dX7_mend_51 : decode cX7_mend 51 = .ok (.aload_n 0, 1) := by decide +kernel
theorem dX7_mend_52 : decode cX7_mend 52 = .ok (.getfield 13, 3) := by decide +kernel
theorem dX7_mend_55 : decode cX7_mend 55 = .ok (.iload_n 2, 1) := by decide +kernel
theorem dX7_mend_56 : decode cX7_mend 56 = .ok (.aload_n 0, 1) := by decide +kernel
theorem dX7_mend_57 : decode cX7_mend 57 = .ok (.getfield 40, 3) := by decide +kernel
theorem dX7_mend_60 : decode cX7_mend 60 = .ok (.iload_n 2, 1) := by decide +kernel
theorem dX7_mend_61 : decode cX7_mend 61 = .ok (.iaload, 1) := by decide +kernel
theorem dX7_mend_62 : decode cX7_mend 62 = .ok (.iastore, 1) := by decide +kernel
theorem dX7_mend_63 : decode cX7_mend 63 = .ok (.iinc 2 1, 3) := by decide +kernel
theorem dX7_mend_66 : decode cX7_mend 66 = .ok (.goto (-23), 3) := by decide +kernel
theorem dX7_mend_69 : decode cX7_mend 69 = .ok (.aload_n 0, 1) := by decide +kernel
theorem dX7_mend_70 : decode cX7_mend 70 = .ok (.getfield 13, 3) := by decide +kernel
theorem dX7_mend_73 : decode cX7_mend 73 = .ok (.bipush 120, 2) := by decide +kernel
theorem dX7_mend_75 : decode cX7_mend 75 = .ok (.aload_n 0, 1) := by decide +kernel
theorem dX7_mend_76 : decode cX7_mend 76 = .ok (.getfield 149, 3) := by decide +kernel
theorem dX7_mend_79 : decode cX7_mend 79 = .ok (.iastore, 1) := by decide +kernel
theorem dX7_mend_80 : decode cX7_mend 80 = .ok (.iload_n 1, 1) := by decide +kernel
theorem dX7_mend_81 : decode cX7_mend 81 = .ok (.ireturn, 1) := by decide +kernel
theorem dX7_would_0 : decode cX7_would 0 = .ok (.iload_n 1, 1) := by decide +kernel
theorem dX7_would_1 : decode cX7_would 1 = .ok (.i2l, 1) := by decide +kernel
theorem dX7_would_2 : decode cX7_would 2 = .ok (.lconst 0, 1) := by decide +kernel
theorem dX7_would_3 : decode cX7_would 3 = .ok (.ldc2_w 161, 3) := by decide +kernel
theorem dX7_would_6 : decode cX7_would 6 = .ok (.invokestatic 50, 3) := by decide +kernel
theorem dX7_would_9 : decode cX7_would 9 = .ok (.ifCond .eq 24, 3) := by decide +kernel
theorem dX7_would_12 : decode cX7_would 12 = .ok (.iload_n 2, 1) := by decide +kernel
theorem dX7_would_13 : decode cX7_would 13 = .ok (.i2l, 1) := by decide +kernel
theorem dX7_would_14 : decode cX7_would 14 = .ok (.lconst 0, 1) := by decide +kernel
theorem dX7_would_15 : decode cX7_would 15 = .ok (.ldc2_w 95, 3) := by decide +kernel
theorem dX7_would_18 : decode cX7_would 18 = .ok (.invokestatic 50, 3) := by decide +kernel
theorem dX7_would_21 : decode cX7_would 21 = .ok (.ifCond .eq 12, 3) := by decide +kernel
theorem dX7_would_24 : decode cX7_would 24 = .ok (.aload_n 0, 1) := by decide +kernel
theorem dX7_would_25 : decode cX7_would 25 = .ok (.iload_n 1, 1) := by decide +kernel
theorem dX7_would_26 : decode cX7_would 26 = .ok (.iload_n 2, 1) := by decide +kernel
theorem dX7_would_27 : decode cX7_would 27 = .ok (.invokevirtual 152, 3) := by decide +kernel
theorem dX7_would_30 : decode cX7_would 30 = .ok (.goto 4, 3) := by decide +kernel
theorem dX7_would_33 : decode cX7_would 33 = .ok (.iconst (-1), 1) := by decide +kernel
theorem dX7_would_34 : decode cX7_would 34 = .ok (.ireturn, 1) := by decide +kernel
theorem dX7_retell_0 : decode cX7_retell 0 = .ok (.iload_n 1, 1) := by decide +kernel
theorem dX7_retell_1 : decode cX7_retell 1 = .ok (.i2l, 1) := by decide +kernel
theorem dX7_retell_2 : decode cX7_retell 2 = .ok (.lconst 0, 1) := by decide +kernel
theorem dX7_retell_3 : decode cX7_retell 3 = .ok (.ldc2_w 161, 3) := by decide +kernel
theorem dX7_retell_6 : decode cX7_retell 6 = .ok (.invokestatic 50, 3) := by decide +kernel
theorem dX7_retell_9 : decode cX7_retell 9 = .ok (.ifCond .ne 5, 3) := by decide +kernel
theorem dX7_retell_12 : decode cX7_retell 12 = .ok (.iconst (-1), 1) := by decide +kernel
theorem dX7_retell_13 : decode cX7_retell 13 = .ok (.ireturn, 1) := by decide +kernel
theorem dX7_retell_14 : decode cX7_retell 14 = .ok (.aload_n 0, 1) := by decide +kernel
theorem dX7_retell_15 : decode cX7_retell 15 = .ok (.getfield 13, 3) := by decide +kernel
theorem dX7_retell_18 : decode cX7_retell 18 = .ok (.bipush 121, 2) := by decide +kernel
theorem dX7_retell_20 : decode cX7_retell 20 = .ok (.iaload, 1) := by decide +kernel
theorem dX7_retell_21 : decode cX7_retell 21 = .ok (.istore_n 2, 1) := by decide +kernel
theorem dX7_retell_22 : decode cX7_retell 22 = .ok (.aload_n 0, 1) := by decide +kernel
theorem dX7_retell_23 : decode cX7_retell 23 = .ok (.invokevirtual 126, 3) := by decide +kernel
theorem dX7_retell_26 : decode cX7_retell 26 = .ok (.iload_n 2, 1) := by decide +kernel
theorem dX7_retell_27 : decode cX7_retell 27 = .ok (.iload_n 1, 1) := by decide +kernel
theorem dX7_retell_28 : decode cX7_retell 28 = .ok (.if_icmp .eq 10, 3) := by decide +kernel
theorem dX7_retell_31 : decode cX7_retell 31 = .ok (.aload_n 0, 1) := by decide +kernel
theorem dX7_retell_32 : decode cX7_retell 32 = .ok (.getfield 102, 3) := by decide +kernel
theorem dX7_retell_35 : decode cX7_retell 35 = .ok (.ifCond .le 6, 3) := by decide +kernel
theorem dX7_retell_38 : decode cX7_retell 38 = .ok (.bipush (-2), 2) := by decide +kernel
theorem dX7_retell_40 : decode cX7_retell 40 = .ok (.ireturn, 1) := by decide +kernel
theorem dX7_retell_41 : decode cX7_retell 41 = .ok (.aload_n 0, 1) := by decide +kernel
theorem dX7_retell_42 : decode cX7_retell 42 = .ok (.invokevirtual 86, 3) := by decide +kernel
theorem dX7_retell_45 : decode cX7_retell 45 = .ok (.iconst 0, 1) := by decide +kernel
theorem dX7_retell_46 : decode cX7_retell 46 = .ok (.istore_n 3, 1) := by decide +kernel
theorem dX7_retell_47 : decode cX7_retell 47 = .ok (.iload_n 3, 1) := by decide +kernel
theorem dX7_retell_48 : decode cX7_retell 48 = .ok (.aload_n 0, 1) := by decide +kernel
theorem dX7_retell_49 : decode cX7_retell 49 = .ok (.getfield 13, 3) := by decide +kernel
theorem dX7_retell_52 : decode cX7_retell 52 = .ok (.bipush 120, 2) := by decide +kernel
theorem dX7_retell_54 : decode cX7_retell 54 = .ok (.iaload, 1) := by decide +kernel
theorem dX7_retell_55 : decode cX7_retell 55 = .ok (.if_icmp .ge 172, 3) := by decide +kernel
theorem dX7_retell_58 : decode cX7_retell 58 = .ok (.aload_n 0, 1) := by decide +kernel
theorem dX7_retell_59 : decode cX7_retell 59 = .ok (.getfield 13, 3) := by decide +kernel
theorem dX7_retell_62 : decode cX7_retell 62 = .ok (.iload_n 3, 1) := by decide +kernel
theorem dX7_retell_63 : decode cX7_retell 63 = .ok (.iaload, 1) := by decide +kernel
theorem dX7_retell_64 : decode cX7_retell 64 = .ok (.invokestatic 54, 3) := by decide +kernel
theorem dX7_retell_67 : decode cX7_retell 67 = .ok (.ifCond .eq 142, 3) := by decide +kernel
theorem dX7_retell_70 : decode cX7_retell 70 = .ok (.iconst 3, 1) := by decide +kernel
theorem dX7_retell_71 : decode cX7_retell 71 = .ok (.istore 4, 2) := by decide +kernel
theorem dX7_retell_73 : decode cX7_retell 73 = .ok (.iload 4, 2) := by decide +kernel
theorem dX7_retell_75 : decode cX7_retell 75 = .ok (.ifCond .lt 131, 3) := by decide +kernel
theorem dX7_retell_78 : decode cX7_retell 78 = .ok (.aload_n 0, 1) := by decide +kernel
theorem dX7_retell_79 : decode cX7_retell 79 = .ok (.getfield 19, 3) := by decide +kernel
theorem dX7_retell_82 : decode cX7_retell 82 = .ok (.iload_n 3, 1) := by decide +kernel
theorem dX7_retell_83 : decode cX7_retell 83 = .ok (.iaload, 1) := by decide +kernel
theorem dX7_retell_84 : decode cX7_retell 84 = .ok (.iconst 4, 1) := by decide +kernel
theorem dX7_retell_85 : decode cX7_retell 85 = .ok (.if_icmp .ne 32, 3) := by decide +kernel
theorem dX7_retell_88 : decode cX7_retell 88 = .ok (.iload 4, 2) := by decide +kernel
theorem dX7_retell_90 : decode cX7_retell 90 = .ok (.aload_n 0, 1) := by decide +kernel
theorem dX7_retell_91 : decode cX7_retell 91 = .ok (.getfield 22, 3) := by decide +kernel
theorem dX7_retell_94 : decode cX7_retell 94 = .ok (.iload_n 3, 1) := by decide +kernel
theorem dX7_retell_95 : decode cX7_retell 95 = .ok (.iaload, 1) := by decide +kernel
theorem dX7_retell_96 : decode cX7_retell 96 = .ok (.iconst 2, 1) := by decide +kernel
theorem dX7_retell_97 : decode cX7_retell 97 = .ok (.irem, 1) := by decide +kernel
theorem dX7_retell_98 : decode cX7_retell 98 = .ok (.ifCond .ne 7, 3) := by decide +kernel
theorem dX7_retell_101 : decode cX7_retell 101 = .ok (.iconst 1, 1) := by decide +kernel
theorem dX7_retell_102 : decode cX7_retell 102 = .ok (.goto 4, 3) := by decide +kernel
theorem dX7_retell_105 : decode cX7_retell 105 = .ok (.iconst 3, 1) := by decide +kernel
theorem dX7_retell_106 : decode cX7_retell 106 = .ok (.if_icmp .ne 7, 3) := by decide +kernel
theorem dX7_retell_109 : decode cX7_retell 109 = .ok (.iconst 1, 1) := by decide +kernel
theorem dX7_retell_110 : decode cX7_retell 110 = .ok (.goto 62, 3) := by decide +kernel
theorem dX7_retell_113 : decode cX7_retell 113 = .ok (.iconst 0, 1) := by decide +kernel
theorem dX7_retell_114 : decode cX7_retell 114 = .ok (.goto 58, 3) := by decide +kernel
theorem dX7_retell_117 : decode cX7_retell 117 = .ok (.aload_n 0, 1) := by decide +kernel
theorem dX7_retell_118 : decode cX7_retell 118 = .ok (.getfield 19, 3) := by decide +kernel
theorem dX7_retell_121 : decode cX7_retell 121 = .ok (.iload_n 3, 1) := by decide +kernel
theorem dX7_retell_122 : decode cX7_retell 122 = .ok (.iaload, 1) := by decide +kernel
theorem dX7_retell_123 : decode cX7_retell 123 = .ok (.iconst 3, 1) := by decide +kernel
theorem dX7_retell_124 : decode cX7_retell 124 = .ok (.if_icmp .ne 33, 3) := by decide +kernel
theorem dX7_retell_127 : decode cX7_retell 127 = .ok (.iload 4, 2) := by decide +kernel
theorem dX7_retell_129 : decode cX7_retell 129 = .ok (.aload_n 0, 1) := by decide +kernel
theorem dX7_retell_130 : decode cX7_retell 130 = .ok (.getfield 22, 3) := by decide +kernel
theorem dX7_retell_133 : decode cX7_retell 133 = .ok (.iload_n 3, 1) := by decide +kernel
theorem dX7_retell_134 : decode cX7_retell 134 = .ok (.iaload, 1) := by decide +kernel
theorem dX7_retell_135 : decode cX7_retell 135 = .ok (.iconst 2, 1) := by decide +kernel
theorem dX7_retell_136 : decode cX7_retell 136 = .ok (.irem, 1) := by decide +kernel
theorem dX7_retell_137 : decode cX7_retell 137 = .ok (.iconst 1, 1) := by decide +kernel
theorem dX7_retell_138 : decode cX7_retell 138 = .ok (.if_icmp .ne 7, 3) := by decide +kernel
theorem dX7_retell_141 : decode cX7_retell 141 = .ok (.iconst 0, 1) := by decide +kernel
theorem dX7_retell_142 : decode cX7_retell 142 = .ok (.goto 4, 3) := by decide +kernel
theorem dX7_retell_145 : decode cX7_retell 145 = .ok (.iconst 2, 1) := by decide +kernel
theorem dX7_retell_146 : decode cX7_retell 146 = .ok (.if_icmp .ne 7, 3) := by decide +kernel
theorem dX7_retell_149 : decode cX7_retell 149 = .ok (.iconst 1, 1) := by decide +kernel
theorem dX7_retell_150 : decode cX7_retell 150 = .ok (.goto 22, 3) := by decide +kernel
theorem dX7_retell_153 : decode cX7_retell 153 = .ok (.iconst 0, 1) := by decide +kernel
theorem dX7_retell_154 : decode cX7_retell 154 = .ok (.goto 18, 3) := by decide +kernel
theorem dX7_retell_157 : decode cX7_retell 157 = .ok (.iload 4, 2) := by decide +kernel
theorem dX7_retell_159 : decode cX7_retell 159 = .ok (.aload_n 0, 1) := by decide +kernel
theorem dX7_retell_160 : decode cX7_retell 160 = .ok (.iload_n 3, 1) := by decide +kernel
theorem dX7_retell_161 : decode cX7_retell 161 = .ok (.invokevirtual 163, 3) := by decide +kernel
theorem dX7_retell_164 : decode cX7_retell 164 = .ok (.if_icmp .ne 7, 3) := by decide +kernel
theorem dX7_retell_167 : decode cX7_retell 167 = .ok (.iconst 1, 1) := by decide +kernel
theorem dX7_retell_168 : decode cX7_retell 168 = .ok (.goto 4, 3) := by decide +kernel
theorem dX7_retell_171 : decode cX7_retell 171 = .ok (.iconst 0, 1) := by decide +kernel
theorem dX7_retell_172 : decode cX7_retell 172 = .ok (.istore 5, 2) := by decide +kernel
theorem dX7_retell_174 : decode cX7_retell 174 = .ok (.aload_n 0, 1) := by decide +kernel
theorem dX7_retell_175 : decode cX7_retell 175 = .ok (.getfield 40, 3) := by decide +kernel
theorem dX7_retell_178 : decode cX7_retell 178 = .ok (.iload_n 3, 1) := by decide +kernel
theorem dX7_retell_179 : decode cX7_retell 179 = .ok (.iload 5, 2) := by decide +kernel
theorem dX7_retell_181 : decode cX7_retell 181 = .ok (.ifCond .eq 12, 3) := by decide +kernel
theorem dX7_retell_184 : decode cX7_retell 184 = .ok (.iload_n 1, 1) := by decide +kernel
theorem dX7_retell_185 : decode cX7_retell 185 = .ok (.iload 4, 2) := by decide +kernel
theorem dX7_retell_187 : decode cX7_retell 187 = .ok (.invokestatic 58, 3) := by decide +kernel
theorem dX7_retell_190 : decode cX7_retell 190 = .ok (.goto 9, 3) := by decide +kernel
theorem dX7_retell_193 : decode cX7_retell 193 = .ok (.aload_n 0, 1) := by decide +kernel
theorem dX7_retell_194 : decode cX7_retell 194 = .ok (.getfield 40, 3) := by decide +kernel
theorem dX7_retell_197 : decode cX7_retell 197 = .ok (.iload_n 3, 1) := by decide +kernel
theorem dX7_retell_198 : decode cX7_retell 198 = .ok (.iaload, 1) := by decide +kernel
theorem dX7_retell_199 : decode cX7_retell 199 = .ok (.iastore, 1) := by decide +kernel
theorem dX7_retell_200 : decode cX7_retell 200 = .ok (.iinc 4 (-1), 3) := by decide +kernel
theorem dX7_retell_203 : decode cX7_retell 203 = .ok (.goto (-130), 3) := by decide +kernel
theorem dX7_retell_206 : decode cX7_retell 206 = .ok (.goto 15, 3) := by decide +kernel
theorem dX7_retell_209 : decode cX7_retell 209 = .ok (.aload_n 0, 1) := by decide +kernel
theorem dX7_retell_210 : decode cX7_retell 210 = .ok (.getfield 40, 3) := by decide +kernel
theorem dX7_retell_213 : decode cX7_retell 213 = .ok (.iload_n 3, 1) := by decide +kernel
theorem dX7_retell_214 : decode cX7_retell 214 = .ok (.aload_n 0, 1) := by decide +kernel
theorem dX7_retell_215 : decode cX7_retell 215 = .ok (.getfield 13, 3) := by decide +kernel
theorem dX7_retell_218 : decode cX7_retell 218 = .ok (.iload_n 3, 1) := by decide +kernel
theorem dX7_retell_219 : decode cX7_retell 219 = .ok (.iaload, 1) := by decide +kernel
theorem dX7_retell_220 : decode cX7_retell 220 = .ok (.iastore, 1) := by decide +kernel
theorem dX7_retell_221 : decode cX7_retell 221 = .ok (.iinc 3 1, 3) := by decide +kernel
theorem dX7_retell_224 : decode cX7_retell 224 = .ok (.goto (-177), 3) := by decide +kernel
theorem dX7_retell_227 : decode cX7_retell 227 = .ok (.iconst 0, 1) := by decide +kernel
theorem dX7_retell_228 : decode cX7_retell 228 = .ok (.istore_n 3, 1) := by decide +kernel
theorem dX7_retell_229 : decode cX7_retell 229 = .ok (.iload_n 3, 1) := by decide +kernel
theorem dX7_retell_230 : decode cX7_retell 230 = .ok (.aload_n 0, 1) := by decide +kernel
theorem dX7_retell_231 : decode cX7_retell 231 = .ok (.getfield 13, 3) := by decide +kernel
theorem dX7_retell_234 : decode cX7_retell 234 = .ok (.bipush 120, 2) := by decide +kernel
theorem dX7_retell_236 : decode cX7_retell 236 = .ok (.iaload, 1) := by decide +kernel
theorem dX7_retell_237 : decode cX7_retell 237 = .ok (.if_icmp .ge 21, 3) := by decide +kernel
theorem dX7_retell_240 : decode cX7_retell 240 = .ok (.aload_n 0, 1) := by decide +kernel
theorem dX7_retell_241 : decode cX7_retell 241 = .ok (.getfield 13, 3) := by decide +kernel
theorem dX7_retell_244 : decode cX7_retell 244 = .ok (.iload_n 3, 1) := by decide +kernel
theorem dX7_retell_245 : decode cX7_retell 245 = .ok (.aload_n 0, 1) := by decide +kernel
theorem dX7_retell_246 : decode cX7_retell 246 = .ok (.getfield 40, 3) := by decide +kernel
theorem dX7_retell_249 : decode cX7_retell 249 = .ok (.iload_n 3, 1) := by decide +kernel
theorem dX7_retell_250 : decode cX7_retell 250 = .ok (.iaload, 1) := by decide +kernel
theorem dX7_retell_251 : decode cX7_retell 251 = .ok (.iastore, 1) := by decide +kernel
theorem dX7_retell_252 : decode cX7_retell 252 = .ok (.iinc 3 1, 3) := by decide +kernel
theorem dX7_retell_255 : decode cX7_retell 255 = .ok (.goto (-26), 3) := by decide +kernel
theorem dX7_retell_258 : decode cX7_retell 258 = .ok (.aload_n 0, 1) := by decide +kernel
theorem dX7_retell_259 : decode cX7_retell 259 = .ok (.getfield 13, 3) := by decide +kernel
theorem dX7_retell_262 : decode cX7_retell 262 = .ok (.bipush 121, 2) := by decide +kernel
theorem dX7_retell_264 : decode cX7_retell 264 = .ok (.iload_n 1, 1) := by decide +kernel
theorem dX7_retell_265 : decode cX7_retell 265 = .ok (.iastore, 1) := by decide +kernel
theorem dX7_retell_266 : decode cX7_retell 266 = .ok (.iload_n 2, 1) := by decide +kernel
theorem dX7_retell_267 : decode cX7_retell 267 = .ok (.ireturn, 1) := by decide +kernel
theorem dX7_renewer_0 : decode cX7_renewer 0 = .ok (.iload_n 1, 1) := by decide +kernel
theorem dX7_renewer_1 : decode cX7_renewer 1 = .ok (.istore_n 2, 1) := by decide +kernel
theorem dX7_renewer_2 : decode cX7_renewer 2 = .ok (.aload_n 0, 1) := by decide +kernel
theorem dX7_renewer_3 : decode cX7_renewer 3 = .ok (.getfield 19, 3) := by decide +kernel
theorem dX7_renewer_6 : decode cX7_renewer 6 = .ok (.iload_n 2, 1) := by decide +kernel
theorem dX7_renewer_7 : decode cX7_renewer 7 = .ok (.iaload, 1) := by decide +kernel
theorem dX7_renewer_8 : decode cX7_renewer 8 = .ok (.iconst 2, 1) := by decide +kernel
theorem dX7_renewer_9 : decode cX7_renewer 9 = .ok (.if_icmp .eq 9, 3) := by decide +kernel
theorem dX7_renewer_12 : decode cX7_renewer 12 = .ok (.iinc 2 (-1), 3) := by decide +kernel
theorem dX7_renewer_15 : decode cX7_renewer 15 = .ok (.goto (-13), 3) := by decide +kernel
theorem dX7_renewer_18 : decode cX7_renewer 18 = .ok (.aload_n 0, 1) := by decide +kernel
theorem dX7_renewer_19 : decode cX7_renewer 19 = .ok (.getfield 13, 3) := by decide +kernel
theorem dX7_renewer_22 : decode cX7_renewer 22 = .ok (.bipush 122, 2) := by decide +kernel
theorem dX7_renewer_24 : decode cX7_renewer 24 = .ok (.iaload, 1) := by decide +kernel
theorem dX7_renewer_25 : decode cX7_renewer 25 = .ok (.iconst 1, 1) := by decide +kernel
theorem dX7_renewer_26 : decode cX7_renewer 26 = .ok (.if_icmp .eq 13, 3) := by decide +kernel
theorem dX7_renewer_29 : decode cX7_renewer 29 = .ok (.iload_n 1, 1) := by decide +kernel
theorem dX7_renewer_30 : decode cX7_renewer 30 = .ok (.iload_n 2, 1) := by decide +kernel
theorem dX7_renewer_31 : decode cX7_renewer 31 = .ok (.isub, 1) := by decide +kernel
theorem dX7_renewer_32 : decode cX7_renewer 32 = .ok (.iconst 1, 1) := by decide +kernel
theorem dX7_renewer_33 : decode cX7_renewer 33 = .ok (.isub, 1) := by decide +kernel
theorem dX7_renewer_34 : decode cX7_renewer 34 = .ok (.iconst 2, 1) := by decide +kernel
theorem dX7_renewer_35 : decode cX7_renewer 35 = .ok (.irem, 1) := by decide +kernel
theorem dX7_renewer_36 : decode cX7_renewer 36 = .ok (.ifCond .ne 7, 3) := by decide +kernel
theorem dX7_renewer_39 : decode cX7_renewer 39 = .ok (.iconst 0, 1) := by decide +kernel
theorem dX7_renewer_40 : decode cX7_renewer 40 = .ok (.goto 4, 3) := by decide +kernel
theorem dX7_renewer_43 : decode cX7_renewer 43 = .ok (.iconst 2, 1) := by decide +kernel
theorem dX7_renewer_44 : decode cX7_renewer 44 = .ok (.ireturn, 1) := by decide +kernel
theorem dX7_count_0 : decode cX7_count 0 = .ok (.aload_n 0, 1) := by decide +kernel
theorem dX7_count_1 : decode cX7_count 1 = .ok (.invokevirtual 126, 3) := by decide +kernel
theorem dX7_count_4 : decode cX7_count 4 = .ok (.iconst 0, 1) := by decide +kernel
theorem dX7_count_5 : decode cX7_count 5 = .ok (.istore_n 2, 1) := by decide +kernel
theorem dX7_count_6 : decode cX7_count 6 = .ok (.iconst 0, 1) := by decide +kernel
theorem dX7_count_7 : decode cX7_count 7 = .ok (.istore_n 3, 1) := by decide +kernel
theorem dX7_count_8 : decode cX7_count 8 = .ok (.iconst 0, 1) := by decide +kernel
theorem dX7_count_9 : decode cX7_count 9 = .ok (.istore 4, 2) := by decide +kernel
theorem dX7_count_11 : decode cX7_count 11 = .ok (.iload 4, 2) := by decide +kernel
theorem dX7_count_13 : decode cX7_count 13 = .ok (.aload_n 0, 1) := by decide +kernel
theorem dX7_count_14 : decode cX7_count 14 = .ok (.getfield 13, 3) := by decide +kernel
theorem dX7_count_17 : decode cX7_count 17 = .ok (.bipush 120, 2) := by decide +kernel
theorem dX7_count_19 : decode cX7_count 19 = .ok (.iaload, 1) := by decide +kernel
theorem dX7_count_20 : decode cX7_count 20 = .ok (.if_icmp .ge 53, 3) := by decide +kernel
theorem dX7_count_23 : decode cX7_count 23 = .ok (.iload_n 2, 1) := by decide +kernel
theorem dX7_count_24 : decode cX7_count 24 = .ok (.aload_n 0, 1) := by decide +kernel
theorem dX7_count_25 : decode cX7_count 25 = .ok (.getfield 13, 3) := by decide +kernel
theorem dX7_count_28 : decode cX7_count 28 = .ok (.iload 4, 2) := by decide +kernel
theorem dX7_count_30 : decode cX7_count 30 = .ok (.iaload, 1) := by decide +kernel
theorem dX7_count_31 : decode cX7_count 31 = .ok (.invokestatic 54, 3) := by decide +kernel
theorem dX7_count_34 : decode cX7_count 34 = .ok (.ifCond .eq 7, 3) := by decide +kernel
theorem dX7_count_37 : decode cX7_count 37 = .ok (.iconst 1, 1) := by decide +kernel
theorem dX7_count_38 : decode cX7_count 38 = .ok (.goto 4, 3) := by decide +kernel
theorem dX7_count_41 : decode cX7_count 41 = .ok (.iconst 0, 1) := by decide +kernel
theorem dX7_count_42 : decode cX7_count 42 = .ok (.iadd, 1) := by decide +kernel
theorem dX7_count_43 : decode cX7_count 43 = .ok (.istore_n 2, 1) := by decide +kernel
theorem dX7_count_44 : decode cX7_count 44 = .ok (.aload_n 0, 1) := by decide +kernel
theorem dX7_count_45 : decode cX7_count 45 = .ok (.getfield 22, 3) := by decide +kernel
theorem dX7_count_48 : decode cX7_count 48 = .ok (.iload 4, 2) := by decide +kernel
theorem dX7_count_50 : decode cX7_count 50 = .ok (.iaload, 1) := by decide +kernel
theorem dX7_count_51 : decode cX7_count 51 = .ok (.iload_n 3, 1) := by decide +kernel
theorem dX7_count_52 : decode cX7_count 52 = .ok (.if_icmp .le 13, 3) := by decide +kernel
theorem dX7_count_55 : decode cX7_count 55 = .ok (.aload_n 0, 1) := by decide +kernel
theorem dX7_count_56 : decode cX7_count 56 = .ok (.getfield 22, 3) := by decide +kernel
theorem dX7_count_59 : decode cX7_count 59 = .ok (.iload 4, 2) := by decide +kernel
theorem dX7_count_61 : decode cX7_count 61 = .ok (.iaload, 1) := by decide +kernel
theorem dX7_count_62 : decode cX7_count 62 = .ok (.goto 4, 3) := by decide +kernel
theorem dX7_count_65 : decode cX7_count 65 = .ok (.iload_n 3, 1) := by decide +kernel
theorem dX7_count_66 : decode cX7_count 66 = .ok (.istore_n 3, 1) := by decide +kernel
theorem dX7_count_67 : decode cX7_count 67 = .ok (.iinc 4 1, 3) := by decide +kernel
theorem dX7_count_70 : decode cX7_count 70 = .ok (.goto (-59), 3) := by decide +kernel
theorem dX7_count_73 : decode cX7_count 73 = .ok (.iload_n 1, 1) := by decide +kernel
theorem dX7_count_74 : decode cX7_count 74 = .ok (.tableswitch 121 0 10 #[58, 66, 68, 68, 68, 68, 68, 80, 85, 90, 92], 58) := by decide +kernel
theorem dX7_count_132 : decode cX7_count 132 = .ok (.aload_n 0, 1) := by decide +kernel
theorem dX7_count_133 : decode cX7_count 133 = .ok (.getfield 13, 3) := by decide +kernel
theorem dX7_count_136 : decode cX7_count 136 = .ok (.bipush 120, 2) := by decide +kernel
theorem dX7_count_138 : decode cX7_count 138 = .ok (.iaload, 1) := by decide +kernel
theorem dX7_count_139 : decode cX7_count 139 = .ok (.ireturn, 1) := by decide +kernel
theorem dX7_count_140 : decode cX7_count 140 = .ok (.iload_n 2, 1) := by decide +kernel
theorem dX7_count_141 : decode cX7_count 141 = .ok (.ireturn, 1) := by decide +kernel
theorem dX7_count_142 : decode cX7_count 142 = .ok (.aload_n 0, 1) := by decide +kernel
theorem dX7_count_143 : decode cX7_count 143 = .ok (.getfield 13, 3) := by decide +kernel
theorem dX7_count_146 : decode cX7_count 146 = .ok (.bipush 121, 2) := by decide +kernel
theorem dX7_count_148 : decode cX7_count 148 = .ok (.iload_n 1, 1) := by decide +kernel
theorem dX7_count_149 : decode cX7_count 149 = .ok (.iadd, 1) := by decide +kernel
theorem dX7_count_150 : decode cX7_count 150 = .ok (.iconst 2, 1) := by decide +kernel
theorem dX7_count_151 : decode cX7_count 151 = .ok (.isub, 1) := by decide +kernel
theorem dX7_count_152 : decode cX7_count 152 = .ok (.iaload, 1) := by decide +kernel
theorem dX7_count_153 : decode cX7_count 153 = .ok (.ireturn, 1) := by decide +kernel
theorem dX7_count_154 : decode cX7_count 154 = .ok (.aload_n 0, 1) := by decide +kernel
theorem dX7_count_155 : decode cX7_count 155 = .ok (.getfield 69, 3) := by decide +kernel
theorem dX7_count_158 : decode cX7_count 158 = .ok (.ireturn, 1) := by decide +kernel
theorem dX7_count_159 : decode cX7_count 159 = .ok (.aload_n 0, 1) := by decide +kernel
theorem dX7_count_160 : decode cX7_count 160 = .ok (.getfield 80, 3) := by decide +kernel
theorem dX7_count_163 : decode cX7_count 163 = .ok (.ireturn, 1) := by decide +kernel
theorem dX7_count_164 : decode cX7_count 164 = .ok (.iload_n 3, 1) := by decide +kernel
theorem dX7_count_165 : decode cX7_count 165 = .ok (.ireturn, 1) := by decide +kernel
theorem dX7_count_166 : decode cX7_count 166 = .ok (.aload_n 0, 1) := by decide +kernel
theorem dX7_count_167 : decode cX7_count 167 = .ok (.getfield 13, 3) := by decide +kernel
theorem dX7_count_170 : decode cX7_count 170 = .ok (.bipush 120, 2) := by decide +kernel
theorem dX7_count_172 : decode cX7_count 172 = .ok (.iaload, 1) := by decide +kernel
theorem dX7_count_173 : decode cX7_count 173 = .ok (.ifCond .ne 7, 3) := by decide +kernel
theorem dX7_count_176 : decode cX7_count 176 = .ok (.iconst 0, 1) := by decide +kernel
theorem dX7_count_177 : decode cX7_count 177 = .ok (.goto 17, 3) := by decide +kernel
theorem dX7_count_180 : decode cX7_count 180 = .ok (.aload_n 0, 1) := by decide +kernel
theorem dX7_count_181 : decode cX7_count 181 = .ok (.getfield 22, 3) := by decide +kernel
theorem dX7_count_184 : decode cX7_count 184 = .ok (.aload_n 0, 1) := by decide +kernel
theorem dX7_count_185 : decode cX7_count 185 = .ok (.getfield 13, 3) := by decide +kernel
theorem dX7_count_188 : decode cX7_count 188 = .ok (.bipush 120, 2) := by decide +kernel
theorem dX7_count_190 : decode cX7_count 190 = .ok (.iaload, 1) := by decide +kernel
theorem dX7_count_191 : decode cX7_count 191 = .ok (.iconst 1, 1) := by decide +kernel
theorem dX7_count_192 : decode cX7_count 192 = .ok (.isub, 1) := by decide +kernel
theorem dX7_count_193 : decode cX7_count 193 = .ok (.iaload, 1) := by decide +kernel
theorem dX7_count_194 : decode cX7_count 194 = .ok (.ireturn, 1) := by decide +kernel
theorem dX7_count_195 : decode cX7_count 195 = .ok (.iconst (-1), 1) := by decide +kernel
theorem dX7_count_196 : decode cX7_count 196 = .ok (.ireturn, 1) := by decide +kernel
end
section
/-! The calculus: a pure memory M (cell, slot -> int), a shape sh (what stands at which cell), cells at z, z+1, .. -/
abbrev Mem : Type := Nat → Nat → Int32
abbrev ShE : Type := Nat ⊕ (List (Option Nat)) ⊕ (Nat × List (Option (Option Nat)))
abbrev Shp : Type := List ShE
def up2 (M : Mem) (k j : Nat) (v : Int32) : Mem := fun a b => if a = k ∧ b = j then v else M a b
theorem up2_at (M : Mem) (k j : Nat) (v : Int32) : up2 M k j v k j = v := by simp [up2]
theorem up2_row (M : Mem) (k j : Nat) (v : Int32) : up2 M k j v k = upd (M k) j v := by
  funext b; simp [up2, upd]
theorem up2_ne (M : Mem) {k j a : Nat} (v : Int32) (h : a ≠ k) : up2 M k j v a = M a := by
  funext b; simp [up2, h]
def slv (z : Nat) (f : Nat → Int32) (j : Nat) (o : Option (Option Nat)) : Value := match o with
  | none => .int (f j)
  | some none => .null
  | some (some r) => .ref (z + r)
def cel (cI cO : ClassId) (z : Nat) (M : Mem) (k : Nat) (e : ShE) : va_E := match e with
  | .inl n => .inl (cI, n, .inl (M k))
  | .inr (.inl rs) => .inl (cO, rs.length, .inr (.inr (.inr (.inr (fun j => (rs.getD j none).map (fun r => z + r))))))
  | .inr (.inr o) => .inr (o.1, o.2.mapIdx (fun j x => slv z (M k) j x))
def wl (cI cO : ClassId) (z : Nat) (sh : Shp) (M : Mem) : va_W := sh.mapIdx (fun k e => (z + k, cel cI cO z M k e))
def AA (z : Nat) : Nat → Prop := fun q => z ≤ q
section WL
variable {cI cO : ClassId} {z k : Nat} {sh : Shp} {M M' : Mem} {e : ShE}
theorem wl_get (h : sh[k]? = some e) : (wl cI cO z sh M)[k]? = some (z + k, cel cI cO z M k e) := by
  rw [wl, List.getElem?_mapIdx, h]; rfl
theorem wl_len : (wl cI cO z sh M).length = sh.length := by simp [wl]
theorem wl_inv {q : Nat × va_E} (h : (wl cI cO z sh M)[k]? = some q) : ∃ e, sh[k]? = some e ∧ q = (z + k, cel cI cO z M k e) := by
  rw [wl, List.getElem?_mapIdx] at h
  cases hk : sh[k]? with
  | none => rw [hk] at h; cases h
  | some e => rw [hk] at h; exact ⟨e, rfl, (Option.some.inj h).symm⟩
theorem wl_D : va_D (AA z) (wl cI cO z sh M) := by
  refine ⟨fun i j p q hi hj h => ?_, fun k q h => ?_⟩
  · obtain ⟨_, _, rfl⟩ := wl_inv hi
    obtain ⟨_, _, rfl⟩ := wl_inv hj
    have h' : z + i = z + j := h
    omega
  · obtain ⟨_, _, rfl⟩ := wl_inv h
    exact Nat.le_add_right z k
theorem cel_cong (h : M' k = M k) : cel cI cO z M' k e = cel cI cO z M k e := by
  unfold cel; rw [h]
theorem wl_set (hk : sh[k]? = some e) (hM : ∀ a, a ≠ k → M' a = M a) : (wl cI cO z sh M).set k (z + k, cel cI cO z M' k e) = wl cI cO z sh M' := by
  apply List.ext_getElem?
  intro i
  by_cases hi : i = k
  · subst hi
    have hl : i < (wl cI cO z sh M).length := by rw [wl_len]; exact (List.getElem?_eq_some_iff.mp hk).1
    rw [List.getElem?_set_self hl, wl_get hk]
  · rw [List.getElem?_set_ne (Ne.symm hi), wl, wl, List.getElem?_mapIdx, List.getElem?_mapIdx]
    cases sh[i]? with
    | none => rfl
    | some x => simp only [Option.map_some]; rw [cel_cong (hM i hi)]
theorem wl_setS {e' : ShE} (hk : sh[k]? = some e) : (wl cI cO z sh M).set k (z + k, cel cI cO z M k e') = wl cI cO z (sh.set k e') M := by
  apply List.ext_getElem?
  intro i
  by_cases hi : i = k
  · subst hi
    have h0 := (List.getElem?_eq_some_iff.mp hk).1
    have hl : i < (wl cI cO z sh M).length := by rw [wl_len]; exact h0
    rw [List.getElem?_set_self hl, wl_get (List.getElem?_set_self h0)]
  · rw [List.getElem?_set_ne (Ne.symm hi), wl, wl, List.getElem?_mapIdx, List.getElem?_mapIdx, List.getElem?_set_ne (Ne.symm hi)]
theorem wl_cong (hM : ∀ a, a < sh.length → M' a = M a) : wl cI cO z sh M' = wl cI cO z sh M := by
  apply List.ext_getElem?
  intro i
  rw [wl, wl, List.getElem?_mapIdx, List.getElem?_mapIdx]
  cases hi : sh[i]? with
  | none => rfl
  | some x => simp only [Option.map_some]; rw [cel_cong (hM i (List.getElem?_eq_some_iff.mp hi).1)]
theorem wl_push : wl cI cO z sh M ++ [(z + sh.length, cel cI cO z M sh.length e)] = wl cI cO z (sh ++ [e]) M := by
  unfold wl; rw [List.mapIdx_concat]
end WL
/-! locals: a list of what is known -/
def lvh (ls : Array Slot) (nL : Nat) (lv : List (Option Value)) : Prop := ls.size = nL ∧ lv_wf ls ∧ lv.length = nL ∧ ∀ (i : Nat) (v : Value), lv[i]? = some (some v) → v.category = 1 ∧ ls[i]? = some (.val v)
def prs (lv : List (Option Value)) : List (Nat × Value) := (List.range lv.length).filterMap (fun j => match lv[j]? with | some (some v) => some (j, v) | _ => none)
theorem mem_prs {lv : List (Option Value)} {q : Nat × Value} : q ∈ prs lv ↔ lv[q.1]? = some (some q.2) := by
  unfold prs
  rw [List.mem_filterMap]
  constructor
  · rintro ⟨j, -, h⟩
    split at h
    · next v hv => cases h; exact hv
    · cases h
  · intro h
    refine ⟨q.1, List.mem_range.mpr (List.getElem?_eq_some_iff.mp h).1, ?_⟩
    rw [h]
theorem lvh.has {ls : Array Slot} {nL : Nat} {lv : List (Option Value)} (h : lvh ls nL lv) : lv_has ls nL (prs lv) := ⟨h.1, h.2.1, fun q hq => (h.2.2.2 q.1 q.2 (mem_prs.mp hq)).2⟩
theorem lvh.at {ls : Array Slot} {nL : Nat} {lv : List (Option Value)} (h : lvh ls nL lv) {i : Nat} {v : Value} (hv : lv[i]? = some (some v)) : ls[i]? = some (.val v) := (h.2.2.2 i v hv).2
theorem lvh.set {ls ls' : Array Slot} {nL i : Nat} {lv : List (Option Value)} {v : Value} (h : lvh ls nL lv) (hc : v.category = 1) (h' : lv_has ls' nL ((i, v) :: (prs lv).filter (fun q => !(q.1 == i) && !(q.1 + 1 == i && q.2.category == 2)))) : lvh ls' nL (lv.set i (some v)) := by
  refine ⟨h'.1, h'.2.1, by rw [List.length_set]; exact h.2.2.1, fun j w hj => ?_⟩
  by_cases hij : i = j
  · subst hij
    have hl : i < lv.length := by
      have := (List.getElem?_eq_some_iff.mp hj).1
      rwa [List.length_set] at this
    rw [List.getElem?_set_self hl] at hj
    cases hj
    exact ⟨hc, h'.2.2 (i, v) List.mem_cons_self⟩
  · rw [List.getElem?_set_ne hij] at hj
    have hq := h.2.2.2 j w hj
    refine ⟨hq.1, h'.2.2 (j, w) (List.mem_cons_of_mem _ (List.mem_filter.mpr ⟨mem_prs.mpr hj, ?_⟩))⟩
    have h2 : (j == i) = false := by simp; exact fun e => hij e.symm
    simp [h2, hq.1]
/-! words -/
def isNest : Cond → Bool
  | .fieldLinkNest .. => true
  | .methodLinkNest .. => true
  | _ => false
def gtbl : List Cond := lw_tbl.filter goodWord
def ntbl : List Cond := lw_tbl.filter isNest
theorem gmem {w : Cond} {i : Nat} (h : lw_tbl[i]? = some w) (hg : goodWord w = true) : w ∈ gtbl := List.mem_filter.mpr ⟨List.mem_of_getElem? h, hg⟩
theorem nmem {w : Cond} {i : Nat} (h : lw_tbl[i]? = some w) (hg : isNest w = true) : w ∈ ntbl := List.mem_filter.mpr ⟨List.mem_of_getElem? h, hg⟩
theorem ggood {w : Cond} (h : w ∈ gtbl) : (w.onTables && w.keeps) = true ∨ ∃ ty, w = .arrayClass ty := good_of_word (List.mem_filter.mp h).2
theorem ggoodIn {c0 c1 : Cond} (h : c1 ∈ gtbl) : GoodIn gtbl (c1 :: gtbl) := by
  intro w hw
  rcases List.mem_cons.mp hw with rfl | hw
  · exact ⟨h, ggood h⟩
  · exact ⟨hw, ggood hw⟩
def pairsL : List Int32 := [60, 62, 123, 125, 34, 34, 39, 39, 40, 41, 91, 93, 39, 39, 34, 34]
def strLen : List Nat := [10, 5, 4, 5, 4]
def strByt : List (List Int32) := [[60, 62, 123, 125, 40, 41, 91, 93, 34, 39], [110, 111, 114, 116, 104], [101, 97, 115, 116], [115, 111, 117, 116, 104], [119, 101, 115, 116]]
def strIdx : List Nat := [244, 230, 232, 234, 236]
def strTx : List String := ["<>{}()[]\"'", "north", "east", "south", "west"]
def Inv (D : va_G) (cI cO : ClassId) (z tP : Nat) (aK aV : Nat → Nat) (U : State) (H : Heap) : Prop :=
  va_K D vwCl [(cI, .int), (cO, .object RX5)] U ∧ (∀ w ∈ ntbl, va_Nw w U) ∧ va_AO RX5 U ∧
  (va_Z RX6 "PAIRS" "[C" (.ref tP) (AA z) U H ∧ va_T .char tP 16 (fun j => .int (pairsL.getD j 0)) (AA z) U H) ∧
  vk_S 5 strLen strByt aK aV (AA z) U H ∧ (∀ i, i < 5 → vk_R RX6 (strIdx.getD i 0) (strTx.getD i "") (aK i) U) ∧
  va_Z RJ0 "COMPACT_STRINGS" "Z" (.int 1) (AA z) U H ∧ va_Zq RJ3 "SIOOBE_FORMATTER" "Ljava/util/function/BiFunction;" (AA z) U H
theorem nest_warm {w : Cond} (hw : w ∈ ntbl) {s U : State} (hW : s.WarmedH U.vm) (h : va_Nw w s) : va_Nw w U := by
  have hn := (List.mem_filter.mp hw).2
  cases w <;> first | exact va_Nw.warmF hW h | exact va_Nw.warmM hW h | (exact absurd hn (by simp [isNest]))
theorem Inv.moved {D : va_G} {cI cO : ClassId} {z tP : Nat} {aK aV : Nat → Nat} {s U : State} {H : Heap} (hW : s.WarmedH U.vm) (h : Inv D cI cO z tP aK aV s H) : Inv D cI cO z tP aK aV U H := by
  obtain ⟨h1, h2, h3, ⟨h4, h5⟩, h6, h7, h8, h9⟩ := h
  exact ⟨va_K.moved hW.alike h1, fun w hw => nest_warm hw hW (h2 w hw), va_AO.moved hW.alike h3, ⟨va_Z.moved hW.alike h4, va_T.moved hW.alike h5⟩, vk_S.moved hW.alike h6, fun i hi => vk_R.warm hW (h7 i hi), va_Z.moved hW.alike h8, va_Zq.moved hW.alike h9⟩
theorem Inv.kept {D : va_G} {cI cO : ClassId} {z tP : Nat} {aK aV : Nat → Nat} {U : State} {H H1 : Heap} (hq : ∀ a : Nat, a < H.size → ¬ AA z a → H1[a]? = H[a]?) (h : Inv D cI cO z tP aK aV U H) : Inv D cI cO z tP aK aV U H1 := by
  obtain ⟨h1, h2, h3, ⟨h4, h5⟩, h6, h7, h8, h9⟩ := h
  exact ⟨h1, h2, h3, ⟨h4.kept hq, h5.kept hq⟩, h6.kept hq, h7, h8.kept hq, h9.kept hq⟩
theorem Inv.calling {D : va_G} {cI cO : ClassId} {z tP : Nat} {aK aV : Nat → Nat} {U : State} {g : JFrame} {mk : MethodId} {a : Array Value} (h : Inv D cI cO z tP aK aV U U.heap) : Inv D cI cO z tP aK aV (U.calling g mk a) (U.calling g mk a).heap := by
  have hW : U.WarmedH (U.calling g mk a).vm := State.WarmedH.refl U
  exact Inv.moved (U := U.calling g mk a) hW h
/-! the judgement -/
def G (p : Program) (l : Launch) (e : Env) (R : Room) (s : State) (m : MethodId) (args : Array Value) (below : List Frame) (meth : Method) (c : Code) (D : va_G) (cI cO : ClassId) (z nL : Nat) (Q : State → Prop) (cs sl : Nat) (sh : Shp) (M : Mem) (pc : Nat) (lv : List (Option Value)) (st : List Value) : Prop :=
  ∀ (H : Heap) (locs : List Loc) (ls : Array Slot), va_P D vwCl (wl cI cO z sh M) H → va_S (AA z) s.heap H locs → lvh ls nL lv → W p l e R s m args below meth c H locs cs sl Q (F0 m pc ls st)
def Cx (p : Program) (s : State) (m : MethodId) (args : Array Value) (meth : Method) (c : Code) (D : va_G) (cI cO : ClassId) (z tP : Nat) (aK aV : Nat → Nat) (own nm : String) (cc : ByteArray) (nL : Nat) (rt : Option FieldType) : Prop :=
  p.tables.exec = Jvm.exec ∧ c.code = cc ∧ c.maxLocals = nL ∧ s.vm.findClass own = some m.cls ∧ (∀ w ∈ gtbl, w.before args s = true) ∧ Inv D cI cO z tP aK aV s s.heap ∧ meth.sig.returnType = rt ∧ meth.locks = false ∧ meth.name = nm ∧ z ≤ s.heap.size
def QP (D : va_G) (cI cO : ClassId) (z : Nat) (Post : Option Value → Shp → Mem → Prop) : Array Value → State → Outcome → State → Prop := fun _ st oc t => ∃ (v : Option Value) (sh : Shp) (M : Mem), oc = .returned v ∧ Post v sh M ∧ va_P D vwCl (wl cI cO z sh M) t.heap ∧ va_F (AA z) st t
def PP (D : va_G) (cI cO : ClassId) (z tP : Nat) (aK aV : Nat → Nat) (sh : Shp) (M : Mem) (b : Prop) (U : State) : Prop := Inv D cI cO z tP aK aV U U.heap ∧ va_P D vwCl (wl cI cO z sh M) U.heap ∧ z ≤ U.heap.size ∧ (b → U.heap.size = z + sh.length)
def Ct (l : Launch) (D : va_G) (cI cO : ClassId) (z tP : Nat) (aK aV : Nat → Nat) (y : MethodName) (cc : ByteArray) (nL : Nat) (rt : Option FieldType) (fr lo mc ms : Nat) (b : Prop) (as : List Value) (sh : Shp) (M : Mem) (Post : Option Value → Shp → Mem → Prop) : Prop :=
  Met l y (.code y cc nL rt :: gtbl) ({ frames := fr, cells := mc, slots := ms, locals := lo }) (va_Pc as (PP D cI cO z tP aK aV sh M b)) (QP D cI cO z Post) mc ms (AA z)
/-- the locals at a method's entry -/
def lvE (as : List Value) (nL : Nat) : List (Option Value) := as.map some ++ List.replicate (nL - as.length) none
theorem lv_args_1 : ∀ (as : List Value) (k : Nat), (∀ v ∈ as, v.category = 1) → ∀ (i : Nat) (v : Value), as[i]? = some v → (k + i, v) ∈ lv_args k as
  | [], _, _, i, v, h => by simp at h
  | a :: as, k, hc, 0, v, h => by
    have : a = v := by simpa using h
    subst this
    simp [lv_args]
  | a :: as, k, hc, i + 1, v, h => by
    have h1 : a.category = 1 := hc a List.mem_cons_self
    have h2 : ¬ a.category = 2 := by omega
    have ih := lv_args_1 as (k + 1) (fun v hv => hc v (List.mem_cons_of_mem _ hv)) i v (by simpa using h)
    unfold lv_args
    rw [if_neg h2]
    have e : k + (i + 1) = k + 1 + i := by omega
    rw [e]
    exact List.mem_cons_of_mem _ ih
theorem lg_sl_1 : ∀ (as : List Value), (∀ v ∈ as, v.category = 1) → (lg_sl as).length = as.length
  | [], _ => rfl
  | a :: as, hc => by
    have h1 : a.category = 1 := hc a List.mem_cons_self
    have h2 : ¬ a.category = 2 := by omega
    have ih := lg_sl_1 as (fun v hv => hc v (List.mem_cons_of_mem _ hv))
    unfold lg_sl at ih ⊢
    rw [List.flatMap_cons, if_neg h2, List.length_append, ih, List.length_singleton, List.length_cons]
    omega
theorem lvE_ok {as : List Value} {nL : Nat} (hc : ∀ v ∈ as, v.category = 1) (hn : as.length ≤ nL) : lvh ((lg_sl as ++ List.replicate (nL - (lg_sl as).length) Slot.unset).toArray) nL (lvE as nL) := by
  have h0 := lg_sl_1 as hc
  have h := lv_entry as (n := nL) (by rw [h0]; exact hn)
  refine ⟨h.1, h.2.1, ?_, fun i v hi => ?_⟩
  · simp [lvE]; omega
  · have hi2 : as[i]? = some v := by
      unfold lvE at hi
      by_cases hl : i < as.length
      · rw [List.getElem?_append_left (by simpa using hl), List.getElem?_map] at hi
        cases ha : as[i]? with
        | none => rw [ha] at hi; cases hi
        | some a => rw [ha] at hi; simp at hi; rw [hi]
      · rw [List.getElem?_append_right (by simpa using Nat.le_of_not_lt hl)] at hi
        have := List.mem_of_getElem? hi
        simp at this
    refine ⟨hc v (List.mem_of_getElem? hi2), ?_⟩
    have := lv_args_1 as 0 hc i v hi2
    rw [Nat.zero_add] at this
    exact h.2.2 (i, v) this
section GR
variable {p : Program} {l : Launch} {e : Env} {R : Room} {s : State} {m : MethodId} {args : Array Value} {below : List Frame} {meth : Method} {c : Code} {D : va_G} {cI cO : ClassId} {z tP : Nat} {aK aV : Nat → Nat} {own nm : String} {cc : ByteArray} {nL : Nat} {rt : Option FieldType} {Q : State → Prop} {cs sl : Nat} {sh : Shp} {M : Mem} {pc n : Nat} {lv : List (Option Value)} {st : List Value}
theorem ct_intro {y : MethodName} {fr lo mc ms : Nat} {b : Prop} {as : List Value} {Post : Option Value → Shp → Mem → Prop} (hy : plainName y.cls = true) (hc : ∀ v ∈ as, v.category = 1) (hn : as.length ≤ nL)
    (h : ∀ (p : Program) (e : Env) (s : State) (m : MethodId) (below : List Frame) (meth : Method) (c : Code), Cx p s m as.toArray meth c D cI cO z tP aK aV y.cls y.name cc nL rt → (b → s.heap.size = z + sh.length) → G p l e ({ frames := fr, cells := mc, slots := ms, locals := lo }) s m as.toArray below meth c D cI cO z nL (MQ below (QP D cI cO z Post) as.toArray s mc ms (AA z)) 0 0 sh M 0 (lvE as nL) []) : Ct l D cI cO z tP aK aV y cc nL rt fr lo mc ms b as sh M Post := by
  refine Met.ofW (cc := cc) (maxL := nL) (ret := rt) hy rfl ?_
  intro p e s m args below meth c s₁ B hml hv
  obtain ⟨rfl, hI, hP, hz, hsz⟩ := hv
  have hts := atoms_spec (ws := .code y cc nL rt :: gtbl) B.pre
  have C : Cx p s m as.toArray meth c D cI cO z tP aK aV y.cls y.name cc nL rt := ⟨B.exec, B.bytes, hml, findClass_of_methodNamed B.named, fun w hw => hts w (List.mem_cons_of_mem _ hw), hI, B.returns, B.notSynchronized, (name_of_methodNamed B.named B.method).1, hz⟩
  rw [lg_entry_eq]
  exact h p e s m below meth c C hsz s.heap [] _ hP va_S.rf (lvE_ok hc hn)
theorem g_iconst (C : Cx p s m args meth c D cI cO z tP aK aV own nm cc nL rt) {i : Int} {v : Int32} (hv : Int32.ofInt i = v) (hd : decode cc pc = .ok (.iconst i, 1)) (hn : pc + 1 = n) (k : G p l e R s m args below meth c D cI cO z nL Q cs sl sh M n lv (.int v :: st)) : G p l e R s m args below meth c D cI cO z nL Q cs sl sh M pc lv st := by
  subst hn
  intro H locs ls hP hS hl
  exact lv_iconst C.1 C.2.1 hd hv (k H locs ls hP hS hl)
theorem g_bipush (C : Cx p s m args meth c D cI cO z tP aK aV own nm cc nL rt) {i : Int} {v : Int32} (hv : (Int8.ofInt i).toInt32 = v) (hd : decode cc pc = .ok (.bipush i, 2)) (hn : pc + 2 = n) (k : G p l e R s m args below meth c D cI cO z nL Q cs sl sh M n lv (.int v :: st)) : G p l e R s m args below meth c D cI cO z nL Q cs sl sh M pc lv st := by
  subst hn
  intro H locs ls hP hS hl
  exact lv_bipush C.1 C.2.1 hd hv (k H locs ls hP hS hl)
theorem g_sipush (C : Cx p s m args meth c D cI cO z tP aK aV own nm cc nL rt) {i : Int} {v : Int32} (hv : (Int16.ofInt i).toInt32 = v) (hd : decode cc pc = .ok (.sipush i, 3)) (hn : pc + 3 = n) (k : G p l e R s m args below meth c D cI cO z nL Q cs sl sh M n lv (.int v :: st)) : G p l e R s m args below meth c D cI cO z nL Q cs sl sh M pc lv st := by
  subst hn
  intro H locs ls hP hS hl
  exact lv_sipush C.1 C.2.1 hd hv (k H locs ls hP hS hl)
theorem g_lconst (C : Cx p s m args meth c D cI cO z tP aK aV own nm cc nL rt) {i : Fin 2} {v : Int64} (hv : Int64.ofNat (i : Nat) = v) (hd : decode cc pc = .ok (.lconst i, 1)) (hn : pc + 1 = n) (k : G p l e R s m args below meth c D cI cO z nL Q cs sl sh M n lv (.long v :: st)) : G p l e R s m args below meth c D cI cO z nL Q cs sl sh M pc lv st := by
  subst hn
  intro H locs ls hP hS hl
  exact lv_lconst C.1 C.2.1 hd hv (k H locs ls hP hS hl)
theorem g_ldc (C : Cx p s m args meth c D cI cO z tP aK aV own nm cc nL rt) {idx : Nat} {v : Int32} (hw : Cond.constant own idx v ∈ gtbl) (hd : decode cc pc = .ok (.ldc idx, 2)) (hn : pc + 2 = n) (k : G p l e R s m args below meth c D cI cO z nL Q cs sl sh M n lv (.int v :: st)) : G p l e R s m args below meth c D cI cO z nL Q cs sl sh M pc lv st := by
  subst hn
  intro H locs ls hP hS hl
  exact lv_ldc C.1 C.2.1 C.2.2.2.1 (C.2.2.2.2.1 _ hw) hd (k H locs ls hP hS hl)
theorem g_ldc2 (C : Cx p s m args meth c D cI cO z tP aK aV own nm cc nL rt) {idx : Nat} {v : Int64} (hw : Cond.constantLong own idx v ∈ gtbl) (hd : decode cc pc = .ok (.ldc2_w idx, 3)) (hn : pc + 3 = n) (k : G p l e R s m args below meth c D cI cO z nL Q cs sl sh M n lv (.long v :: st)) : G p l e R s m args below meth c D cI cO z nL Q cs sl sh M pc lv st := by
  subst hn
  intro H locs ls hP hS hl
  exact lv_ldc2 C.1 C.2.1 C.2.2.2.1 (C.2.2.2.2.1 _ hw) hd (k H locs ls hP hS hl)
theorem g_null (C : Cx p s m args meth c D cI cO z tP aK aV own nm cc nL rt)  (hd : decode cc pc = .ok (.aconst_null, 1)) (hn : pc + 1 = n) (k : G p l e R s m args below meth c D cI cO z nL Q cs sl sh M n lv (.null :: st)) : G p l e R s m args below meth c D cI cO z nL Q cs sl sh M pc lv st := by
  subst hn
  intro H locs ls hP hS hl
  exact lv_null C.1 C.2.1 hd (k H locs ls hP hS hl)
theorem g_i2l (C : Cx p s m args meth c D cI cO z tP aK aV own nm cc nL rt) {x : Int32} (hd : decode cc pc = .ok (.i2l, 1)) (hn : pc + 1 = n) (k : G p l e R s m args below meth c D cI cO z nL Q cs sl sh M n lv (.long x.toInt64 :: st)) : G p l e R s m args below meth c D cI cO z nL Q cs sl sh M pc lv (.int x :: st) := by
  subst hn
  intro H locs ls hP hS hl
  exact lv_i2l C.1 C.2.1 hd rfl (k H locs ls hP hS hl)
theorem g_i2c (C : Cx p s m args meth c D cI cO z tP aK aV own nm cc nL rt) {x : Int32} (hd : decode cc pc = .ok (.i2c, 1)) (hn : pc + 1 = n) (k : G p l e R s m args below meth c D cI cO z nL Q cs sl sh M n lv (.int (x.toUInt32 % 65536).toInt32 :: st)) : G p l e R s m args below meth c D cI cO z nL Q cs sl sh M pc lv (.int x :: st) := by
  subst hn
  intro H locs ls hP hS hl
  exact lv_i2c C.1 C.2.1 hd rfl (k H locs ls hP hS hl)
theorem g_iadd (C : Cx p s m args meth c D cI cO z tP aK aV own nm cc nL rt) {x y : Int32} (hd : decode cc pc = .ok (.iadd, 1)) (hn : pc + 1 = n) (k : G p l e R s m args below meth c D cI cO z nL Q cs sl sh M n lv (.int (x + y) :: st)) : G p l e R s m args below meth c D cI cO z nL Q cs sl sh M pc lv (.int y :: .int x :: st) := by
  subst hn
  intro H locs ls hP hS hl
  exact lv_iadd C.1 C.2.1 hd (k H locs ls hP hS hl)
theorem g_isub (C : Cx p s m args meth c D cI cO z tP aK aV own nm cc nL rt) {x y : Int32} (hd : decode cc pc = .ok (.isub, 1)) (hn : pc + 1 = n) (k : G p l e R s m args below meth c D cI cO z nL Q cs sl sh M n lv (.int (x - y) :: st)) : G p l e R s m args below meth c D cI cO z nL Q cs sl sh M pc lv (.int y :: .int x :: st) := by
  subst hn
  intro H locs ls hP hS hl
  exact lv_isub C.1 C.2.1 hd (k H locs ls hP hS hl)
theorem g_imul (C : Cx p s m args meth c D cI cO z tP aK aV own nm cc nL rt) {x y : Int32} (hd : decode cc pc = .ok (.imul, 1)) (hn : pc + 1 = n) (k : G p l e R s m args below meth c D cI cO z nL Q cs sl sh M n lv (.int (x * y) :: st)) : G p l e R s m args below meth c D cI cO z nL Q cs sl sh M pc lv (.int y :: .int x :: st) := by
  subst hn
  intro H locs ls hP hS hl
  exact lv_imul C.1 C.2.1 hd (k H locs ls hP hS hl)
theorem g_iand (C : Cx p s m args meth c D cI cO z tP aK aV own nm cc nL rt) {x y : Int32} (hd : decode cc pc = .ok (.iand, 1)) (hn : pc + 1 = n) (k : G p l e R s m args below meth c D cI cO z nL Q cs sl sh M n lv (.int (x &&& y) :: st)) : G p l e R s m args below meth c D cI cO z nL Q cs sl sh M pc lv (.int y :: .int x :: st) := by
  subst hn
  intro H locs ls hP hS hl
  exact lv_iand C.1 C.2.1 hd (k H locs ls hP hS hl)
theorem g_idiv (C : Cx p s m args meth c D cI cO z tP aK aV own nm cc nL rt) {x y : Int32} (hne : ¬ y = 0) (hd : decode cc pc = .ok (.idiv, 1)) (hn : pc + 1 = n) (k : G p l e R s m args below meth c D cI cO z nL Q cs sl sh M n lv (.int (x / y) :: st)) : G p l e R s m args below meth c D cI cO z nL Q cs sl sh M pc lv (.int y :: .int x :: st) := by
  subst hn
  intro H locs ls hP hS hl
  exact lv_idiv C.1 C.2.1 hd hne (k H locs ls hP hS hl)
theorem g_irem (C : Cx p s m args meth c D cI cO z tP aK aV own nm cc nL rt) {x y : Int32} (hne : ¬ y = 0) (hd : decode cc pc = .ok (.irem, 1)) (hn : pc + 1 = n) (k : G p l e R s m args below meth c D cI cO z nL Q cs sl sh M n lv (.int (x - x / y * y) :: st)) : G p l e R s m args below meth c D cI cO z nL Q cs sl sh M pc lv (.int y :: .int x :: st) := by
  subst hn
  intro H locs ls hP hS hl
  exact lv_irem C.1 C.2.1 hd hne (k H locs ls hP hS hl)
theorem g_lcmp (C : Cx p s m args meth c D cI cO z tP aK aV own nm cc nL rt) {x y : Int64} (hd : decode cc pc = .ok (.lcmp, 1)) (hn : pc + 1 = n) (k : G p l e R s m args below meth c D cI cO z nL Q cs sl sh M n lv (.int (lg_cmp x y) :: st)) : G p l e R s m args below meth c D cI cO z nL Q cs sl sh M pc lv (.long y :: .long x :: st) := by
  subst hn
  intro H locs ls hP hS hl
  exact W.lcmp C.1 C.2.1 hd (k H locs ls hP hS hl)
theorem g_dup (C : Cx p s m args meth c D cI cO z tP aK aV own nm cc nL rt) {v : Value} (hv : v.category = 1) (hd : decode cc pc = .ok (.dup, 1)) (hn : pc + 1 = n) (k : G p l e R s m args below meth c D cI cO z nL Q cs sl sh M n lv (v :: v :: st)) : G p l e R s m args below meth c D cI cO z nL Q cs sl sh M pc lv (v :: st) := by
  subst hn
  intro H locs ls hP hS hl
  exact lv_dup C.1 C.2.1 hd hv (k H locs ls hP hS hl)
theorem g_dup2 (C : Cx p s m args meth c D cI cO z tP aK aV own nm cc nL rt) {v u : Value} (hv : v.category = 1) (hu : u.category = 1) (hd : decode cc pc = .ok (.dup2, 1)) (hn : pc + 1 = n) (k : G p l e R s m args below meth c D cI cO z nL Q cs sl sh M n lv (v :: u :: v :: u :: st)) : G p l e R s m args below meth c D cI cO z nL Q cs sl sh M pc lv (v :: u :: st) := by
  subst hn
  intro H locs ls hP hS hl
  exact lv_dup2_11 C.1 C.2.1 hd hv hu (k H locs ls hP hS hl)
theorem g_pop (C : Cx p s m args meth c D cI cO z tP aK aV own nm cc nL rt) {v : Value} (hv : v.category = 1) (hd : decode cc pc = .ok (.pop, 1)) (hn : pc + 1 = n) (k : G p l e R s m args below meth c D cI cO z nL Q cs sl sh M n lv st) : G p l e R s m args below meth c D cI cO z nL Q cs sl sh M pc lv (v :: st) := by
  subst hn
  intro H locs ls hP hS hl
  exact lv_pop C.1 C.2.1 hd hv (k H locs ls hP hS hl)
theorem g_iload0 (C : Cx p s m args meth c D cI cO z tP aK aV own nm cc nL rt) {r : List (Option Value)} {x : Int32} (hd : decode cc pc = .ok (.iload_n 0, 1)) (hn : pc + 1 = n) (k : G p l e R s m args below meth c D cI cO z nL Q cs sl sh M n (some (.int x) :: r) (.int x :: st)) : G p l e R s m args below meth c D cI cO z nL Q cs sl sh M pc (some (.int x) :: r) st := by
  subst hn
  intro H locs ls hP hS hl
  exact lv_iload_n C.1 C.2.1 hd rfl (hl.at (i := 0) rfl) (k H locs ls hP hS hl)
theorem g_istore0 (C : Cx p s m args meth c D cI cO z tP aK aV own nm cc nL rt) {r : List (Option Value)} {o : Option Value} {x : Int32} (hd : decode cc pc = .ok (.istore_n 0, 1)) (hn : pc + 1 = n) (k : G p l e R s m args below meth c D cI cO z nL Q cs sl sh M n (some (.int x) :: r) st) : G p l e R s m args below meth c D cI cO z nL Q cs sl sh M pc (o :: r) (.int x :: st) := by
  subst hn
  intro H locs ls hP hS hl
  exact lv_istore_n C.1 C.2.1 hd rfl hl.has (by rw [← hl.2.2.1]; simp; try omega) rfl (fun ls' h' => k H locs ls' hP hS (hl.set rfl h'))
theorem g_aload0 (C : Cx p s m args meth c D cI cO z tP aK aV own nm cc nL rt) {r : List (Option Value)} {x : Nat} (hd : decode cc pc = .ok (.aload_n 0, 1)) (hn : pc + 1 = n) (k : G p l e R s m args below meth c D cI cO z nL Q cs sl sh M n (some (.ref x) :: r) (.ref x :: st)) : G p l e R s m args below meth c D cI cO z nL Q cs sl sh M pc (some (.ref x) :: r) st := by
  subst hn
  intro H locs ls hP hS hl
  exact lv_aload_n C.1 C.2.1 hd rfl (hl.at (i := 0) rfl) (k H locs ls hP hS hl)
theorem g_astore0 (C : Cx p s m args meth c D cI cO z tP aK aV own nm cc nL rt) {r : List (Option Value)} {o : Option Value} {x : Nat} (hd : decode cc pc = .ok (.astore_n 0, 1)) (hn : pc + 1 = n) (k : G p l e R s m args below meth c D cI cO z nL Q cs sl sh M n (some (.ref x) :: r) st) : G p l e R s m args below meth c D cI cO z nL Q cs sl sh M pc (o :: r) (.ref x :: st) := by
  subst hn
  intro H locs ls hP hS hl
  exact lv_astore_n C.1 C.2.1 hd rfl hl.has (by rw [← hl.2.2.1]; simp; try omega) rfl (fun ls' h' => k H locs ls' hP hS (hl.set rfl h'))
theorem g_astoreN0 (C : Cx p s m args meth c D cI cO z tP aK aV own nm cc nL rt) {r : List (Option Value)} {o : Option Value} (hd : decode cc pc = .ok (.astore_n 0, 1)) (hn : pc + 1 = n) (k : G p l e R s m args below meth c D cI cO z nL Q cs sl sh M n (some .null :: r) st) : G p l e R s m args below meth c D cI cO z nL Q cs sl sh M pc (o :: r) (.null :: st) := by
  subst hn
  intro H locs ls hP hS hl
  exact lv_astore_nN C.1 C.2.1 hd rfl hl.has (by rw [← hl.2.2.1]; simp; try omega) rfl (fun ls' h' => k H locs ls' hP hS (hl.set rfl h'))
theorem g_aloadN0 (C : Cx p s m args meth c D cI cO z tP aK aV own nm cc nL rt) {r : List (Option Value)} (hd : decode cc pc = .ok (.aload_n 0, 1)) (hn : pc + 1 = n) (k : G p l e R s m args below meth c D cI cO z nL Q cs sl sh M n (some .null :: r) (.null :: st)) : G p l e R s m args below meth c D cI cO z nL Q cs sl sh M pc (some .null :: r) st := by
  subst hn
  intro H locs ls hP hS hl
  exact lv_aload_nN C.1 C.2.1 hd rfl (hl.at (i := 0) rfl) (k H locs ls hP hS hl)
theorem g_iinc0 (C : Cx p s m args meth c D cI cO z tP aK aV own nm cc nL rt) {r : List (Option Value)} {x v : Int32} {d : Int} (hv : x + Int32.ofInt d = v) (hd : decode cc pc = .ok (.iinc 0 d, 3)) (hn : pc + 3 = n) (k : G p l e R s m args below meth c D cI cO z nL Q cs sl sh M n (some (.int v) :: r) st) : G p l e R s m args below meth c D cI cO z nL Q cs sl sh M pc (some (.int x) :: r) st := by
  subst hn
  intro H locs ls hP hS hl
  have hm : (0, Value.int x) ∈ prs (some (.int x) :: r) := mem_prs.mpr rfl
  obtain ⟨k0, hk0⟩ := List.getElem?_of_mem hm
  exact lv_iinc C.1 C.2.1 hd hl.has hk0 hv (by rw [← hl.2.2.1]; simp; try omega) rfl (fun ls' h' => k H locs ls' hP hS (hl.set rfl h'))
theorem g_iload1 (C : Cx p s m args meth c D cI cO z tP aK aV own nm cc nL rt) {a0 : Option Value} {r : List (Option Value)} {x : Int32} (hd : decode cc pc = .ok (.iload_n 1, 1)) (hn : pc + 1 = n) (k : G p l e R s m args below meth c D cI cO z nL Q cs sl sh M n (a0 :: some (.int x) :: r) (.int x :: st)) : G p l e R s m args below meth c D cI cO z nL Q cs sl sh M pc (a0 :: some (.int x) :: r) st := by
  subst hn
  intro H locs ls hP hS hl
  exact lv_iload_n C.1 C.2.1 hd rfl (hl.at (i := 1) rfl) (k H locs ls hP hS hl)
theorem g_istore1 (C : Cx p s m args meth c D cI cO z tP aK aV own nm cc nL rt) {a0 : Option Value} {r : List (Option Value)} {o : Option Value} {x : Int32} (hd : decode cc pc = .ok (.istore_n 1, 1)) (hn : pc + 1 = n) (k : G p l e R s m args below meth c D cI cO z nL Q cs sl sh M n (a0 :: some (.int x) :: r) st) : G p l e R s m args below meth c D cI cO z nL Q cs sl sh M pc (a0 :: o :: r) (.int x :: st) := by
  subst hn
  intro H locs ls hP hS hl
  exact lv_istore_n C.1 C.2.1 hd rfl hl.has (by rw [← hl.2.2.1]; simp; try omega) rfl (fun ls' h' => k H locs ls' hP hS (hl.set rfl h'))
theorem g_aload1 (C : Cx p s m args meth c D cI cO z tP aK aV own nm cc nL rt) {a0 : Option Value} {r : List (Option Value)} {x : Nat} (hd : decode cc pc = .ok (.aload_n 1, 1)) (hn : pc + 1 = n) (k : G p l e R s m args below meth c D cI cO z nL Q cs sl sh M n (a0 :: some (.ref x) :: r) (.ref x :: st)) : G p l e R s m args below meth c D cI cO z nL Q cs sl sh M pc (a0 :: some (.ref x) :: r) st := by
  subst hn
  intro H locs ls hP hS hl
  exact lv_aload_n C.1 C.2.1 hd rfl (hl.at (i := 1) rfl) (k H locs ls hP hS hl)
theorem g_astore1 (C : Cx p s m args meth c D cI cO z tP aK aV own nm cc nL rt) {a0 : Option Value} {r : List (Option Value)} {o : Option Value} {x : Nat} (hd : decode cc pc = .ok (.astore_n 1, 1)) (hn : pc + 1 = n) (k : G p l e R s m args below meth c D cI cO z nL Q cs sl sh M n (a0 :: some (.ref x) :: r) st) : G p l e R s m args below meth c D cI cO z nL Q cs sl sh M pc (a0 :: o :: r) (.ref x :: st) := by
  subst hn
  intro H locs ls hP hS hl
  exact lv_astore_n C.1 C.2.1 hd rfl hl.has (by rw [← hl.2.2.1]; simp; try omega) rfl (fun ls' h' => k H locs ls' hP hS (hl.set rfl h'))
theorem g_astoreN1 (C : Cx p s m args meth c D cI cO z tP aK aV own nm cc nL rt) {a0 : Option Value} {r : List (Option Value)} {o : Option Value} (hd : decode cc pc = .ok (.astore_n 1, 1)) (hn : pc + 1 = n) (k : G p l e R s m args below meth c D cI cO z nL Q cs sl sh M n (a0 :: some .null :: r) st) : G p l e R s m args below meth c D cI cO z nL Q cs sl sh M pc (a0 :: o :: r) (.null :: st) := by
  subst hn
  intro H locs ls hP hS hl
  exact lv_astore_nN C.1 C.2.1 hd rfl hl.has (by rw [← hl.2.2.1]; simp; try omega) rfl (fun ls' h' => k H locs ls' hP hS (hl.set rfl h'))
theorem g_aloadN1 (C : Cx p s m args meth c D cI cO z tP aK aV own nm cc nL rt) {a0 : Option Value} {r : List (Option Value)} (hd : decode cc pc = .ok (.aload_n 1, 1)) (hn : pc + 1 = n) (k : G p l e R s m args below meth c D cI cO z nL Q cs sl sh M n (a0 :: some .null :: r) (.null :: st)) : G p l e R s m args below meth c D cI cO z nL Q cs sl sh M pc (a0 :: some .null :: r) st := by
  subst hn
  intro H locs ls hP hS hl
  exact lv_aload_nN C.1 C.2.1 hd rfl (hl.at (i := 1) rfl) (k H locs ls hP hS hl)
theorem g_iinc1 (C : Cx p s m args meth c D cI cO z tP aK aV own nm cc nL rt) {a0 : Option Value} {r : List (Option Value)} {x v : Int32} {d : Int} (hv : x + Int32.ofInt d = v) (hd : decode cc pc = .ok (.iinc 1 d, 3)) (hn : pc + 3 = n) (k : G p l e R s m args below meth c D cI cO z nL Q cs sl sh M n (a0 :: some (.int v) :: r) st) : G p l e R s m args below meth c D cI cO z nL Q cs sl sh M pc (a0 :: some (.int x) :: r) st := by
  subst hn
  intro H locs ls hP hS hl
  have hm : (1, Value.int x) ∈ prs (a0 :: some (.int x) :: r) := mem_prs.mpr rfl
  obtain ⟨k0, hk0⟩ := List.getElem?_of_mem hm
  exact lv_iinc C.1 C.2.1 hd hl.has hk0 hv (by rw [← hl.2.2.1]; simp; try omega) rfl (fun ls' h' => k H locs ls' hP hS (hl.set rfl h'))
theorem g_iload2 (C : Cx p s m args meth c D cI cO z tP aK aV own nm cc nL rt) {a0 a1 : Option Value} {r : List (Option Value)} {x : Int32} (hd : decode cc pc = .ok (.iload_n 2, 1)) (hn : pc + 1 = n) (k : G p l e R s m args below meth c D cI cO z nL Q cs sl sh M n (a0 :: a1 :: some (.int x) :: r) (.int x :: st)) : G p l e R s m args below meth c D cI cO z nL Q cs sl sh M pc (a0 :: a1 :: some (.int x) :: r) st := by
  subst hn
  intro H locs ls hP hS hl
  exact lv_iload_n C.1 C.2.1 hd rfl (hl.at (i := 2) rfl) (k H locs ls hP hS hl)
theorem g_istore2 (C : Cx p s m args meth c D cI cO z tP aK aV own nm cc nL rt) {a0 a1 : Option Value} {r : List (Option Value)} {o : Option Value} {x : Int32} (hd : decode cc pc = .ok (.istore_n 2, 1)) (hn : pc + 1 = n) (k : G p l e R s m args below meth c D cI cO z nL Q cs sl sh M n (a0 :: a1 :: some (.int x) :: r) st) : G p l e R s m args below meth c D cI cO z nL Q cs sl sh M pc (a0 :: a1 :: o :: r) (.int x :: st) := by
  subst hn
  intro H locs ls hP hS hl
  exact lv_istore_n C.1 C.2.1 hd rfl hl.has (by rw [← hl.2.2.1]; simp; try omega) rfl (fun ls' h' => k H locs ls' hP hS (hl.set rfl h'))
theorem g_aload2 (C : Cx p s m args meth c D cI cO z tP aK aV own nm cc nL rt) {a0 a1 : Option Value} {r : List (Option Value)} {x : Nat} (hd : decode cc pc = .ok (.aload_n 2, 1)) (hn : pc + 1 = n) (k : G p l e R s m args below meth c D cI cO z nL Q cs sl sh M n (a0 :: a1 :: some (.ref x) :: r) (.ref x :: st)) : G p l e R s m args below meth c D cI cO z nL Q cs sl sh M pc (a0 :: a1 :: some (.ref x) :: r) st := by
  subst hn
  intro H locs ls hP hS hl
  exact lv_aload_n C.1 C.2.1 hd rfl (hl.at (i := 2) rfl) (k H locs ls hP hS hl)
theorem g_astore2 (C : Cx p s m args meth c D cI cO z tP aK aV own nm cc nL rt) {a0 a1 : Option Value} {r : List (Option Value)} {o : Option Value} {x : Nat} (hd : decode cc pc = .ok (.astore_n 2, 1)) (hn : pc + 1 = n) (k : G p l e R s m args below meth c D cI cO z nL Q cs sl sh M n (a0 :: a1 :: some (.ref x) :: r) st) : G p l e R s m args below meth c D cI cO z nL Q cs sl sh M pc (a0 :: a1 :: o :: r) (.ref x :: st) := by
  subst hn
  intro H locs ls hP hS hl
  exact lv_astore_n C.1 C.2.1 hd rfl hl.has (by rw [← hl.2.2.1]; simp; try omega) rfl (fun ls' h' => k H locs ls' hP hS (hl.set rfl h'))
theorem g_astoreN2 (C : Cx p s m args meth c D cI cO z tP aK aV own nm cc nL rt) {a0 a1 : Option Value} {r : List (Option Value)} {o : Option Value} (hd : decode cc pc = .ok (.astore_n 2, 1)) (hn : pc + 1 = n) (k : G p l e R s m args below meth c D cI cO z nL Q cs sl sh M n (a0 :: a1 :: some .null :: r) st) : G p l e R s m args below meth c D cI cO z nL Q cs sl sh M pc (a0 :: a1 :: o :: r) (.null :: st) := by
  subst hn
  intro H locs ls hP hS hl
  exact lv_astore_nN C.1 C.2.1 hd rfl hl.has (by rw [← hl.2.2.1]; simp; try omega) rfl (fun ls' h' => k H locs ls' hP hS (hl.set rfl h'))
theorem g_aloadN2 (C : Cx p s m args meth c D cI cO z tP aK aV own nm cc nL rt) {a0 a1 : Option Value} {r : List (Option Value)} (hd : decode cc pc = .ok (.aload_n 2, 1)) (hn : pc + 1 = n) (k : G p l e R s m args below meth c D cI cO z nL Q cs sl sh M n (a0 :: a1 :: some .null :: r) (.null :: st)) : G p l e R s m args below meth c D cI cO z nL Q cs sl sh M pc (a0 :: a1 :: some .null :: r) st := by
  subst hn
  intro H locs ls hP hS hl
  exact lv_aload_nN C.1 C.2.1 hd rfl (hl.at (i := 2) rfl) (k H locs ls hP hS hl)
theorem g_iinc2 (C : Cx p s m args meth c D cI cO z tP aK aV own nm cc nL rt) {a0 a1 : Option Value} {r : List (Option Value)} {x v : Int32} {d : Int} (hv : x + Int32.ofInt d = v) (hd : decode cc pc = .ok (.iinc 2 d, 3)) (hn : pc + 3 = n) (k : G p l e R s m args below meth c D cI cO z nL Q cs sl sh M n (a0 :: a1 :: some (.int v) :: r) st) : G p l e R s m args below meth c D cI cO z nL Q cs sl sh M pc (a0 :: a1 :: some (.int x) :: r) st := by
  subst hn
  intro H locs ls hP hS hl
  have hm : (2, Value.int x) ∈ prs (a0 :: a1 :: some (.int x) :: r) := mem_prs.mpr rfl
  obtain ⟨k0, hk0⟩ := List.getElem?_of_mem hm
  exact lv_iinc C.1 C.2.1 hd hl.has hk0 hv (by rw [← hl.2.2.1]; simp; try omega) rfl (fun ls' h' => k H locs ls' hP hS (hl.set rfl h'))
theorem g_iload3 (C : Cx p s m args meth c D cI cO z tP aK aV own nm cc nL rt) {a0 a1 a2 : Option Value} {r : List (Option Value)} {x : Int32} (hd : decode cc pc = .ok (.iload_n 3, 1)) (hn : pc + 1 = n) (k : G p l e R s m args below meth c D cI cO z nL Q cs sl sh M n (a0 :: a1 :: a2 :: some (.int x) :: r) (.int x :: st)) : G p l e R s m args below meth c D cI cO z nL Q cs sl sh M pc (a0 :: a1 :: a2 :: some (.int x) :: r) st := by
  subst hn
  intro H locs ls hP hS hl
  exact lv_iload_n C.1 C.2.1 hd rfl (hl.at (i := 3) rfl) (k H locs ls hP hS hl)
theorem g_istore3 (C : Cx p s m args meth c D cI cO z tP aK aV own nm cc nL rt) {a0 a1 a2 : Option Value} {r : List (Option Value)} {o : Option Value} {x : Int32} (hd : decode cc pc = .ok (.istore_n 3, 1)) (hn : pc + 1 = n) (k : G p l e R s m args below meth c D cI cO z nL Q cs sl sh M n (a0 :: a1 :: a2 :: some (.int x) :: r) st) : G p l e R s m args below meth c D cI cO z nL Q cs sl sh M pc (a0 :: a1 :: a2 :: o :: r) (.int x :: st) := by
  subst hn
  intro H locs ls hP hS hl
  exact lv_istore_n C.1 C.2.1 hd rfl hl.has (by rw [← hl.2.2.1]; simp; try omega) rfl (fun ls' h' => k H locs ls' hP hS (hl.set rfl h'))
theorem g_aload3 (C : Cx p s m args meth c D cI cO z tP aK aV own nm cc nL rt) {a0 a1 a2 : Option Value} {r : List (Option Value)} {x : Nat} (hd : decode cc pc = .ok (.aload_n 3, 1)) (hn : pc + 1 = n) (k : G p l e R s m args below meth c D cI cO z nL Q cs sl sh M n (a0 :: a1 :: a2 :: some (.ref x) :: r) (.ref x :: st)) : G p l e R s m args below meth c D cI cO z nL Q cs sl sh M pc (a0 :: a1 :: a2 :: some (.ref x) :: r) st := by
  subst hn
  intro H locs ls hP hS hl
  exact lv_aload_n C.1 C.2.1 hd rfl (hl.at (i := 3) rfl) (k H locs ls hP hS hl)
theorem g_astore3 (C : Cx p s m args meth c D cI cO z tP aK aV own nm cc nL rt) {a0 a1 a2 : Option Value} {r : List (Option Value)} {o : Option Value} {x : Nat} (hd : decode cc pc = .ok (.astore_n 3, 1)) (hn : pc + 1 = n) (k : G p l e R s m args below meth c D cI cO z nL Q cs sl sh M n (a0 :: a1 :: a2 :: some (.ref x) :: r) st) : G p l e R s m args below meth c D cI cO z nL Q cs sl sh M pc (a0 :: a1 :: a2 :: o :: r) (.ref x :: st) := by
  subst hn
  intro H locs ls hP hS hl
  exact lv_astore_n C.1 C.2.1 hd rfl hl.has (by rw [← hl.2.2.1]; simp; try omega) rfl (fun ls' h' => k H locs ls' hP hS (hl.set rfl h'))
theorem g_astoreN3 (C : Cx p s m args meth c D cI cO z tP aK aV own nm cc nL rt) {a0 a1 a2 : Option Value} {r : List (Option Value)} {o : Option Value} (hd : decode cc pc = .ok (.astore_n 3, 1)) (hn : pc + 1 = n) (k : G p l e R s m args below meth c D cI cO z nL Q cs sl sh M n (a0 :: a1 :: a2 :: some .null :: r) st) : G p l e R s m args below meth c D cI cO z nL Q cs sl sh M pc (a0 :: a1 :: a2 :: o :: r) (.null :: st) := by
  subst hn
  intro H locs ls hP hS hl
  exact lv_astore_nN C.1 C.2.1 hd rfl hl.has (by rw [← hl.2.2.1]; simp; try omega) rfl (fun ls' h' => k H locs ls' hP hS (hl.set rfl h'))
theorem g_aloadN3 (C : Cx p s m args meth c D cI cO z tP aK aV own nm cc nL rt) {a0 a1 a2 : Option Value} {r : List (Option Value)} (hd : decode cc pc = .ok (.aload_n 3, 1)) (hn : pc + 1 = n) (k : G p l e R s m args below meth c D cI cO z nL Q cs sl sh M n (a0 :: a1 :: a2 :: some .null :: r) (.null :: st)) : G p l e R s m args below meth c D cI cO z nL Q cs sl sh M pc (a0 :: a1 :: a2 :: some .null :: r) st := by
  subst hn
  intro H locs ls hP hS hl
  exact lv_aload_nN C.1 C.2.1 hd rfl (hl.at (i := 3) rfl) (k H locs ls hP hS hl)
theorem g_iinc3 (C : Cx p s m args meth c D cI cO z tP aK aV own nm cc nL rt) {a0 a1 a2 : Option Value} {r : List (Option Value)} {x v : Int32} {d : Int} (hv : x + Int32.ofInt d = v) (hd : decode cc pc = .ok (.iinc 3 d, 3)) (hn : pc + 3 = n) (k : G p l e R s m args below meth c D cI cO z nL Q cs sl sh M n (a0 :: a1 :: a2 :: some (.int v) :: r) st) : G p l e R s m args below meth c D cI cO z nL Q cs sl sh M pc (a0 :: a1 :: a2 :: some (.int x) :: r) st := by
  subst hn
  intro H locs ls hP hS hl
  have hm : (3, Value.int x) ∈ prs (a0 :: a1 :: a2 :: some (.int x) :: r) := mem_prs.mpr rfl
  obtain ⟨k0, hk0⟩ := List.getElem?_of_mem hm
  exact lv_iinc C.1 C.2.1 hd hl.has hk0 hv (by rw [← hl.2.2.1]; simp; try omega) rfl (fun ls' h' => k H locs ls' hP hS (hl.set rfl h'))
theorem g_iload4 (C : Cx p s m args meth c D cI cO z tP aK aV own nm cc nL rt) {a0 a1 a2 a3 : Option Value} {r : List (Option Value)} {x : Int32} (hd : decode cc pc = .ok (.iload 4, 2)) (hn : pc + 2 = n) (k : G p l e R s m args below meth c D cI cO z nL Q cs sl sh M n (a0 :: a1 :: a2 :: a3 :: some (.int x) :: r) (.int x :: st)) : G p l e R s m args below meth c D cI cO z nL Q cs sl sh M pc (a0 :: a1 :: a2 :: a3 :: some (.int x) :: r) st := by
  subst hn
  intro H locs ls hP hS hl
  exact lv_iload C.1 C.2.1 hd (hl.at (i := 4) rfl) (k H locs ls hP hS hl)
theorem g_istore4 (C : Cx p s m args meth c D cI cO z tP aK aV own nm cc nL rt) {a0 a1 a2 a3 : Option Value} {r : List (Option Value)} {o : Option Value} {x : Int32} (hd : decode cc pc = .ok (.istore 4, 2)) (hn : pc + 2 = n) (k : G p l e R s m args below meth c D cI cO z nL Q cs sl sh M n (a0 :: a1 :: a2 :: a3 :: some (.int x) :: r) st) : G p l e R s m args below meth c D cI cO z nL Q cs sl sh M pc (a0 :: a1 :: a2 :: a3 :: o :: r) (.int x :: st) := by
  subst hn
  intro H locs ls hP hS hl
  exact lv_istore C.1 C.2.1 hd hl.has (by rw [← hl.2.2.1]; simp; try omega) rfl (fun ls' h' => k H locs ls' hP hS (hl.set rfl h'))
theorem g_aload4 (C : Cx p s m args meth c D cI cO z tP aK aV own nm cc nL rt) {a0 a1 a2 a3 : Option Value} {r : List (Option Value)} {x : Nat} (hd : decode cc pc = .ok (.aload 4, 2)) (hn : pc + 2 = n) (k : G p l e R s m args below meth c D cI cO z nL Q cs sl sh M n (a0 :: a1 :: a2 :: a3 :: some (.ref x) :: r) (.ref x :: st)) : G p l e R s m args below meth c D cI cO z nL Q cs sl sh M pc (a0 :: a1 :: a2 :: a3 :: some (.ref x) :: r) st := by
  subst hn
  intro H locs ls hP hS hl
  exact lv_aload C.1 C.2.1 hd (hl.at (i := 4) rfl) (k H locs ls hP hS hl)
theorem g_astore4 (C : Cx p s m args meth c D cI cO z tP aK aV own nm cc nL rt) {a0 a1 a2 a3 : Option Value} {r : List (Option Value)} {o : Option Value} {x : Nat} (hd : decode cc pc = .ok (.astore 4, 2)) (hn : pc + 2 = n) (k : G p l e R s m args below meth c D cI cO z nL Q cs sl sh M n (a0 :: a1 :: a2 :: a3 :: some (.ref x) :: r) st) : G p l e R s m args below meth c D cI cO z nL Q cs sl sh M pc (a0 :: a1 :: a2 :: a3 :: o :: r) (.ref x :: st) := by
  subst hn
  intro H locs ls hP hS hl
  exact lv_astore C.1 C.2.1 hd hl.has (by rw [← hl.2.2.1]; simp; try omega) rfl (fun ls' h' => k H locs ls' hP hS (hl.set rfl h'))
theorem g_iinc4 (C : Cx p s m args meth c D cI cO z tP aK aV own nm cc nL rt) {a0 a1 a2 a3 : Option Value} {r : List (Option Value)} {x v : Int32} {d : Int} (hv : x + Int32.ofInt d = v) (hd : decode cc pc = .ok (.iinc 4 d, 3)) (hn : pc + 3 = n) (k : G p l e R s m args below meth c D cI cO z nL Q cs sl sh M n (a0 :: a1 :: a2 :: a3 :: some (.int v) :: r) st) : G p l e R s m args below meth c D cI cO z nL Q cs sl sh M pc (a0 :: a1 :: a2 :: a3 :: some (.int x) :: r) st := by
  subst hn
  intro H locs ls hP hS hl
  have hm : (4, Value.int x) ∈ prs (a0 :: a1 :: a2 :: a3 :: some (.int x) :: r) := mem_prs.mpr rfl
  obtain ⟨k0, hk0⟩ := List.getElem?_of_mem hm
  exact lv_iinc C.1 C.2.1 hd hl.has hk0 hv (by rw [← hl.2.2.1]; simp; try omega) rfl (fun ls' h' => k H locs ls' hP hS (hl.set rfl h'))
theorem g_iload5 (C : Cx p s m args meth c D cI cO z tP aK aV own nm cc nL rt) {a0 a1 a2 a3 a4 : Option Value} {r : List (Option Value)} {x : Int32} (hd : decode cc pc = .ok (.iload 5, 2)) (hn : pc + 2 = n) (k : G p l e R s m args below meth c D cI cO z nL Q cs sl sh M n (a0 :: a1 :: a2 :: a3 :: a4 :: some (.int x) :: r) (.int x :: st)) : G p l e R s m args below meth c D cI cO z nL Q cs sl sh M pc (a0 :: a1 :: a2 :: a3 :: a4 :: some (.int x) :: r) st := by
  subst hn
  intro H locs ls hP hS hl
  exact lv_iload C.1 C.2.1 hd (hl.at (i := 5) rfl) (k H locs ls hP hS hl)
theorem g_istore5 (C : Cx p s m args meth c D cI cO z tP aK aV own nm cc nL rt) {a0 a1 a2 a3 a4 : Option Value} {r : List (Option Value)} {o : Option Value} {x : Int32} (hd : decode cc pc = .ok (.istore 5, 2)) (hn : pc + 2 = n) (k : G p l e R s m args below meth c D cI cO z nL Q cs sl sh M n (a0 :: a1 :: a2 :: a3 :: a4 :: some (.int x) :: r) st) : G p l e R s m args below meth c D cI cO z nL Q cs sl sh M pc (a0 :: a1 :: a2 :: a3 :: a4 :: o :: r) (.int x :: st) := by
  subst hn
  intro H locs ls hP hS hl
  exact lv_istore C.1 C.2.1 hd hl.has (by rw [← hl.2.2.1]; simp; try omega) rfl (fun ls' h' => k H locs ls' hP hS (hl.set rfl h'))
theorem g_aload5 (C : Cx p s m args meth c D cI cO z tP aK aV own nm cc nL rt) {a0 a1 a2 a3 a4 : Option Value} {r : List (Option Value)} {x : Nat} (hd : decode cc pc = .ok (.aload 5, 2)) (hn : pc + 2 = n) (k : G p l e R s m args below meth c D cI cO z nL Q cs sl sh M n (a0 :: a1 :: a2 :: a3 :: a4 :: some (.ref x) :: r) (.ref x :: st)) : G p l e R s m args below meth c D cI cO z nL Q cs sl sh M pc (a0 :: a1 :: a2 :: a3 :: a4 :: some (.ref x) :: r) st := by
  subst hn
  intro H locs ls hP hS hl
  exact lv_aload C.1 C.2.1 hd (hl.at (i := 5) rfl) (k H locs ls hP hS hl)
theorem g_astore5 (C : Cx p s m args meth c D cI cO z tP aK aV own nm cc nL rt) {a0 a1 a2 a3 a4 : Option Value} {r : List (Option Value)} {o : Option Value} {x : Nat} (hd : decode cc pc = .ok (.astore 5, 2)) (hn : pc + 2 = n) (k : G p l e R s m args below meth c D cI cO z nL Q cs sl sh M n (a0 :: a1 :: a2 :: a3 :: a4 :: some (.ref x) :: r) st) : G p l e R s m args below meth c D cI cO z nL Q cs sl sh M pc (a0 :: a1 :: a2 :: a3 :: a4 :: o :: r) (.ref x :: st) := by
  subst hn
  intro H locs ls hP hS hl
  exact lv_astore C.1 C.2.1 hd hl.has (by rw [← hl.2.2.1]; simp; try omega) rfl (fun ls' h' => k H locs ls' hP hS (hl.set rfl h'))
theorem g_iinc5 (C : Cx p s m args meth c D cI cO z tP aK aV own nm cc nL rt) {a0 a1 a2 a3 a4 : Option Value} {r : List (Option Value)} {x v : Int32} {d : Int} (hv : x + Int32.ofInt d = v) (hd : decode cc pc = .ok (.iinc 5 d, 3)) (hn : pc + 3 = n) (k : G p l e R s m args below meth c D cI cO z nL Q cs sl sh M n (a0 :: a1 :: a2 :: a3 :: a4 :: some (.int v) :: r) st) : G p l e R s m args below meth c D cI cO z nL Q cs sl sh M pc (a0 :: a1 :: a2 :: a3 :: a4 :: some (.int x) :: r) st := by
  subst hn
  intro H locs ls hP hS hl
  have hm : (5, Value.int x) ∈ prs (a0 :: a1 :: a2 :: a3 :: a4 :: some (.int x) :: r) := mem_prs.mpr rfl
  obtain ⟨k0, hk0⟩ := List.getElem?_of_mem hm
  exact lv_iinc C.1 C.2.1 hd hl.has hk0 hv (by rw [← hl.2.2.1]; simp; try omega) rfl (fun ls' h' => k H locs ls' hP hS (hl.set rfl h'))
theorem g_iload6 (C : Cx p s m args meth c D cI cO z tP aK aV own nm cc nL rt) {a0 a1 a2 a3 a4 a5 : Option Value} {r : List (Option Value)} {x : Int32} (hd : decode cc pc = .ok (.iload 6, 2)) (hn : pc + 2 = n) (k : G p l e R s m args below meth c D cI cO z nL Q cs sl sh M n (a0 :: a1 :: a2 :: a3 :: a4 :: a5 :: some (.int x) :: r) (.int x :: st)) : G p l e R s m args below meth c D cI cO z nL Q cs sl sh M pc (a0 :: a1 :: a2 :: a3 :: a4 :: a5 :: some (.int x) :: r) st := by
  subst hn
  intro H locs ls hP hS hl
  exact lv_iload C.1 C.2.1 hd (hl.at (i := 6) rfl) (k H locs ls hP hS hl)
theorem g_istore6 (C : Cx p s m args meth c D cI cO z tP aK aV own nm cc nL rt) {a0 a1 a2 a3 a4 a5 : Option Value} {r : List (Option Value)} {o : Option Value} {x : Int32} (hd : decode cc pc = .ok (.istore 6, 2)) (hn : pc + 2 = n) (k : G p l e R s m args below meth c D cI cO z nL Q cs sl sh M n (a0 :: a1 :: a2 :: a3 :: a4 :: a5 :: some (.int x) :: r) st) : G p l e R s m args below meth c D cI cO z nL Q cs sl sh M pc (a0 :: a1 :: a2 :: a3 :: a4 :: a5 :: o :: r) (.int x :: st) := by
  subst hn
  intro H locs ls hP hS hl
  exact lv_istore C.1 C.2.1 hd hl.has (by rw [← hl.2.2.1]; simp; try omega) rfl (fun ls' h' => k H locs ls' hP hS (hl.set rfl h'))
theorem g_aload6 (C : Cx p s m args meth c D cI cO z tP aK aV own nm cc nL rt) {a0 a1 a2 a3 a4 a5 : Option Value} {r : List (Option Value)} {x : Nat} (hd : decode cc pc = .ok (.aload 6, 2)) (hn : pc + 2 = n) (k : G p l e R s m args below meth c D cI cO z nL Q cs sl sh M n (a0 :: a1 :: a2 :: a3 :: a4 :: a5 :: some (.ref x) :: r) (.ref x :: st)) : G p l e R s m args below meth c D cI cO z nL Q cs sl sh M pc (a0 :: a1 :: a2 :: a3 :: a4 :: a5 :: some (.ref x) :: r) st := by
  subst hn
  intro H locs ls hP hS hl
  exact lv_aload C.1 C.2.1 hd (hl.at (i := 6) rfl) (k H locs ls hP hS hl)
theorem g_astore6 (C : Cx p s m args meth c D cI cO z tP aK aV own nm cc nL rt) {a0 a1 a2 a3 a4 a5 : Option Value} {r : List (Option Value)} {o : Option Value} {x : Nat} (hd : decode cc pc = .ok (.astore 6, 2)) (hn : pc + 2 = n) (k : G p l e R s m args below meth c D cI cO z nL Q cs sl sh M n (a0 :: a1 :: a2 :: a3 :: a4 :: a5 :: some (.ref x) :: r) st) : G p l e R s m args below meth c D cI cO z nL Q cs sl sh M pc (a0 :: a1 :: a2 :: a3 :: a4 :: a5 :: o :: r) (.ref x :: st) := by
  subst hn
  intro H locs ls hP hS hl
  exact lv_astore C.1 C.2.1 hd hl.has (by rw [← hl.2.2.1]; simp; try omega) rfl (fun ls' h' => k H locs ls' hP hS (hl.set rfl h'))
theorem g_iinc6 (C : Cx p s m args meth c D cI cO z tP aK aV own nm cc nL rt) {a0 a1 a2 a3 a4 a5 : Option Value} {r : List (Option Value)} {x v : Int32} {d : Int} (hv : x + Int32.ofInt d = v) (hd : decode cc pc = .ok (.iinc 6 d, 3)) (hn : pc + 3 = n) (k : G p l e R s m args below meth c D cI cO z nL Q cs sl sh M n (a0 :: a1 :: a2 :: a3 :: a4 :: a5 :: some (.int v) :: r) st) : G p l e R s m args below meth c D cI cO z nL Q cs sl sh M pc (a0 :: a1 :: a2 :: a3 :: a4 :: a5 :: some (.int x) :: r) st := by
  subst hn
  intro H locs ls hP hS hl
  have hm : (6, Value.int x) ∈ prs (a0 :: a1 :: a2 :: a3 :: a4 :: a5 :: some (.int x) :: r) := mem_prs.mpr rfl
  obtain ⟨k0, hk0⟩ := List.getElem?_of_mem hm
  exact lv_iinc C.1 C.2.1 hd hl.has hk0 hv (by rw [← hl.2.2.1]; simp; try omega) rfl (fun ls' h' => k H locs ls' hP hS (hl.set rfl h'))
theorem g_iload7 (C : Cx p s m args meth c D cI cO z tP aK aV own nm cc nL rt) {a0 a1 a2 a3 a4 a5 a6 : Option Value} {r : List (Option Value)} {x : Int32} (hd : decode cc pc = .ok (.iload 7, 2)) (hn : pc + 2 = n) (k : G p l e R s m args below meth c D cI cO z nL Q cs sl sh M n (a0 :: a1 :: a2 :: a3 :: a4 :: a5 :: a6 :: some (.int x) :: r) (.int x :: st)) : G p l e R s m args below meth c D cI cO z nL Q cs sl sh M pc (a0 :: a1 :: a2 :: a3 :: a4 :: a5 :: a6 :: some (.int x) :: r) st := by
  subst hn
  intro H locs ls hP hS hl
  exact lv_iload C.1 C.2.1 hd (hl.at (i := 7) rfl) (k H locs ls hP hS hl)
theorem g_istore7 (C : Cx p s m args meth c D cI cO z tP aK aV own nm cc nL rt) {a0 a1 a2 a3 a4 a5 a6 : Option Value} {r : List (Option Value)} {o : Option Value} {x : Int32} (hd : decode cc pc = .ok (.istore 7, 2)) (hn : pc + 2 = n) (k : G p l e R s m args below meth c D cI cO z nL Q cs sl sh M n (a0 :: a1 :: a2 :: a3 :: a4 :: a5 :: a6 :: some (.int x) :: r) st) : G p l e R s m args below meth c D cI cO z nL Q cs sl sh M pc (a0 :: a1 :: a2 :: a3 :: a4 :: a5 :: a6 :: o :: r) (.int x :: st) := by
  subst hn
  intro H locs ls hP hS hl
  exact lv_istore C.1 C.2.1 hd hl.has (by rw [← hl.2.2.1]; simp; try omega) rfl (fun ls' h' => k H locs ls' hP hS (hl.set rfl h'))
theorem g_aload7 (C : Cx p s m args meth c D cI cO z tP aK aV own nm cc nL rt) {a0 a1 a2 a3 a4 a5 a6 : Option Value} {r : List (Option Value)} {x : Nat} (hd : decode cc pc = .ok (.aload 7, 2)) (hn : pc + 2 = n) (k : G p l e R s m args below meth c D cI cO z nL Q cs sl sh M n (a0 :: a1 :: a2 :: a3 :: a4 :: a5 :: a6 :: some (.ref x) :: r) (.ref x :: st)) : G p l e R s m args below meth c D cI cO z nL Q cs sl sh M pc (a0 :: a1 :: a2 :: a3 :: a4 :: a5 :: a6 :: some (.ref x) :: r) st := by
  subst hn
  intro H locs ls hP hS hl
  exact lv_aload C.1 C.2.1 hd (hl.at (i := 7) rfl) (k H locs ls hP hS hl)
theorem g_astore7 (C : Cx p s m args meth c D cI cO z tP aK aV own nm cc nL rt) {a0 a1 a2 a3 a4 a5 a6 : Option Value} {r : List (Option Value)} {o : Option Value} {x : Nat} (hd : decode cc pc = .ok (.astore 7, 2)) (hn : pc + 2 = n) (k : G p l e R s m args below meth c D cI cO z nL Q cs sl sh M n (a0 :: a1 :: a2 :: a3 :: a4 :: a5 :: a6 :: some (.ref x) :: r) st) : G p l e R s m args below meth c D cI cO z nL Q cs sl sh M pc (a0 :: a1 :: a2 :: a3 :: a4 :: a5 :: a6 :: o :: r) (.ref x :: st) := by
  subst hn
  intro H locs ls hP hS hl
  exact lv_astore C.1 C.2.1 hd hl.has (by rw [← hl.2.2.1]; simp; try omega) rfl (fun ls' h' => k H locs ls' hP hS (hl.set rfl h'))
theorem g_iinc7 (C : Cx p s m args meth c D cI cO z tP aK aV own nm cc nL rt) {a0 a1 a2 a3 a4 a5 a6 : Option Value} {r : List (Option Value)} {x v : Int32} {d : Int} (hv : x + Int32.ofInt d = v) (hd : decode cc pc = .ok (.iinc 7 d, 3)) (hn : pc + 3 = n) (k : G p l e R s m args below meth c D cI cO z nL Q cs sl sh M n (a0 :: a1 :: a2 :: a3 :: a4 :: a5 :: a6 :: some (.int v) :: r) st) : G p l e R s m args below meth c D cI cO z nL Q cs sl sh M pc (a0 :: a1 :: a2 :: a3 :: a4 :: a5 :: a6 :: some (.int x) :: r) st := by
  subst hn
  intro H locs ls hP hS hl
  have hm : (7, Value.int x) ∈ prs (a0 :: a1 :: a2 :: a3 :: a4 :: a5 :: a6 :: some (.int x) :: r) := mem_prs.mpr rfl
  obtain ⟨k0, hk0⟩ := List.getElem?_of_mem hm
  exact lv_iinc C.1 C.2.1 hd hl.has hk0 hv (by rw [← hl.2.2.1]; simp; try omega) rfl (fun ls' h' => k H locs ls' hP hS (hl.set rfl h'))
theorem g_iload8 (C : Cx p s m args meth c D cI cO z tP aK aV own nm cc nL rt) {a0 a1 a2 a3 a4 a5 a6 a7 : Option Value} {r : List (Option Value)} {x : Int32} (hd : decode cc pc = .ok (.iload 8, 2)) (hn : pc + 2 = n) (k : G p l e R s m args below meth c D cI cO z nL Q cs sl sh M n (a0 :: a1 :: a2 :: a3 :: a4 :: a5 :: a6 :: a7 :: some (.int x) :: r) (.int x :: st)) : G p l e R s m args below meth c D cI cO z nL Q cs sl sh M pc (a0 :: a1 :: a2 :: a3 :: a4 :: a5 :: a6 :: a7 :: some (.int x) :: r) st := by
  subst hn
  intro H locs ls hP hS hl
  exact lv_iload C.1 C.2.1 hd (hl.at (i := 8) rfl) (k H locs ls hP hS hl)
theorem g_istore8 (C : Cx p s m args meth c D cI cO z tP aK aV own nm cc nL rt) {a0 a1 a2 a3 a4 a5 a6 a7 : Option Value} {r : List (Option Value)} {o : Option Value} {x : Int32} (hd : decode cc pc = .ok (.istore 8, 2)) (hn : pc + 2 = n) (k : G p l e R s m args below meth c D cI cO z nL Q cs sl sh M n (a0 :: a1 :: a2 :: a3 :: a4 :: a5 :: a6 :: a7 :: some (.int x) :: r) st) : G p l e R s m args below meth c D cI cO z nL Q cs sl sh M pc (a0 :: a1 :: a2 :: a3 :: a4 :: a5 :: a6 :: a7 :: o :: r) (.int x :: st) := by
  subst hn
  intro H locs ls hP hS hl
  exact lv_istore C.1 C.2.1 hd hl.has (by rw [← hl.2.2.1]; simp; try omega) rfl (fun ls' h' => k H locs ls' hP hS (hl.set rfl h'))
theorem g_aload8 (C : Cx p s m args meth c D cI cO z tP aK aV own nm cc nL rt) {a0 a1 a2 a3 a4 a5 a6 a7 : Option Value} {r : List (Option Value)} {x : Nat} (hd : decode cc pc = .ok (.aload 8, 2)) (hn : pc + 2 = n) (k : G p l e R s m args below meth c D cI cO z nL Q cs sl sh M n (a0 :: a1 :: a2 :: a3 :: a4 :: a5 :: a6 :: a7 :: some (.ref x) :: r) (.ref x :: st)) : G p l e R s m args below meth c D cI cO z nL Q cs sl sh M pc (a0 :: a1 :: a2 :: a3 :: a4 :: a5 :: a6 :: a7 :: some (.ref x) :: r) st := by
  subst hn
  intro H locs ls hP hS hl
  exact lv_aload C.1 C.2.1 hd (hl.at (i := 8) rfl) (k H locs ls hP hS hl)
theorem g_astore8 (C : Cx p s m args meth c D cI cO z tP aK aV own nm cc nL rt) {a0 a1 a2 a3 a4 a5 a6 a7 : Option Value} {r : List (Option Value)} {o : Option Value} {x : Nat} (hd : decode cc pc = .ok (.astore 8, 2)) (hn : pc + 2 = n) (k : G p l e R s m args below meth c D cI cO z nL Q cs sl sh M n (a0 :: a1 :: a2 :: a3 :: a4 :: a5 :: a6 :: a7 :: some (.ref x) :: r) st) : G p l e R s m args below meth c D cI cO z nL Q cs sl sh M pc (a0 :: a1 :: a2 :: a3 :: a4 :: a5 :: a6 :: a7 :: o :: r) (.ref x :: st) := by
  subst hn
  intro H locs ls hP hS hl
  exact lv_astore C.1 C.2.1 hd hl.has (by rw [← hl.2.2.1]; simp; try omega) rfl (fun ls' h' => k H locs ls' hP hS (hl.set rfl h'))
theorem g_iinc8 (C : Cx p s m args meth c D cI cO z tP aK aV own nm cc nL rt) {a0 a1 a2 a3 a4 a5 a6 a7 : Option Value} {r : List (Option Value)} {x v : Int32} {d : Int} (hv : x + Int32.ofInt d = v) (hd : decode cc pc = .ok (.iinc 8 d, 3)) (hn : pc + 3 = n) (k : G p l e R s m args below meth c D cI cO z nL Q cs sl sh M n (a0 :: a1 :: a2 :: a3 :: a4 :: a5 :: a6 :: a7 :: some (.int v) :: r) st) : G p l e R s m args below meth c D cI cO z nL Q cs sl sh M pc (a0 :: a1 :: a2 :: a3 :: a4 :: a5 :: a6 :: a7 :: some (.int x) :: r) st := by
  subst hn
  intro H locs ls hP hS hl
  have hm : (8, Value.int x) ∈ prs (a0 :: a1 :: a2 :: a3 :: a4 :: a5 :: a6 :: a7 :: some (.int x) :: r) := mem_prs.mpr rfl
  obtain ⟨k0, hk0⟩ := List.getElem?_of_mem hm
  exact lv_iinc C.1 C.2.1 hd hl.has hk0 hv (by rw [← hl.2.2.1]; simp; try omega) rfl (fun ls' h' => k H locs ls' hP hS (hl.set rfl h'))
theorem g_iload9 (C : Cx p s m args meth c D cI cO z tP aK aV own nm cc nL rt) {a0 a1 a2 a3 a4 a5 a6 a7 a8 : Option Value} {r : List (Option Value)} {x : Int32} (hd : decode cc pc = .ok (.iload 9, 2)) (hn : pc + 2 = n) (k : G p l e R s m args below meth c D cI cO z nL Q cs sl sh M n (a0 :: a1 :: a2 :: a3 :: a4 :: a5 :: a6 :: a7 :: a8 :: some (.int x) :: r) (.int x :: st)) : G p l e R s m args below meth c D cI cO z nL Q cs sl sh M pc (a0 :: a1 :: a2 :: a3 :: a4 :: a5 :: a6 :: a7 :: a8 :: some (.int x) :: r) st := by
  subst hn
  intro H locs ls hP hS hl
  exact lv_iload C.1 C.2.1 hd (hl.at (i := 9) rfl) (k H locs ls hP hS hl)
theorem g_istore9 (C : Cx p s m args meth c D cI cO z tP aK aV own nm cc nL rt) {a0 a1 a2 a3 a4 a5 a6 a7 a8 : Option Value} {r : List (Option Value)} {o : Option Value} {x : Int32} (hd : decode cc pc = .ok (.istore 9, 2)) (hn : pc + 2 = n) (k : G p l e R s m args below meth c D cI cO z nL Q cs sl sh M n (a0 :: a1 :: a2 :: a3 :: a4 :: a5 :: a6 :: a7 :: a8 :: some (.int x) :: r) st) : G p l e R s m args below meth c D cI cO z nL Q cs sl sh M pc (a0 :: a1 :: a2 :: a3 :: a4 :: a5 :: a6 :: a7 :: a8 :: o :: r) (.int x :: st) := by
  subst hn
  intro H locs ls hP hS hl
  exact lv_istore C.1 C.2.1 hd hl.has (by rw [← hl.2.2.1]; simp; try omega) rfl (fun ls' h' => k H locs ls' hP hS (hl.set rfl h'))
theorem g_aload9 (C : Cx p s m args meth c D cI cO z tP aK aV own nm cc nL rt) {a0 a1 a2 a3 a4 a5 a6 a7 a8 : Option Value} {r : List (Option Value)} {x : Nat} (hd : decode cc pc = .ok (.aload 9, 2)) (hn : pc + 2 = n) (k : G p l e R s m args below meth c D cI cO z nL Q cs sl sh M n (a0 :: a1 :: a2 :: a3 :: a4 :: a5 :: a6 :: a7 :: a8 :: some (.ref x) :: r) (.ref x :: st)) : G p l e R s m args below meth c D cI cO z nL Q cs sl sh M pc (a0 :: a1 :: a2 :: a3 :: a4 :: a5 :: a6 :: a7 :: a8 :: some (.ref x) :: r) st := by
  subst hn
  intro H locs ls hP hS hl
  exact lv_aload C.1 C.2.1 hd (hl.at (i := 9) rfl) (k H locs ls hP hS hl)
theorem g_astore9 (C : Cx p s m args meth c D cI cO z tP aK aV own nm cc nL rt) {a0 a1 a2 a3 a4 a5 a6 a7 a8 : Option Value} {r : List (Option Value)} {o : Option Value} {x : Nat} (hd : decode cc pc = .ok (.astore 9, 2)) (hn : pc + 2 = n) (k : G p l e R s m args below meth c D cI cO z nL Q cs sl sh M n (a0 :: a1 :: a2 :: a3 :: a4 :: a5 :: a6 :: a7 :: a8 :: some (.ref x) :: r) st) : G p l e R s m args below meth c D cI cO z nL Q cs sl sh M pc (a0 :: a1 :: a2 :: a3 :: a4 :: a5 :: a6 :: a7 :: a8 :: o :: r) (.ref x :: st) := by
  subst hn
  intro H locs ls hP hS hl
  exact lv_astore C.1 C.2.1 hd hl.has (by rw [← hl.2.2.1]; simp; try omega) rfl (fun ls' h' => k H locs ls' hP hS (hl.set rfl h'))
theorem g_iinc9 (C : Cx p s m args meth c D cI cO z tP aK aV own nm cc nL rt) {a0 a1 a2 a3 a4 a5 a6 a7 a8 : Option Value} {r : List (Option Value)} {x v : Int32} {d : Int} (hv : x + Int32.ofInt d = v) (hd : decode cc pc = .ok (.iinc 9 d, 3)) (hn : pc + 3 = n) (k : G p l e R s m args below meth c D cI cO z nL Q cs sl sh M n (a0 :: a1 :: a2 :: a3 :: a4 :: a5 :: a6 :: a7 :: a8 :: some (.int v) :: r) st) : G p l e R s m args below meth c D cI cO z nL Q cs sl sh M pc (a0 :: a1 :: a2 :: a3 :: a4 :: a5 :: a6 :: a7 :: a8 :: some (.int x) :: r) st := by
  subst hn
  intro H locs ls hP hS hl
  have hm : (9, Value.int x) ∈ prs (a0 :: a1 :: a2 :: a3 :: a4 :: a5 :: a6 :: a7 :: a8 :: some (.int x) :: r) := mem_prs.mpr rfl
  obtain ⟨k0, hk0⟩ := List.getElem?_of_mem hm
  exact lv_iinc C.1 C.2.1 hd hl.has hk0 hv (by rw [← hl.2.2.1]; simp; try omega) rfl (fun ls' h' => k H locs ls' hP hS (hl.set rfl h'))
theorem g_iload10 (C : Cx p s m args meth c D cI cO z tP aK aV own nm cc nL rt) {a0 a1 a2 a3 a4 a5 a6 a7 a8 a9 : Option Value} {r : List (Option Value)} {x : Int32} (hd : decode cc pc = .ok (.iload 10, 2)) (hn : pc + 2 = n) (k : G p l e R s m args below meth c D cI cO z nL Q cs sl sh M n (a0 :: a1 :: a2 :: a3 :: a4 :: a5 :: a6 :: a7 :: a8 :: a9 :: some (.int x) :: r) (.int x :: st)) : G p l e R s m args below meth c D cI cO z nL Q cs sl sh M pc (a0 :: a1 :: a2 :: a3 :: a4 :: a5 :: a6 :: a7 :: a8 :: a9 :: some (.int x) :: r) st := by
  subst hn
  intro H locs ls hP hS hl
  exact lv_iload C.1 C.2.1 hd (hl.at (i := 10) rfl) (k H locs ls hP hS hl)
theorem g_istore10 (C : Cx p s m args meth c D cI cO z tP aK aV own nm cc nL rt) {a0 a1 a2 a3 a4 a5 a6 a7 a8 a9 : Option Value} {r : List (Option Value)} {o : Option Value} {x : Int32} (hd : decode cc pc = .ok (.istore 10, 2)) (hn : pc + 2 = n) (k : G p l e R s m args below meth c D cI cO z nL Q cs sl sh M n (a0 :: a1 :: a2 :: a3 :: a4 :: a5 :: a6 :: a7 :: a8 :: a9 :: some (.int x) :: r) st) : G p l e R s m args below meth c D cI cO z nL Q cs sl sh M pc (a0 :: a1 :: a2 :: a3 :: a4 :: a5 :: a6 :: a7 :: a8 :: a9 :: o :: r) (.int x :: st) := by
  subst hn
  intro H locs ls hP hS hl
  exact lv_istore C.1 C.2.1 hd hl.has (by rw [← hl.2.2.1]; simp; try omega) rfl (fun ls' h' => k H locs ls' hP hS (hl.set rfl h'))
theorem g_aload10 (C : Cx p s m args meth c D cI cO z tP aK aV own nm cc nL rt) {a0 a1 a2 a3 a4 a5 a6 a7 a8 a9 : Option Value} {r : List (Option Value)} {x : Nat} (hd : decode cc pc = .ok (.aload 10, 2)) (hn : pc + 2 = n) (k : G p l e R s m args below meth c D cI cO z nL Q cs sl sh M n (a0 :: a1 :: a2 :: a3 :: a4 :: a5 :: a6 :: a7 :: a8 :: a9 :: some (.ref x) :: r) (.ref x :: st)) : G p l e R s m args below meth c D cI cO z nL Q cs sl sh M pc (a0 :: a1 :: a2 :: a3 :: a4 :: a5 :: a6 :: a7 :: a8 :: a9 :: some (.ref x) :: r) st := by
  subst hn
  intro H locs ls hP hS hl
  exact lv_aload C.1 C.2.1 hd (hl.at (i := 10) rfl) (k H locs ls hP hS hl)
theorem g_astore10 (C : Cx p s m args meth c D cI cO z tP aK aV own nm cc nL rt) {a0 a1 a2 a3 a4 a5 a6 a7 a8 a9 : Option Value} {r : List (Option Value)} {o : Option Value} {x : Nat} (hd : decode cc pc = .ok (.astore 10, 2)) (hn : pc + 2 = n) (k : G p l e R s m args below meth c D cI cO z nL Q cs sl sh M n (a0 :: a1 :: a2 :: a3 :: a4 :: a5 :: a6 :: a7 :: a8 :: a9 :: some (.ref x) :: r) st) : G p l e R s m args below meth c D cI cO z nL Q cs sl sh M pc (a0 :: a1 :: a2 :: a3 :: a4 :: a5 :: a6 :: a7 :: a8 :: a9 :: o :: r) (.ref x :: st) := by
  subst hn
  intro H locs ls hP hS hl
  exact lv_astore C.1 C.2.1 hd hl.has (by rw [← hl.2.2.1]; simp; try omega) rfl (fun ls' h' => k H locs ls' hP hS (hl.set rfl h'))
theorem g_iinc10 (C : Cx p s m args meth c D cI cO z tP aK aV own nm cc nL rt) {a0 a1 a2 a3 a4 a5 a6 a7 a8 a9 : Option Value} {r : List (Option Value)} {x v : Int32} {d : Int} (hv : x + Int32.ofInt d = v) (hd : decode cc pc = .ok (.iinc 10 d, 3)) (hn : pc + 3 = n) (k : G p l e R s m args below meth c D cI cO z nL Q cs sl sh M n (a0 :: a1 :: a2 :: a3 :: a4 :: a5 :: a6 :: a7 :: a8 :: a9 :: some (.int v) :: r) st) : G p l e R s m args below meth c D cI cO z nL Q cs sl sh M pc (a0 :: a1 :: a2 :: a3 :: a4 :: a5 :: a6 :: a7 :: a8 :: a9 :: some (.int x) :: r) st := by
  subst hn
  intro H locs ls hP hS hl
  have hm : (10, Value.int x) ∈ prs (a0 :: a1 :: a2 :: a3 :: a4 :: a5 :: a6 :: a7 :: a8 :: a9 :: some (.int x) :: r) := mem_prs.mpr rfl
  obtain ⟨k0, hk0⟩ := List.getElem?_of_mem hm
  exact lv_iinc C.1 C.2.1 hd hl.has hk0 hv (by rw [← hl.2.2.1]; simp; try omega) rfl (fun ls' h' => k H locs ls' hP hS (hl.set rfl h'))
theorem g_if_eq (C : Cx p s m args meth c D cI cO z tP aK aV own nm cc nL rt) {x : Int32} {off : Int} {t : Nat} (hd : decode cc pc = .ok (.ifCond .eq off, 3)) (ht : (pc : Int) + off = (t : Int)) (hn : pc + 3 = n) (kt : x = 0 → G p l e R s m args below meth c D cI cO z nL Q cs sl sh M t lv st) (kf : ¬ x = 0 → G p l e R s m args below meth c D cI cO z nL Q cs sl sh M n lv st) : G p l e R s m args below meth c D cI cO z nL Q cs sl sh M pc lv (.int x :: st) := by
  subst hn
  intro H locs ls hP hS hl
  exact lv_if_eq C.1 C.2.1 hd ht (fun h => kt h H locs ls hP hS hl) (fun h => kf h H locs ls hP hS hl)
theorem g_if_ne (C : Cx p s m args meth c D cI cO z tP aK aV own nm cc nL rt) {x : Int32} {off : Int} {t : Nat} (hd : decode cc pc = .ok (.ifCond .ne off, 3)) (ht : (pc : Int) + off = (t : Int)) (hn : pc + 3 = n) (kt : ¬ x = 0 → G p l e R s m args below meth c D cI cO z nL Q cs sl sh M t lv st) (kf : x = 0 → G p l e R s m args below meth c D cI cO z nL Q cs sl sh M n lv st) : G p l e R s m args below meth c D cI cO z nL Q cs sl sh M pc lv (.int x :: st) := by
  subst hn
  intro H locs ls hP hS hl
  exact lv_if_ne C.1 C.2.1 hd ht (fun h => kt h H locs ls hP hS hl) (fun h => kf h H locs ls hP hS hl)
theorem g_if_lt (C : Cx p s m args meth c D cI cO z tP aK aV own nm cc nL rt) {x : Int32} {off : Int} {t : Nat} (hd : decode cc pc = .ok (.ifCond .lt off, 3)) (ht : (pc : Int) + off = (t : Int)) (hn : pc + 3 = n) (kt : x < 0 → G p l e R s m args below meth c D cI cO z nL Q cs sl sh M t lv st) (kf : ¬ x < 0 → G p l e R s m args below meth c D cI cO z nL Q cs sl sh M n lv st) : G p l e R s m args below meth c D cI cO z nL Q cs sl sh M pc lv (.int x :: st) := by
  subst hn
  intro H locs ls hP hS hl
  exact lv_if_lt C.1 C.2.1 hd ht (fun h => kt h H locs ls hP hS hl) (fun h => kf h H locs ls hP hS hl)
theorem g_if_ge (C : Cx p s m args meth c D cI cO z tP aK aV own nm cc nL rt) {x : Int32} {off : Int} {t : Nat} (hd : decode cc pc = .ok (.ifCond .ge off, 3)) (ht : (pc : Int) + off = (t : Int)) (hn : pc + 3 = n) (kt : ¬ x < 0 → G p l e R s m args below meth c D cI cO z nL Q cs sl sh M t lv st) (kf : x < 0 → G p l e R s m args below meth c D cI cO z nL Q cs sl sh M n lv st) : G p l e R s m args below meth c D cI cO z nL Q cs sl sh M pc lv (.int x :: st) := by
  subst hn
  intro H locs ls hP hS hl
  exact lv_if_ge C.1 C.2.1 hd ht (fun h => kt (Int32.not_lt.mpr h) H locs ls hP hS hl) (fun h => kf (Int32.not_le.mp h) H locs ls hP hS hl)
theorem g_if_gt (C : Cx p s m args meth c D cI cO z tP aK aV own nm cc nL rt) {x : Int32} {off : Int} {t : Nat} (hd : decode cc pc = .ok (.ifCond .gt off, 3)) (ht : (pc : Int) + off = (t : Int)) (hn : pc + 3 = n) (kt : 0 < x → G p l e R s m args below meth c D cI cO z nL Q cs sl sh M t lv st) (kf : ¬ 0 < x → G p l e R s m args below meth c D cI cO z nL Q cs sl sh M n lv st) : G p l e R s m args below meth c D cI cO z nL Q cs sl sh M pc lv (.int x :: st) := by
  subst hn
  intro H locs ls hP hS hl
  exact lv_if_gt C.1 C.2.1 hd ht (fun h => kt h H locs ls hP hS hl) (fun h => kf h H locs ls hP hS hl)
theorem g_if_le (C : Cx p s m args meth c D cI cO z tP aK aV own nm cc nL rt) {x : Int32} {off : Int} {t : Nat} (hd : decode cc pc = .ok (.ifCond .le off, 3)) (ht : (pc : Int) + off = (t : Int)) (hn : pc + 3 = n) (kt : ¬ 0 < x → G p l e R s m args below meth c D cI cO z nL Q cs sl sh M t lv st) (kf : 0 < x → G p l e R s m args below meth c D cI cO z nL Q cs sl sh M n lv st) : G p l e R s m args below meth c D cI cO z nL Q cs sl sh M pc lv (.int x :: st) := by
  subst hn
  intro H locs ls hP hS hl
  exact lv_if_le C.1 C.2.1 hd ht (fun h => kt (Int32.not_lt.mpr h) H locs ls hP hS hl) (fun h => kf (Int32.not_le.mp h) H locs ls hP hS hl)
theorem g_icmp_eq (C : Cx p s m args meth c D cI cO z tP aK aV own nm cc nL rt) {x y : Int32} {off : Int} {t : Nat} (hd : decode cc pc = .ok (.if_icmp .eq off, 3)) (ht : (pc : Int) + off = (t : Int)) (hn : pc + 3 = n) (kt : x = y → G p l e R s m args below meth c D cI cO z nL Q cs sl sh M t lv st) (kf : ¬ x = y → G p l e R s m args below meth c D cI cO z nL Q cs sl sh M n lv st) : G p l e R s m args below meth c D cI cO z nL Q cs sl sh M pc lv (.int y :: .int x :: st) := by
  subst hn
  intro H locs ls hP hS hl
  exact lv_icmp_eq C.1 C.2.1 hd ht (fun h => kt h H locs ls hP hS hl) (fun h => kf h H locs ls hP hS hl)
theorem g_icmp_ne (C : Cx p s m args meth c D cI cO z tP aK aV own nm cc nL rt) {x y : Int32} {off : Int} {t : Nat} (hd : decode cc pc = .ok (.if_icmp .ne off, 3)) (ht : (pc : Int) + off = (t : Int)) (hn : pc + 3 = n) (kt : ¬ x = y → G p l e R s m args below meth c D cI cO z nL Q cs sl sh M t lv st) (kf : x = y → G p l e R s m args below meth c D cI cO z nL Q cs sl sh M n lv st) : G p l e R s m args below meth c D cI cO z nL Q cs sl sh M pc lv (.int y :: .int x :: st) := by
  subst hn
  intro H locs ls hP hS hl
  exact lv_icmp_ne C.1 C.2.1 hd ht (fun h => kt h H locs ls hP hS hl) (fun h => kf h H locs ls hP hS hl)
theorem g_icmp_lt (C : Cx p s m args meth c D cI cO z tP aK aV own nm cc nL rt) {x y : Int32} {off : Int} {t : Nat} (hd : decode cc pc = .ok (.if_icmp .lt off, 3)) (ht : (pc : Int) + off = (t : Int)) (hn : pc + 3 = n) (kt : x < y → G p l e R s m args below meth c D cI cO z nL Q cs sl sh M t lv st) (kf : ¬ x < y → G p l e R s m args below meth c D cI cO z nL Q cs sl sh M n lv st) : G p l e R s m args below meth c D cI cO z nL Q cs sl sh M pc lv (.int y :: .int x :: st) := by
  subst hn
  intro H locs ls hP hS hl
  exact lv_icmp_lt C.1 C.2.1 hd ht (fun h => kt h H locs ls hP hS hl) (fun h => kf h H locs ls hP hS hl)
theorem g_icmp_ge (C : Cx p s m args meth c D cI cO z tP aK aV own nm cc nL rt) {x y : Int32} {off : Int} {t : Nat} (hd : decode cc pc = .ok (.if_icmp .ge off, 3)) (ht : (pc : Int) + off = (t : Int)) (hn : pc + 3 = n) (kt : ¬ x < y → G p l e R s m args below meth c D cI cO z nL Q cs sl sh M t lv st) (kf : x < y → G p l e R s m args below meth c D cI cO z nL Q cs sl sh M n lv st) : G p l e R s m args below meth c D cI cO z nL Q cs sl sh M pc lv (.int y :: .int x :: st) := by
  subst hn
  intro H locs ls hP hS hl
  exact lv_icmp_ge C.1 C.2.1 hd ht (fun h => kt (Int32.not_lt.mpr h) H locs ls hP hS hl) (fun h => kf (Int32.not_le.mp h) H locs ls hP hS hl)
theorem g_icmp_gt (C : Cx p s m args meth c D cI cO z tP aK aV own nm cc nL rt) {x y : Int32} {off : Int} {t : Nat} (hd : decode cc pc = .ok (.if_icmp .gt off, 3)) (ht : (pc : Int) + off = (t : Int)) (hn : pc + 3 = n) (kt : y < x → G p l e R s m args below meth c D cI cO z nL Q cs sl sh M t lv st) (kf : ¬ y < x → G p l e R s m args below meth c D cI cO z nL Q cs sl sh M n lv st) : G p l e R s m args below meth c D cI cO z nL Q cs sl sh M pc lv (.int y :: .int x :: st) := by
  subst hn
  intro H locs ls hP hS hl
  exact lv_icmp_gt C.1 C.2.1 hd ht (fun h => kt h H locs ls hP hS hl) (fun h => kf h H locs ls hP hS hl)
theorem g_icmp_le (C : Cx p s m args meth c D cI cO z tP aK aV own nm cc nL rt) {x y : Int32} {off : Int} {t : Nat} (hd : decode cc pc = .ok (.if_icmp .le off, 3)) (ht : (pc : Int) + off = (t : Int)) (hn : pc + 3 = n) (kt : ¬ y < x → G p l e R s m args below meth c D cI cO z nL Q cs sl sh M t lv st) (kf : y < x → G p l e R s m args below meth c D cI cO z nL Q cs sl sh M n lv st) : G p l e R s m args below meth c D cI cO z nL Q cs sl sh M pc lv (.int y :: .int x :: st) := by
  subst hn
  intro H locs ls hP hS hl
  exact lv_icmp_le C.1 C.2.1 hd ht (fun h => kt (Int32.not_lt.mpr h) H locs ls hP hS hl) (fun h => kf (Int32.not_le.mp h) H locs ls hP hS hl)
theorem g_goto (C : Cx p s m args meth c D cI cO z tP aK aV own nm cc nL rt) {off : Int} {t : Nat} (hd : decode cc pc = .ok (.goto off, 3)) (ht : (pc : Int) + off = (t : Int)) (k : G p l e R s m args below meth c D cI cO z nL Q cs sl sh M t lv st) : G p l e R s m args below meth c D cI cO z nL Q cs sl sh M pc lv st := by
  intro H locs ls hP hS hl
  exact lv_goto C.1 C.2.1 hd ht (k H locs ls hP hS hl)
theorem g_ifnull (C : Cx p s m args meth c D cI cO z tP aK aV own nm cc nL rt) {x : Nat} {off : Int} (hd : decode cc pc = .ok (.ifnull off, 3)) (hn : pc + 3 = n) (k : G p l e R s m args below meth c D cI cO z nL Q cs sl sh M n lv st) : G p l e R s m args below meth c D cI cO z nL Q cs sl sh M pc lv (.ref x :: st) := by
  subst hn
  intro H locs ls hP hS hl
  exact lv_ifnull C.1 C.2.1 hd (k H locs ls hP hS hl)
theorem g_tblIn (C : Cx p s m args meth c D cI cO z tP aK aV own nm cc nL rt) {dflt lo hi : Int} {offs : Array Int} {len : Nat} {x : Int32} {off : Int} {t : Nat} (hd : decode cc pc = .ok (.tableswitch dflt lo hi offs, len)) (h1 : ¬ x.toInt < lo) (h2 : ¬ hi < x.toInt) (ho : offs[(x.toInt - lo).toNat]? = some off) (ht : (pc : Int) + off = (t : Int)) (k : G p l e R s m args below meth c D cI cO z nL Q cs sl sh M t lv st) : G p l e R s m args below meth c D cI cO z nL Q cs sl sh M pc lv (.int x :: st) := by
  intro H locs ls hP hS hl
  exact lv_tableIn C.1 C.2.1 hd h1 h2 ho ht (k H locs ls hP hS hl)
theorem g_tblOut (C : Cx p s m args meth c D cI cO z tP aK aV own nm cc nL rt) {dflt lo hi : Int} {offs : Array Int} {len : Nat} {x : Int32} {t : Nat} (hd : decode cc pc = .ok (.tableswitch dflt lo hi offs, len)) (h : x.toInt < lo ∨ hi < x.toInt) (ht : (pc : Int) + dflt = (t : Int)) (k : G p l e R s m args below meth c D cI cO z nL Q cs sl sh M t lv st) : G p l e R s m args below meth c D cI cO z nL Q cs sl sh M pc lv (.int x :: st) := by
  intro H locs ls hP hS hl
  exact lv_tableOut C.1 C.2.1 hd h ht (k H locs ls hP hS hl)
theorem g_iret {x : Int32} (C : Cx p s m args meth c D cI cO z tP aK aV own nm cc nL (some .int)) {Post : Option Value → Shp → Mem → Prop}  (hd : decode cc pc = .ok (.ireturn, 1)) (hp : Post (some (.int x)) sh M) : G p l e R s m args below meth c D cI cO z nL (MQ below (QP D cI cO z Post) args s cs sl (AA z)) cs sl sh M pc lv [.int x] := by
  intro H locs ls hP hS hl
  exact W.iret C.1 C.2.1 C.2.2.2.2.2.2.1 (fun t ht hW => ⟨_, sh, M, rfl, hp, by rw [ht]; exact hP, hS.F ht⟩) hS.2.2 hd C.2.2.2.2.2.2.2.1
theorem g_zret {x : Int32} {ty : FieldType} (C : Cx p s m args meth c D cI cO z tP aK aV own nm cc nL (some ty)) {Post : Option Value → Shp → Mem → Prop} (hnr : narrow ty (.int x) = .int x) (hd : decode cc pc = .ok (.ireturn, 1)) (hp : Post (some (.int x)) sh M) : G p l e R s m args below meth c D cI cO z nL (MQ below (QP D cI cO z Post) args s cs sl (AA z)) cs sl sh M pc lv [.int x] := by
  intro H locs ls hP hS hl
  exact W.zret C.1 C.2.1 C.2.2.2.2.2.2.1 hnr (fun t ht hW => ⟨_, sh, M, rfl, hp, by rw [ht]; exact hP, hS.F ht⟩) hS.2.2 hd C.2.2.2.2.2.2.2.1
theorem g_vret  (C : Cx p s m args meth c D cI cO z tP aK aV own nm cc nL none) {Post : Option Value → Shp → Mem → Prop}  (hd : decode cc pc = .ok (.return_, 1)) (hp : Post none sh M) : G p l e R s m args below meth c D cI cO z nL (MQ below (QP D cI cO z Post) args s cs sl (AA z)) cs sl sh M pc lv [] := by
  intro H locs ls hP hS hl
  exact W.vret C.1 C.2.1 C.2.2.2.2.2.2.1 (fun t ht hW => ⟨_, sh, M, rfl, hp, by rw [ht]; exact hP, hS.F ht⟩) hS.2.2 hd C.2.2.2.2.2.2.2.1
theorem g_aret {x : Nat} {o : String} (C : Cx p s m args meth c D cI cO z tP aK aV own nm cc nL (some (.object o))) {Post : Option Value → Shp → Mem → Prop}  (hd : decode cc pc = .ok (.areturn, 1)) (hp : Post (some (.ref x)) sh M) : G p l e R s m args below meth c D cI cO z nL (MQ below (QP D cI cO z Post) args s cs sl (AA z)) cs sl sh M pc lv [.ref x] := by
  intro H locs ls hP hS hl
  exact W.aret C.1 C.2.1 C.2.2.2.2.2.2.1 (Or.inl ⟨_, rfl⟩) (Or.inr ⟨_, rfl⟩) (fun t ht hW => ⟨_, sh, M, rfl, hp, by rw [ht]; exact hP, hS.F ht⟩) hS.2.2 hd C.2.2.2.2.2.2.2.1
theorem g_aretN {o : String} (C : Cx p s m args meth c D cI cO z tP aK aV own nm cc nL (some (.object o))) {Post : Option Value → Shp → Mem → Prop}  (hd : decode cc pc = .ok (.areturn, 1)) (hp : Post (some .null) sh M) : G p l e R s m args below meth c D cI cO z nL (MQ below (QP D cI cO z Post) args s cs sl (AA z)) cs sl sh M pc lv [.null] := by
  intro H locs ls hP hS hl
  exact W.aret C.1 C.2.1 C.2.2.2.2.2.2.1 (Or.inl ⟨_, rfl⟩) (Or.inl rfl) (fun t ht hW => ⟨_, sh, M, rfl, hp, by rw [ht]; exact hP, hS.F ht⟩) hS.2.2 hd C.2.2.2.2.2.2.2.1
end GR
section GF
variable {p : Program} {l : Launch} {e : Env} {R : Room} {s : State} {m : MethodId} {args : Array Value} {below : List Frame} {meth : Method} {c : Code} {D : va_G} {cI cO : ClassId} {z tP : Nat} {aK aV : Nat → Nat} {own nm : String} {cc : ByteArray} {nL : Nat} {rt : Option FieldType} {Q : State → Prop} {cs sl : Nat} {sh : Shp} {M : Mem} {pc n : Nat} {lv : List (Option Value)} {st : List Value}
theorem g_getI (C : Cx p s m args meth c D cI cO z tP aK aV own nm cc nL rt) {Cn : String} {T : u_T} {N ci idx k j : Nat} {sx : List (Option (Option Nat))} (hin : ∀ w ∈ u_ws Cn T N, w ∈ gtbl) (hc : vwCl[ci]? = some (Cn, T, N)) (hown : (T j).1 = Cn) (hj : j < N) (hlink : Cond.fieldLink own idx Cn (T j).2.1 (T j).2.2.1 ∈ gtbl) (hob : sh[k]? = some (.inr (.inr (ci, sx)))) (hsl : sx[j]? = some none) (hd : decode cc pc = .ok (.getfield idx, 3)) (hn : pc + 3 = n) (kk : G p l e R s m args below meth c D cI cO z nL Q cs sl sh M n lv (.int (M k j) :: st)) : G p l e R s m args below meth c D cI cO z nL Q cs sl sh M pc lv (.ref (z + k) :: st) := by
  subst hn
  intro H locs ls hP hS hl
  exact va_get C.1 C.2.1 C.2.2.2.2.1 hin C.2.2.2.1 C.2.2.2.2.2.1.1 hP k (wl_get hob) hc j hj (C.2.2.2.2.1 _ hlink) (fun _ h9 => hown ▸ h9) (v := .int (M k j)) (by rw [List.getElem?_mapIdx, hsl]; rfl) hd (kk H locs ls hP hS hl)
theorem g_getR (C : Cx p s m args meth c D cI cO z tP aK aV own nm cc nL rt) {Cn : String} {T : u_T} {N ci idx k j : Nat} {sx : List (Option (Option Nat))} (hin : ∀ w ∈ u_ws Cn T N, w ∈ gtbl) (hc : vwCl[ci]? = some (Cn, T, N)) (hown : (T j).1 = Cn) (hj : j < N) (hlink : Cond.fieldLink own idx Cn (T j).2.1 (T j).2.2.1 ∈ gtbl) (hob : sh[k]? = some (.inr (.inr (ci, sx)))) {r : Nat} (hsl : sx[j]? = some (some (some r))) (hd : decode cc pc = .ok (.getfield idx, 3)) (hn : pc + 3 = n) (kk : G p l e R s m args below meth c D cI cO z nL Q cs sl sh M n lv (.ref (z + r) :: st)) : G p l e R s m args below meth c D cI cO z nL Q cs sl sh M pc lv (.ref (z + k) :: st) := by
  subst hn
  intro H locs ls hP hS hl
  exact va_get C.1 C.2.1 C.2.2.2.2.1 hin C.2.2.2.1 C.2.2.2.2.2.1.1 hP k (wl_get hob) hc j hj (C.2.2.2.2.1 _ hlink) (fun _ h9 => hown ▸ h9) (v := .ref (z + r)) (by rw [List.getElem?_mapIdx, hsl]; rfl) hd (kk H locs ls hP hS hl)
theorem g_putI (C : Cx p s m args meth c D cI cO z tP aK aV own nm cc nL rt) {Cn : String} {T : u_T} {N ci idx k j : Nat} {sx : List (Option (Option Nat))} (hin : ∀ w ∈ u_ws Cn T N, w ∈ gtbl) (hc : vwCl[ci]? = some (Cn, T, N)) (hown : (T j).1 = Cn) (hj : j < N) (ty0 : Nat → FieldType) (hty : ∀ k, k < N → parseFieldDescriptor (T k).2.2.1 = some (ty0 k)) (hnm : ∀ a, a < N → ∀ b, b < N → a ≠ b → (T a).2.1 ≠ (T b).2.1) (hlink : Cond.fieldLink own idx Cn (T j).2.1 (T j).2.2.1 ∈ gtbl) (hfin : (T j).2.2.2 = false) {v : Int32} {ty : FieldType} (hde : parseFieldDescriptor (T j).2.2.1 = some ty) (hnr : narrow ty (.int v) = .int v) (hft : fits ty (.int v) = true) (hob : sh[k]? = some (.inr (.inr (ci, sx)))) (hsl : sx[j]? = some none) (hd : decode cc pc = .ok (.putfield idx, 3)) (hn : pc + 3 = n) (kk : ∀ M1, M1 = up2 M k j v → G p l e R s m args below meth c D cI cO z nL Q cs sl sh M1 n lv st) : G p l e R s m args below meth c D cI cO z nL Q cs sl sh M pc lv (.int v :: .ref (z + k) :: st) := by
  subst hn
  intro H locs ls hP hS hl
  have hjl : j < sx.length := (List.getElem?_eq_some_iff.mp hsl).1
  refine va_put C.1 C.2.1 C.2.2.2.2.1 hin ty0 hty hnm C.2.2.2.1 C.2.2.2.2.2.1.1 hP wl_D hS k (wl_get hob) hc j hj (C.2.2.2.2.1 _ hlink) (fun _ h9 => hown ▸ h9) hfin hde hnr hft (by simpa using hjl) hd (fun H1 locs1 hP1 _ hS1 => ?_)
  refine kk (up2 M k j v) rfl H1 locs1 ls ?_ hS1 hl
  rw [← wl_set (M := M) hob (fun a ha => up2_ne M v ha)]
  have e : cel cI cO z (up2 M k j v) k (.inr (.inr (ci, sx))) = .inr (ci, (sx.mapIdx (fun j x => slv z (M k) j x)).set j (.int v)) := by
    show Sum.inr (ci, _) = Sum.inr (ci, _)
    congr 2
    apply List.ext_getElem?
    intro i
    by_cases hi : i = j
    · subst hi
      rw [List.getElem?_set_self (by simpa using hjl), List.getElem?_mapIdx, hsl]
      simp [slv, up2]
    · rw [List.getElem?_set_ne (Ne.symm hi), List.getElem?_mapIdx, List.getElem?_mapIdx]
      cases sx[i]? with
      | none => rfl
      | some x => cases x with
        | none => simp [slv, up2, hi]
        | some x => cases x <;> rfl
  rw [e]
  exact hP1
theorem g_getIN (C : Cx p s m args meth c D cI cO z tP aK aV own nm cc nL rt) {Cn : String} {T : u_T} {N ci idx k j : Nat} {sx : List (Option (Option Nat))} (hin : ∀ w ∈ u_ws Cn T N, w ∈ gtbl) (hc : vwCl[ci]? = some (Cn, T, N)) (hown : (T j).1 = Cn) (hj : j < N) {host : String} (hlink : Cond.fieldLinkNest own idx Cn (T j).2.1 (T j).2.2.1 host ∈ ntbl) (hob : sh[k]? = some (.inr (.inr (ci, sx)))) (hsl : sx[j]? = some none) (hd : decode cc pc = .ok (.getfield idx, 3)) (hn : pc + 3 = n) (kk : G p l e R s m args below meth c D cI cO z nL Q cs sl sh M n lv (.int (M k j) :: st)) : G p l e R s m args below meth c D cI cO z nL Q cs sl sh M pc lv (.ref (z + k) :: st) := by
  subst hn
  intro H locs ls hP hS hl
  exact va_getN C.1 C.2.1 C.2.2.2.2.1 hin C.2.2.2.1 C.2.2.2.2.2.1.1 hP k (wl_get hob) hc j hj (va_Nw.use rfl (C.2.2.2.2.2.1.2.1 _ hlink)) (fun _ h9 => hown ▸ h9) (v := .int (M k j)) (by rw [List.getElem?_mapIdx, hsl]; rfl) hd (kk H locs ls hP hS hl)
theorem g_getRN (C : Cx p s m args meth c D cI cO z tP aK aV own nm cc nL rt) {Cn : String} {T : u_T} {N ci idx k j : Nat} {sx : List (Option (Option Nat))} (hin : ∀ w ∈ u_ws Cn T N, w ∈ gtbl) (hc : vwCl[ci]? = some (Cn, T, N)) (hown : (T j).1 = Cn) (hj : j < N) {host : String} (hlink : Cond.fieldLinkNest own idx Cn (T j).2.1 (T j).2.2.1 host ∈ ntbl) (hob : sh[k]? = some (.inr (.inr (ci, sx)))) {r : Nat} (hsl : sx[j]? = some (some (some r))) (hd : decode cc pc = .ok (.getfield idx, 3)) (hn : pc + 3 = n) (kk : G p l e R s m args below meth c D cI cO z nL Q cs sl sh M n lv (.ref (z + r) :: st)) : G p l e R s m args below meth c D cI cO z nL Q cs sl sh M pc lv (.ref (z + k) :: st) := by
  subst hn
  intro H locs ls hP hS hl
  exact va_getN C.1 C.2.1 C.2.2.2.2.1 hin C.2.2.2.1 C.2.2.2.2.2.1.1 hP k (wl_get hob) hc j hj (va_Nw.use rfl (C.2.2.2.2.2.1.2.1 _ hlink)) (fun _ h9 => hown ▸ h9) (v := .ref (z + r)) (by rw [List.getElem?_mapIdx, hsl]; rfl) hd (kk H locs ls hP hS hl)
theorem g_putIN (C : Cx p s m args meth c D cI cO z tP aK aV own nm cc nL rt) {Cn : String} {T : u_T} {N ci idx k j : Nat} {sx : List (Option (Option Nat))} (hin : ∀ w ∈ u_ws Cn T N, w ∈ gtbl) (hc : vwCl[ci]? = some (Cn, T, N)) (hown : (T j).1 = Cn) (hj : j < N) (ty0 : Nat → FieldType) (hty : ∀ k, k < N → parseFieldDescriptor (T k).2.2.1 = some (ty0 k)) (hnm : ∀ a, a < N → ∀ b, b < N → a ≠ b → (T a).2.1 ≠ (T b).2.1) {host : String} (hlink : Cond.fieldLinkNest own idx Cn (T j).2.1 (T j).2.2.1 host ∈ ntbl) (hfin : (T j).2.2.2 = false) {v : Int32} {ty : FieldType} (hde : parseFieldDescriptor (T j).2.2.1 = some ty) (hnr : narrow ty (.int v) = .int v) (hft : fits ty (.int v) = true) (hob : sh[k]? = some (.inr (.inr (ci, sx)))) (hsl : sx[j]? = some none) (hd : decode cc pc = .ok (.putfield idx, 3)) (hn : pc + 3 = n) (kk : ∀ M1, M1 = up2 M k j v → G p l e R s m args below meth c D cI cO z nL Q cs sl sh M1 n lv st) : G p l e R s m args below meth c D cI cO z nL Q cs sl sh M pc lv (.int v :: .ref (z + k) :: st) := by
  subst hn
  intro H locs ls hP hS hl
  have hjl : j < sx.length := (List.getElem?_eq_some_iff.mp hsl).1
  refine va_putN C.1 C.2.1 C.2.2.2.2.1 hin ty0 hty hnm C.2.2.2.1 C.2.2.2.2.2.1.1 hP wl_D hS k (wl_get hob) hc j hj (va_Nw.use rfl (C.2.2.2.2.2.1.2.1 _ hlink)) (fun _ h9 => hown ▸ h9) hfin hde hnr hft (by simpa using hjl) hd (fun H1 locs1 hP1 _ hS1 => ?_)
  refine kk (up2 M k j v) rfl H1 locs1 ls ?_ hS1 hl
  rw [← wl_set (M := M) hob (fun a ha => up2_ne M v ha)]
  have e : cel cI cO z (up2 M k j v) k (.inr (.inr (ci, sx))) = .inr (ci, (sx.mapIdx (fun j x => slv z (M k) j x)).set j (.int v)) := by
    show Sum.inr (ci, _) = Sum.inr (ci, _)
    congr 2
    apply List.ext_getElem?
    intro i
    by_cases hi : i = j
    · subst hi
      rw [List.getElem?_set_self (by simpa using hjl), List.getElem?_mapIdx, hsl]
      simp [slv, up2]
    · rw [List.getElem?_set_ne (Ne.symm hi), List.getElem?_mapIdx, List.getElem?_mapIdx]
      cases sx[i]? with
      | none => rfl
      | some x => cases x with
        | none => simp [slv, up2, hi]
        | some x => cases x <;> rfl
  rw [e]
  exact hP1
end GF
section GA
variable {p : Program} {l : Launch} {e : Env} {R : Room} {s : State} {m : MethodId} {args : Array Value} {below : List Frame} {meth : Method} {c : Code} {D : va_G} {cI cO : ClassId} {z tP : Nat} {aK aV : Nat → Nat} {own nm : String} {cc : ByteArray} {nL : Nat} {rt : Option FieldType} {Q : State → Prop} {cs sl : Nat} {sh : Shp} {M : Mem} {pc n : Nat} {lv : List (Option Value)} {st : List Value}
theorem g_iald (C : Cx p s m args meth c D cI cO z tP aK aV own nm cc nL rt) {k j N : Nat} {i : Int32} (hob : sh[k]? = some (.inl N)) (hN : N < 2 ^ 31) (hi : i = nI j) (hj : j < N) (hd : decode cc pc = .ok (.iaload, 1)) (hn : pc + 1 = n) (kk : G p l e R s m args below meth c D cI cO z nL Q cs sl sh M n lv (.int (M k j) :: st)) : G p l e R s m args below meth c D cI cO z nL Q cs sl sh M pc lv (.int i :: .ref (z + k) :: st) := by
  subst hn; subst hi
  intro H locs ls hP hS hl
  refine va_iald C.1 C.2.1 C.2.2.2.2.2.1.1 hP k 0 (wl_get hob) rfl (vp_in_nI hj hN) hd ?_
  rw [nI_clamp (Nat.lt_trans hj hN)]
  exact kk H locs ls hP hS hl
theorem g_iast (C : Cx p s m args meth c D cI cO z tP aK aV own nm cc nL rt) {k j N : Nat} {i : Int32} {x : Int32} (hob : sh[k]? = some (.inl N)) (hN : N < 2 ^ 31) (hi : i = nI j) (hj : j < N) (hd : decode cc pc = .ok (.iastore, 1)) (hn : pc + 1 = n) (kk : ∀ M1, M1 = up2 M k j x → G p l e R s m args below meth c D cI cO z nL Q cs sl sh M1 n lv st) : G p l e R s m args below meth c D cI cO z nL Q cs sl sh M pc lv (.int x :: .int i :: .ref (z + k) :: st) := by
  subst hn; subst hi
  intro H locs ls hP hS hl
  refine va_iast C.1 C.2.1 C.2.2.2.2.2.1.1 hP wl_D hS k 0 (wl_get hob) rfl (vp_in_nI hj hN) hd (fun H1 locs1 hP1 _ hS1 => ?_)
  refine kk (up2 M k j x) rfl H1 locs1 ls ?_ hS1 hl
  rw [← wl_set (M := M) hob (fun a ha => up2_ne M x ha)]
  rw [nI_clamp (Nat.lt_trans hj hN)] at hP1
  have e : cel cI cO z (up2 M k j x) k (.inl N) = .inl (cI, N, .inl (upd (M k) j x)) := by
    show Sum.inl (cI, N, Sum.inl _) = _
    rw [up2_row]
  rw [e]
  exact hP1
theorem g_alen (C : Cx p s m args meth c D cI cO z tP aK aV own nm cc nL rt) {k N : Nat} (hob : sh[k]? = some (.inl N)) (hd : decode cc pc = .ok (.arraylength, 1)) (hn : pc + 1 = n) (kk : G p l e R s m args below meth c D cI cO z nL Q cs sl sh M n lv (.int (nI N) :: st)) : G p l e R s m args below meth c D cI cO z nL Q cs sl sh M pc lv (.ref (z + k) :: st) := by
  subst hn
  intro H locs ls hP hS hl
  exact va_alen C.1 C.2.1 C.2.2.2.2.2.1.1 hP k 0 (wl_get hob) (ty := .int) rfl rfl hd (kk H locs ls hP hS hl)
theorem g_alenR (C : Cx p s m args meth c D cI cO z tP aK aV own nm cc nL rt) {k : Nat} {rs : List (Option Nat)} (hob : sh[k]? = some (.inr (.inl rs))) (hd : decode cc pc = .ok (.arraylength, 1)) (hn : pc + 1 = n) (kk : G p l e R s m args below meth c D cI cO z nL Q cs sl sh M n lv (.int (nI rs.length) :: st)) : G p l e R s m args below meth c D cI cO z nL Q cs sl sh M pc lv (.ref (z + k) :: st) := by
  subst hn
  intro H locs ls hP hS hl
  exact va_alen C.1 C.2.1 C.2.2.2.2.2.1.1 hP k 1 (wl_get hob) (ty := .object RX5) rfl rfl hd (kk H locs ls hP hS hl)
theorem g_aald (C : Cx p s m args meth c D cI cO z tP aK aV own nm cc nL rt) {k j r : Nat} {i : Int32} {rs : List (Option Nat)} (hob : sh[k]? = some (.inr (.inl rs))) (hN : rs.length < 2 ^ 31) (hi : i = nI j) (hj : rs[j]? = some (some r)) (hd : decode cc pc = .ok (.aaload, 1)) (hn : pc + 1 = n) (kk : G p l e R s m args below meth c D cI cO z nL Q cs sl sh M n lv (.ref (z + r) :: st)) : G p l e R s m args below meth c D cI cO z nL Q cs sl sh M pc lv (.int i :: .ref (z + k) :: st) := by
  subst hn; subst hi
  intro H locs ls hP hS hl
  have hl0 : j < rs.length := (List.getElem?_eq_some_iff.mp hj).1
  refine va_aldq C.1 C.2.1 C.2.2.2.2.2.1.1 hP k 1 (wl_get hob) rfl (vp_in_nI hl0 hN) hd ?_
  rw [nI_clamp (Nat.lt_trans hl0 hN)]
  have e : va_rf ((rs.getD j none).map (fun r => z + r)) = .ref (z + r) := by
    rw [List.getD_eq_getElem?_getD, hj]; rfl
  rw [e]
  exact kk H locs ls hP hS hl
end GA
section GC
variable {p : Program} {l : Launch} {e : Env} {R : Room} {s : State} {m : MethodId} {args : Array Value} {below : List Frame} {meth : Method} {c : Code} {D : va_G} {cI cO : ClassId} {z tP : Nat} {aK aV : Nat → Nat} {own nm : String} {cc : ByteArray} {nL : Nat} {rt : Option FieldType} {Q : State → Prop} {cs sl : Nat} {sh : Shp} {M : Mem} {pc n : Nat} {lv : List (Option Value)} {st : List Value}
theorem run_G {H : Heap} {locs : List Loc} {ls : Array Slot} {mc ms : Nat} {a : Array Value} {rest st0 : List Value} {Post : Option Value → Shp → Mem → Prop} (hr : va_Run p l e R s m args below meth c H locs cs sl mc ms (F0 m pc ls st0) rest (QP D cI cO z Post a) (AA z)) (hS : va_S (AA z) s.heap H locs) (hl : lvh ls nL lv)
    (kk : ∀ (v : Option Value) (sh1 : Shp) (M1 : Mem), Post v sh1 M1 → G p l e R s m args below meth c D cI cO z nL Q (cs + mc) (sl + ms) sh1 M1 (pc + 3) lv (v.toList ++ rest)) : W p l e R s m args below meth c H locs cs sl Q (F0 m pc ls st0) := by
  intro T hT X
  obtain ⟨v, st₀, t, T', L, h0, X', hL, e1, e2, ⟨v', sh', M', hv, hp, hP, hz1, hk⟩, stp⟩ := hr T hT X
  cases hv
  rw [h0] at hz1 hk
  obtain ⟨t2, a1, b1⟩ := kk v sh' M' hp T'.heap (locs ++ L) ls (by rw [e1]; exact hP) ⟨Nat.le_trans hS.1 (by rw [e1]; exact hz1), fun q h1 h2 => by rw [e1, hk q (Nat.lt_of_lt_of_le h1 hS.1) h2]; exact hS.2.1 q h1 h2, fun q hq => by
      rcases List.mem_append.mp hq with h | h
      · exact hS.2.2 q h
      · exact hL q h⟩ hl T' rfl X'
  exact ⟨t2, stp t2 a1, b1⟩
theorem PP_blind {as : List Value} {b : Prop} : FrameBlind (va_Pc as (PP D cI cO z tP aK aV sh M b)) := fun a U g mk q => by
  obtain ⟨q0, q1, q2, q3, q4⟩ := q
  exact ⟨q0, q1.calling, q2, q3, q4⟩
theorem PP_of (C : Cx p s m args meth c D cI cO z tP aK aV own nm cc nL rt) {H : Heap} {locs : List Loc} {as : List Value} (hP : va_P D vwCl (wl cI cO z sh M) H) (hS : va_S (AA z) s.heap H locs) : ∀ U : State, U.heap = H → s.WarmedH U.vm → va_Pc as (PP D cI cO z tP aK aV sh M False) as.toArray U := fun U hU hW => ⟨rfl, Inv.moved hW (by rw [hU]; exact Inv.kept hS.2.1 C.2.2.2.2.2.1), by rw [hU]; exact hP, by rw [hU]; exact Nat.le_trans C.2.2.2.2.2.2.2.2.2 hS.1, fun h => h.elim⟩
theorem g_callV (C : Cx p s m args meth c D cI cO z tP aK aV own nm cc nL rt) {y : MethodName} {bytes : ByteArray} {maxL fr lo mc ms idx np : Nat} {ret : Option FieldType} {Post : Option Value → Shp → Mem → Prop} {rest : List Value} {As : List Value} {k ci : Nat} {sx : List (Option (Option Nat))} {T : u_T} {N : Nat} (hM : Ct l D cI cO z tP aK aV y bytes maxL ret fr lo mc ms False (.ref (z + k) :: As) sh M Post) (hcode : Cond.code y bytes maxL ret ∈ gtbl) (hl1 : Cond.methodLink own idx y ∈ gtbl) (hl2 : Cond.instanceMethod y ∈ gtbl) (hl3 : Cond.selects y.cls y y ∈ gtbl) (hl4 : Cond.initialized y.cls ∈ gtbl) (hd2 : y.cls ≠ "java/lang/invoke/MethodHandle" ∧ y.cls ≠ "java/lang/invoke/VarHandle" ∧ (parseMethodDescriptor y.desc).map (fun d => d.parameters.length) = some np) (hnp : As.length = np) (hci : vwCl[ci]? = some (y.cls, T, N)) (hob : sh[k]? = some (.inr (.inr (ci, sx)))) (hR : fr + 1 ≤ R.frames ∧ 8 + (maxL + 11) + lo ≤ R.locals) (hf : cs + mc ≤ R.cells ∧ sl + ms ≤ R.slots) (hW : (rest.map fun v => v.category).sum ≤ 8) (hst : st = As.reverse ++ .ref (z + k) :: rest) (hd : decode cc pc = .ok (.invokevirtual idx, 3)) (hn : pc + 3 = n) (kk : ∀ (v : Option Value) (sh1 : Shp) (M1 : Mem), Post v sh1 M1 → G p l e R s m args below meth c D cI cO z nL Q (cs + mc) (sl + ms) sh1 M1 n lv (v.toList ++ rest)) : G p l e R s m args below meth c D cI cO z nL Q cs sl sh M pc lv st := by
  subst hn; subst hst
  intro H locs ls hP hS hl
  have hG : GoodIn gtbl (.code y bytes maxL ret :: gtbl) := ggoodIn (c0 := .code y bytes maxL ret) hcode
  refine run_G (a := (Value.ref (z + k) :: As).toArray) (va_runV (C := y.cls) (n := np) (maxL := maxL) (bytes := bytes) (ret := ret) (index := idx) ⟨C.1, C.2.1, C.2.2.1, C.2.2.2.1, C.2.2.2.2.1⟩ hM ⟨callB_of np C.2.2.2.2.1 hG rfl rfl rfl (C.2.2.2.2.1 _ hl4) (C.2.2.2.2.1 _ hl1) hd2 hR, C.2.2.2.2.1 _ hl2, C.2.2.2.2.1 _ hl3⟩ ⟨PP_blind, va_recv C.2.2.2.2.2.1.1 hP hci (wl_get hob), PP_of C hP hS⟩ rfl hnp hl.1 rfl (lv_room hW) hd hf) hS hl kk
theorem g_callS (C : Cx p s m args meth c D cI cO z tP aK aV own nm cc nL rt) {y : MethodName} {bytes : ByteArray} {maxL fr lo mc ms idx np : Nat} {ret : Option FieldType} {Post : Option Value → Shp → Mem → Prop} {rest : List Value} {As : List Value} (hM : Ct l D cI cO z tP aK aV y bytes maxL ret fr lo mc ms False As sh M Post) (hcode : Cond.code y bytes maxL ret ∈ gtbl) (hl1 : Cond.methodLink own idx y ∈ gtbl) (hl2 : Cond.static y ∈ gtbl) (hl4 : Cond.initialized y.cls ∈ gtbl) (hd2 : y.cls ≠ "java/lang/invoke/MethodHandle" ∧ y.cls ≠ "java/lang/invoke/VarHandle" ∧ (parseMethodDescriptor y.desc).map (fun d => d.parameters.length) = some np) (hnp : As.length = np) (hR : fr + 1 ≤ R.frames ∧ 8 + (maxL + 11) + lo ≤ R.locals) (hf : cs + mc ≤ R.cells ∧ sl + ms ≤ R.slots) (hW : (rest.map fun v => v.category).sum ≤ 8) (hst : st = As.reverse ++ rest) (hd : decode cc pc = .ok (.invokestatic idx, 3)) (hn : pc + 3 = n) (kk : ∀ (v : Option Value) (sh1 : Shp) (M1 : Mem), Post v sh1 M1 → G p l e R s m args below meth c D cI cO z nL Q (cs + mc) (sl + ms) sh1 M1 n lv (v.toList ++ rest)) : G p l e R s m args below meth c D cI cO z nL Q cs sl sh M pc lv st := by
  subst hn; subst hst
  intro H locs ls hP hS hl
  have hG : GoodIn gtbl (.code y bytes maxL ret :: gtbl) := ggoodIn (c0 := .code y bytes maxL ret) hcode
  refine run_G (a := As.toArray) (va_runS (n := np) (maxL := maxL) (bytes := bytes) (ret := ret) (index := idx) ⟨C.1, C.2.1, C.2.2.1, C.2.2.2.1, C.2.2.2.2.1⟩ hM ⟨callB_of np C.2.2.2.2.1 hG rfl rfl rfl (C.2.2.2.2.1 _ hl4) (C.2.2.2.2.1 _ hl1) hd2 hR, C.2.2.2.2.1 _ hl2⟩ ⟨PP_blind, PP_of C hP hS⟩ rfl hnp hl.1 rfl (lv_room hW) hd hf) hS hl kk
theorem g_callSN (C : Cx p s m args meth c D cI cO z tP aK aV own nm cc nL rt) {y : MethodName} {bytes : ByteArray} {maxL fr lo mc ms idx np : Nat} {ret : Option FieldType} {Post : Option Value → Shp → Mem → Prop} {rest : List Value} {As : List Value} {host : String} (hM : Ct l D cI cO z tP aK aV y bytes maxL ret fr lo mc ms False As sh M Post) (hcode : Cond.code y bytes maxL ret ∈ gtbl) (hl1 : Cond.methodLinkNest own idx y host ∈ ntbl) (hl2 : Cond.static y ∈ gtbl) (hl4 : Cond.initialized y.cls ∈ gtbl) (hd2 : y.cls ≠ "java/lang/invoke/MethodHandle" ∧ y.cls ≠ "java/lang/invoke/VarHandle" ∧ (parseMethodDescriptor y.desc).map (fun d => d.parameters.length) = some np) (hnp : As.length = np) (hR : fr + 1 ≤ R.frames ∧ 8 + (maxL + 11) + lo ≤ R.locals) (hf : cs + mc ≤ R.cells ∧ sl + ms ≤ R.slots) (hW : (rest.map fun v => v.category).sum ≤ 8) (hst : st = As.reverse ++ rest) (hd : decode cc pc = .ok (.invokestatic idx, 3)) (hn : pc + 3 = n) (kk : ∀ (v : Option Value) (sh1 : Shp) (M1 : Mem), Post v sh1 M1 → G p l e R s m args below meth c D cI cO z nL Q (cs + mc) (sl + ms) sh1 M1 n lv (v.toList ++ rest)) : G p l e R s m args below meth c D cI cO z nL Q cs sl sh M pc lv st := by
  subst hn; subst hst
  intro H locs ls hP hS hl
  have hG : GoodIn gtbl (.code y bytes maxL ret :: gtbl) := ggoodIn (c0 := .code y bytes maxL ret) hcode
  refine run_G (a := As.toArray) (va_runSN (n := np) (maxL := maxL) (bytes := bytes) (ret := ret) (index := idx) ⟨C.1, C.2.1, C.2.2.1, C.2.2.2.1, C.2.2.2.2.1⟩ hM ⟨va_cnB (rm := ⟨fr, mc, ms, lo⟩) np C.2.2.2.2.1 hG rfl rfl rfl (C.2.2.2.2.2.1.2.1 _ hl1) (C.2.2.2.2.1 _ hl4) hd2 hR, C.2.2.2.2.1 _ hl2, trivial⟩ ⟨PP_blind, PP_of C hP hS⟩ rfl hnp hl.1 rfl (lv_room hW) hd hf) hS hl kk
theorem g_mmax (C : Cx p s m args meth c D cI cO z tP aK aV own nm cc nL rt) {idx : Nat} {x y : Int32} (hl1 : Cond.methodLink own idx Lib.Math.max.name ∈ gtbl) (hR : 1 ≤ R.frames ∧ (st.map fun v => v.category).sum + 13 ≤ R.locals) (hf : cs ≤ R.cells ∧ sl ≤ R.slots) (hw2 : Cond.static Lib.Math.max.name ∈ gtbl) (hw3 : Cond.initialized "java/lang/Math" ∈ gtbl) (hw4 : Cond.code Lib.Math.max.name Lib.Math.max.code 2 (some .int) ∈ gtbl) (hd : decode cc pc = .ok (.invokestatic idx, 3)) (hn : pc + 3 = n) (k : G p l e R s m args below meth c D cI cO z nL Q cs sl sh M n lv (.int (if x < y then y else x) :: st)) : G p l e R s m args below meth c D cI cO z nL Q cs sl sh M pc lv (.int y :: .int x :: st) := by
  subst hn
  intro H locs ls hP hS hl
  exact va_mmax C.1 C.2.1 (C.2.2.1.trans hl.1.symm) C.2.2.2.1 (C.2.2.2.2.1 _ hl1) (C.2.2.2.2.1 _ hw2) (C.2.2.2.2.1 _ hw3) (C.2.2.2.2.1 _ hw4) hR.1 hR.2 hf.1 hf.2 hd (k H locs ls hP hS hl)
theorem g_mmin (C : Cx p s m args meth c D cI cO z tP aK aV own nm cc nL rt) {idx : Nat} {x y : Int32} (hl1 : Cond.methodLink own idx Lib.Math.min.name ∈ gtbl) (hR : 1 ≤ R.frames ∧ (st.map fun v => v.category).sum + 13 ≤ R.locals) (hf : cs ≤ R.cells ∧ sl ≤ R.slots) (hw2 : Cond.static Lib.Math.min.name ∈ gtbl) (hw3 : Cond.initialized "java/lang/Math" ∈ gtbl) (hw4 : Cond.code Lib.Math.min.name Lib.Math.min.code 2 (some .int) ∈ gtbl) (hd : decode cc pc = .ok (.invokestatic idx, 3)) (hn : pc + 3 = n) (k : G p l e R s m args below meth c D cI cO z nL Q cs sl sh M n lv (.int (if y < x then y else x) :: st)) : G p l e R s m args below meth c D cI cO z nL Q cs sl sh M pc lv (.int y :: .int x :: st) := by
  subst hn
  intro H locs ls hP hS hl
  exact va_mmin C.1 C.2.1 (C.2.2.1.trans hl.1.symm) C.2.2.2.1 (C.2.2.2.2.1 _ hl1) (C.2.2.2.2.1 _ hw2) (C.2.2.2.2.1 _ hw3) (C.2.2.2.2.1 _ hw4) hR.1 hR.2 hf.1 hf.2 hd (k H locs ls hP hS hl)
end GC
end
