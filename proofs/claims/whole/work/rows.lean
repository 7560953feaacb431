section
-- ===== PART A: goes FIRST, ahead of the names: the tables' words, and 'selects' of the private methods out of them =====
/-- a private method of a class that the tables say can be made, by its rows of tables_1 -/
def lw_okq (q : MethodName × Nat) : Prop := (q.1.cls ≠ "java/lang/invoke/MethodHandle" ∧ q.1.cls ≠ "java/lang/invoke/VarHandle") ∧ Cond.instantiable q.1.cls q.2 ∈ tables_1 ∧ Cond.privateMethod q.1 ∈ tables_1 ∧ Cond.instanceMethod q.1 ∈ tables_1
theorem lw_p0 : lw_okq (⟨"CaseWheel", "readText", "()I"⟩, 12) := ⟨⟨by decide +kernel, by decide +kernel⟩, List.mem_of_getElem? (i := 15) (by decide +kernel), List.mem_of_getElem? (i := 219) (by decide +kernel), List.mem_of_getElem? (i := 220) (by decide +kernel)⟩
theorem lw_p1 : lw_okq (⟨"CaseWheel$TextReader", "step", "()V"⟩, 5) := ⟨⟨by decide +kernel, by decide +kernel⟩, List.mem_of_getElem? (i := 45) (by decide +kernel), List.mem_of_getElem? (i := 232) (by decide +kernel), List.mem_of_getElem? (i := 233) (by decide +kernel)⟩
theorem lw_p2 : lw_okq (⟨"CaseWheel$TextReader", "readClause", "(LCaseWheel$State;)Z"⟩, 5) := ⟨⟨by decide +kernel, by decide +kernel⟩, List.mem_of_getElem? (i := 45) (by decide +kernel), List.mem_of_getElem? (i := 242) (by decide +kernel), List.mem_of_getElem? (i := 243) (by decide +kernel)⟩
theorem lw_p3 : lw_okq (⟨"CaseWheel$TextReader", "isWord", "(Ljava/lang/String;)Z"⟩, 5) := ⟨⟨by decide +kernel, by decide +kernel⟩, List.mem_of_getElem? (i := 45) (by decide +kernel), List.mem_of_getElem? (i := 247) (by decide +kernel), List.mem_of_getElem? (i := 248) (by decide +kernel)⟩
theorem lw_p4 : lw_okq (⟨"CaseWheel$TextReader", "readJudge", "(LCaseWheel$State;)Z"⟩, 5) := ⟨⟨by decide +kernel, by decide +kernel⟩, List.mem_of_getElem? (i := 45) (by decide +kernel), List.mem_of_getElem? (i := 315) (by decide +kernel), List.mem_of_getElem? (i := 316) (by decide +kernel)⟩
theorem lw_p5 : lw_okq (⟨"CaseWheel$TextReader", "numberWithin", "(II)I"⟩, 5) := ⟨⟨by decide +kernel, by decide +kernel⟩, List.mem_of_getElem? (i := 45) (by decide +kernel), List.mem_of_getElem? (i := 319) (by decide +kernel), List.mem_of_getElem? (i := 320) (by decide +kernel)⟩
theorem lw_p6 : lw_okq (⟨"CaseWheel$TextReader", "versedTold", "()I"⟩, 5) := ⟨⟨by decide +kernel, by decide +kernel⟩, List.mem_of_getElem? (i := 45) (by decide +kernel), List.mem_of_getElem? (i := 327) (by decide +kernel), List.mem_of_getElem? (i := 328) (by decide +kernel)⟩
theorem lw_p7 : lw_okq (⟨"CaseWheel$TextReader", "readBar", "(LCaseWheel$State;)Z"⟩, 5) := ⟨⟨by decide +kernel, by decide +kernel⟩, List.mem_of_getElem? (i := 45) (by decide +kernel), List.mem_of_getElem? (i := 339) (by decide +kernel), List.mem_of_getElem? (i := 340) (by decide +kernel)⟩
theorem lw_p8 : lw_okq (⟨"CaseWheel$TextReader", "readAway", "(LCaseWheel$State;)Z"⟩, 5) := ⟨⟨by decide +kernel, by decide +kernel⟩, List.mem_of_getElem? (i := 45) (by decide +kernel), List.mem_of_getElem? (i := 344) (by decide +kernel), List.mem_of_getElem? (i := 345) (by decide +kernel)⟩
theorem lw_p9 : lw_okq (⟨"CaseWheel$TextReader", "readRule", "(LCaseWheel$State;)Z"⟩, 5) := ⟨⟨by decide +kernel, by decide +kernel⟩, List.mem_of_getElem? (i := 45) (by decide +kernel), List.mem_of_getElem? (i := 349) (by decide +kernel), List.mem_of_getElem? (i := 350) (by decide +kernel)⟩
theorem lw_p10 : lw_okq (⟨"CaseWheel$TextReader", "isOther", "(I)Z"⟩, 5) := ⟨⟨by decide +kernel, by decide +kernel⟩, List.mem_of_getElem? (i := 45) (by decide +kernel), List.mem_of_getElem? (i := 365) (by decide +kernel), List.mem_of_getElem? (i := 366) (by decide +kernel)⟩
theorem lw_p11 : lw_okq (⟨"CaseWheel", "forgetKept", "()V"⟩, 12) := ⟨⟨by decide +kernel, by decide +kernel⟩, List.mem_of_getElem? (i := 15) (by decide +kernel), List.mem_of_getElem? (i := 378) (by decide +kernel), List.mem_of_getElem? (i := 379) (by decide +kernel)⟩
theorem lw_p12 : lw_okq (⟨"CaseWheel", "dropAllSlips", "()V"⟩, 12) := ⟨⟨by decide +kernel, by decide +kernel⟩, List.mem_of_getElem? (i := 15) (by decide +kernel), List.mem_of_getElem? (i := 382) (by decide +kernel), List.mem_of_getElem? (i := 383) (by decide +kernel)⟩
theorem lw_p13 : lw_okq (⟨"CaseWheel$State", "weighAll", "(I)I"⟩, 15) := ⟨⟨by decide +kernel, by decide +kernel⟩, List.mem_of_getElem? (i := 69) (by decide +kernel), List.mem_of_getElem? (i := 452) (by decide +kernel), List.mem_of_getElem? (i := 453) (by decide +kernel)⟩
theorem lw_p14 : lw_okq (⟨"CaseWheel$State", "drawBelow", "(I)I"⟩, 15) := ⟨⟨by decide +kernel, by decide +kernel⟩, List.mem_of_getElem? (i := 69) (by decide +kernel), List.mem_of_getElem? (i := 462) (by decide +kernel), List.mem_of_getElem? (i := 463) (by decide +kernel)⟩
theorem lw_p15 : lw_okq (⟨"CaseWheel$State", "judgeReaching", "(I)I"⟩, 15) := ⟨⟨by decide +kernel, by decide +kernel⟩, List.mem_of_getElem? (i := 69) (by decide +kernel), List.mem_of_getElem? (i := 470) (by decide +kernel), List.mem_of_getElem? (i := 471) (by decide +kernel)⟩
def lw_privs_1 : List (MethodName × Nat) := [(⟨"CaseWheel", "readText", "()I"⟩, 12), (⟨"CaseWheel$TextReader", "step", "()V"⟩, 5), (⟨"CaseWheel$TextReader", "readClause", "(LCaseWheel$State;)Z"⟩, 5), (⟨"CaseWheel$TextReader", "isWord", "(Ljava/lang/String;)Z"⟩, 5), (⟨"CaseWheel$TextReader", "readJudge", "(LCaseWheel$State;)Z"⟩, 5), (⟨"CaseWheel$TextReader", "numberWithin", "(II)I"⟩, 5), (⟨"CaseWheel$TextReader", "versedTold", "()I"⟩, 5), (⟨"CaseWheel$TextReader", "readBar", "(LCaseWheel$State;)Z"⟩, 5), (⟨"CaseWheel$TextReader", "readAway", "(LCaseWheel$State;)Z"⟩, 5), (⟨"CaseWheel$TextReader", "readRule", "(LCaseWheel$State;)Z"⟩, 5), (⟨"CaseWheel$TextReader", "isOther", "(I)Z"⟩, 5), (⟨"CaseWheel", "forgetKept", "()V"⟩, 12), (⟨"CaseWheel", "dropAllSlips", "()V"⟩, 12), (⟨"CaseWheel$State", "weighAll", "(I)I"⟩, 15), (⟨"CaseWheel$State", "drawBelow", "(I)I"⟩, 15), (⟨"CaseWheel$State", "judgeReaching", "(I)I"⟩, 15)]
theorem lw_r1 : ∀ q ∈ lw_privs_1, lw_okq q := List.forall_mem_cons.mpr ⟨lw_p0, List.forall_mem_cons.mpr ⟨lw_p1, List.forall_mem_cons.mpr ⟨lw_p2, List.forall_mem_cons.mpr ⟨lw_p3, List.forall_mem_cons.mpr ⟨lw_p4, List.forall_mem_cons.mpr ⟨lw_p5, List.forall_mem_cons.mpr ⟨lw_p6, List.forall_mem_cons.mpr ⟨lw_p7, List.forall_mem_cons.mpr ⟨lw_p8, List.forall_mem_cons.mpr ⟨lw_p9, List.forall_mem_cons.mpr ⟨lw_p10, List.forall_mem_cons.mpr ⟨lw_p11, List.forall_mem_cons.mpr ⟨lw_p12, List.forall_mem_cons.mpr ⟨lw_p13, List.forall_mem_cons.mpr ⟨lw_p14, List.forall_mem_cons.mpr ⟨lw_p15, fun _ h => absurd h List.not_mem_nil⟩⟩⟩⟩⟩⟩⟩⟩⟩⟩⟩⟩⟩⟩⟩⟩
theorem lw_p16 : lw_okq (⟨"CaseWheel$State", "settleDebts", "(I)V"⟩, 15) := ⟨⟨by decide +kernel, by decide +kernel⟩, List.mem_of_getElem? (i := 69) (by decide +kernel), List.mem_of_getElem? (i := 474) (by decide +kernel), List.mem_of_getElem? (i := 475) (by decide +kernel)⟩
theorem lw_p17 : lw_okq (⟨"CaseWheel", "writeDocket", "()V"⟩, 12) := ⟨⟨by decide +kernel, by decide +kernel⟩, List.mem_of_getElem? (i := 15) (by decide +kernel), List.mem_of_getElem? (i := 513) (by decide +kernel), List.mem_of_getElem? (i := 514) (by decide +kernel)⟩
theorem lw_p18 : lw_okq (⟨"CaseWheel", "recountBy", "(II)I"⟩, 12) := ⟨⟨by decide +kernel, by decide +kernel⟩, List.mem_of_getElem? (i := 15) (by decide +kernel), List.mem_of_getElem? (i := 561) (by decide +kernel), List.mem_of_getElem? (i := 562) (by decide +kernel)⟩
theorem lw_p19 : lw_okq (⟨"CaseWheel$Letters", "standsAt", "(ILCaseWheel$Letters;)Z"⟩, 2) := ⟨⟨by decide +kernel, by decide +kernel⟩, List.mem_of_getElem? (i := 23) (by decide +kernel), List.mem_of_getElem? (i := 613) (by decide +kernel), List.mem_of_getElem? (i := 614) (by decide +kernel)⟩
theorem lw_p20 : lw_okq (⟨"CaseWheel", "lettersOfWriting", "()I"⟩, 12) := ⟨⟨by decide +kernel, by decide +kernel⟩, List.mem_of_getElem? (i := 15) (by decide +kernel), List.mem_of_getElem? (i := 635) (by decide +kernel), List.mem_of_getElem? (i := 636) (by decide +kernel)⟩
theorem lw_p21 : lw_okq (⟨"CaseWheel", "lettersOfSlips", "()I"⟩, 12) := ⟨⟨by decide +kernel, by decide +kernel⟩, List.mem_of_getElem? (i := 15) (by decide +kernel), List.mem_of_getElem? (i := 639) (by decide +kernel), List.mem_of_getElem? (i := 640) (by decide +kernel)⟩
theorem lw_p22 : lw_okq (⟨"CaseWheelModel", "anew", "()V"⟩, 20) := ⟨⟨by decide +kernel, by decide +kernel⟩, List.mem_of_getElem? (i := 643) (by decide +kernel), List.mem_of_getElem? (i := 649) (by decide +kernel), List.mem_of_getElem? (i := 650) (by decide +kernel)⟩
theorem lw_p23 : lw_okq (⟨"CaseWheelModel", "copyRow", "(II)V"⟩, 20) := ⟨⟨by decide +kernel, by decide +kernel⟩, List.mem_of_getElem? (i := 643) (by decide +kernel), List.mem_of_getElem? (i := 653) (by decide +kernel), List.mem_of_getElem? (i := 654) (by decide +kernel)⟩
theorem lw_p24 : lw_okq (⟨"CaseWheelModel", "reads", "(Z)Z"⟩, 20) := ⟨⟨by decide +kernel, by decide +kernel⟩, List.mem_of_getElem? (i := 643) (by decide +kernel), List.mem_of_getElem? (i := 734) (by decide +kernel), List.mem_of_getElem? (i := 735) (by decide +kernel)⟩
theorem lw_p25 : lw_okq (⟨"CaseWheelModel", "nextToken", "()V"⟩, 20) := ⟨⟨by decide +kernel, by decide +kernel⟩, List.mem_of_getElem? (i := 643) (by decide +kernel), List.mem_of_getElem? (i := 738) (by decide +kernel), List.mem_of_getElem? (i := 739) (by decide +kernel)⟩
theorem lw_p26 : lw_okq (⟨"CaseWheelModel", "readsClause", "()Z"⟩, 20) := ⟨⟨by decide +kernel, by decide +kernel⟩, List.mem_of_getElem? (i := 643) (by decide +kernel), List.mem_of_getElem? (i := 752) (by decide +kernel), List.mem_of_getElem? (i := 753) (by decide +kernel)⟩
theorem lw_p27 : lw_okq (⟨"CaseWheelModel", "wordOf", "(II)I"⟩, 20) := ⟨⟨by decide +kernel, by decide +kernel⟩, List.mem_of_getElem? (i := 643) (by decide +kernel), List.mem_of_getElem? (i := 756) (by decide +kernel), List.mem_of_getElem? (i := 757) (by decide +kernel)⟩
theorem lw_p28 : lw_okq (⟨"CaseWheelModel", "isWord", "(I)Z"⟩, 20) := ⟨⟨by decide +kernel, by decide +kernel⟩, List.mem_of_getElem? (i := 643) (by decide +kernel), List.mem_of_getElem? (i := 760) (by decide +kernel), List.mem_of_getElem? (i := 761) (by decide +kernel)⟩
theorem lw_p29 : lw_okq (⟨"CaseWheelModel", "readsRest", "(I)Z"⟩, 20) := ⟨⟨by decide +kernel, by decide +kernel⟩, List.mem_of_getElem? (i := 643) (by decide +kernel), List.mem_of_getElem? (i := 764) (by decide +kernel), List.mem_of_getElem? (i := 765) (by decide +kernel)⟩
theorem lw_p30 : lw_okq (⟨"CaseWheelModel", "number", "(III)Z"⟩, 20) := ⟨⟨by decide +kernel, by decide +kernel⟩, List.mem_of_getElem? (i := 643) (by decide +kernel), List.mem_of_getElem? (i := 768) (by decide +kernel), List.mem_of_getElem? (i := 769) (by decide +kernel)⟩
theorem lw_p31 : lw_okq (⟨"CaseWheelModel", "readsVersed", "()Z"⟩, 20) := ⟨⟨by decide +kernel, by decide +kernel⟩, List.mem_of_getElem? (i := 643) (by decide +kernel), List.mem_of_getElem? (i := 772) (by decide +kernel), List.mem_of_getElem? (i := 773) (by decide +kernel)⟩
def lw_privs_2 : List (MethodName × Nat) := [(⟨"CaseWheel$State", "settleDebts", "(I)V"⟩, 15), (⟨"CaseWheel", "writeDocket", "()V"⟩, 12), (⟨"CaseWheel", "recountBy", "(II)I"⟩, 12), (⟨"CaseWheel$Letters", "standsAt", "(ILCaseWheel$Letters;)Z"⟩, 2), (⟨"CaseWheel", "lettersOfWriting", "()I"⟩, 12), (⟨"CaseWheel", "lettersOfSlips", "()I"⟩, 12), (⟨"CaseWheelModel", "anew", "()V"⟩, 20), (⟨"CaseWheelModel", "copyRow", "(II)V"⟩, 20), (⟨"CaseWheelModel", "reads", "(Z)Z"⟩, 20), (⟨"CaseWheelModel", "nextToken", "()V"⟩, 20), (⟨"CaseWheelModel", "readsClause", "()Z"⟩, 20), (⟨"CaseWheelModel", "wordOf", "(II)I"⟩, 20), (⟨"CaseWheelModel", "isWord", "(I)Z"⟩, 20), (⟨"CaseWheelModel", "readsRest", "(I)Z"⟩, 20), (⟨"CaseWheelModel", "number", "(III)Z"⟩, 20), (⟨"CaseWheelModel", "readsVersed", "()Z"⟩, 20)]
theorem lw_r2 : ∀ q ∈ lw_privs_2, lw_okq q := List.forall_mem_cons.mpr ⟨lw_p16, List.forall_mem_cons.mpr ⟨lw_p17, List.forall_mem_cons.mpr ⟨lw_p18, List.forall_mem_cons.mpr ⟨lw_p19, List.forall_mem_cons.mpr ⟨lw_p20, List.forall_mem_cons.mpr ⟨lw_p21, List.forall_mem_cons.mpr ⟨lw_p22, List.forall_mem_cons.mpr ⟨lw_p23, List.forall_mem_cons.mpr ⟨lw_p24, List.forall_mem_cons.mpr ⟨lw_p25, List.forall_mem_cons.mpr ⟨lw_p26, List.forall_mem_cons.mpr ⟨lw_p27, List.forall_mem_cons.mpr ⟨lw_p28, List.forall_mem_cons.mpr ⟨lw_p29, List.forall_mem_cons.mpr ⟨lw_p30, List.forall_mem_cons.mpr ⟨lw_p31, fun _ h => absurd h List.not_mem_nil⟩⟩⟩⟩⟩⟩⟩⟩⟩⟩⟩⟩⟩⟩⟩⟩
theorem lw_p32 : lw_okq (⟨"CaseWheelModel", "readsRule", "()Z"⟩, 20) := ⟨⟨by decide +kernel, by decide +kernel⟩, List.mem_of_getElem? (i := 643) (by decide +kernel), List.mem_of_getElem? (i := 780) (by decide +kernel), List.mem_of_getElem? (i := 781) (by decide +kernel)⟩
theorem lw_p33 : lw_okq (⟨"CaseWheelModel", "does", "(I)V"⟩, 20) := ⟨⟨by decide +kernel, by decide +kernel⟩, List.mem_of_getElem? (i := 643) (by decide +kernel), List.mem_of_getElem? (i := 784) (by decide +kernel), List.mem_of_getElem? (i := 785) (by decide +kernel)⟩
theorem lw_p34 : lw_okq (⟨"CaseWheelModel", "isJudge", "(I)Z"⟩, 20) := ⟨⟨by decide +kernel, by decide +kernel⟩, List.mem_of_getElem? (i := 643) (by decide +kernel), List.mem_of_getElem? (i := 796) (by decide +kernel), List.mem_of_getElem? (i := 797) (by decide +kernel)⟩
theorem lw_p35 : lw_okq (⟨"CaseWheelModel", "isCase", "(I)Z"⟩, 20) := ⟨⟨by decide +kernel, by decide +kernel⟩, List.mem_of_getElem? (i := 643) (by decide +kernel), List.mem_of_getElem? (i := 804) (by decide +kernel), List.mem_of_getElem? (i := 805) (by decide +kernel)⟩
theorem lw_p36 : lw_okq (⟨"CaseWheelModel", "sealAt", "(II)V"⟩, 20) := ⟨⟨by decide +kernel, by decide +kernel⟩, List.mem_of_getElem? (i := 643) (by decide +kernel), List.mem_of_getElem? (i := 812) (by decide +kernel), List.mem_of_getElem? (i := 813) (by decide +kernel)⟩
theorem lw_p37 : lw_okq (⟨"CaseWheelModel", "isAnyone", "(III)Z"⟩, 20) := ⟨⟨by decide +kernel, by decide +kernel⟩, List.mem_of_getElem? (i := 643) (by decide +kernel), List.mem_of_getElem? (i := 827) (by decide +kernel), List.mem_of_getElem? (i := 828) (by decide +kernel)⟩
theorem lw_p38 : lw_okq (⟨"CaseWheelModel", "isBarred", "(III)Z"⟩, 20) := ⟨⟨by decide +kernel, by decide +kernel⟩, List.mem_of_getElem? (i := 643) (by decide +kernel), List.mem_of_getElem? (i := 831) (by decide +kernel), List.mem_of_getElem? (i := 832) (by decide +kernel)⟩
theorem lw_p39 : lw_okq (⟨"CaseWheelModel", "keepPast", "()V"⟩, 20) := ⟨⟨by decide +kernel, by decide +kernel⟩, List.mem_of_getElem? (i := 643) (by decide +kernel), List.mem_of_getElem? (i := 835) (by decide +kernel), List.mem_of_getElem? (i := 836) (by decide +kernel)⟩
theorem lw_p40 : lw_okq (⟨"CaseWheelModel", "assigned", "(III)I"⟩, 20) := ⟨⟨by decide +kernel, by decide +kernel⟩, List.mem_of_getElem? (i := 643) (by decide +kernel), List.mem_of_getElem? (i := 839) (by decide +kernel), List.mem_of_getElem? (i := 840) (by decide +kernel)⟩
theorem lw_p41 : lw_okq (⟨"CaseWheelModel", "drawOnce", "(II)I"⟩, 20) := ⟨⟨by decide +kernel, by decide +kernel⟩, List.mem_of_getElem? (i := 643) (by decide +kernel), List.mem_of_getElem? (i := 843) (by decide +kernel), List.mem_of_getElem? (i := 844) (by decide +kernel)⟩
theorem lw_p42 : lw_okq (⟨"CaseWheelModel", "weightOf", "(III)I"⟩, 20) := ⟨⟨by decide +kernel, by decide +kernel⟩, List.mem_of_getElem? (i := 643) (by decide +kernel), List.mem_of_getElem? (i := 847) (by decide +kernel), List.mem_of_getElem? (i := 848) (by decide +kernel)⟩
theorem lw_p43 : lw_okq (⟨"CaseWheelModel", "drawFor", "(II)I"⟩, 20) := ⟨⟨by decide +kernel, by decide +kernel⟩, List.mem_of_getElem? (i := 643) (by decide +kernel), List.mem_of_getElem? (i := 851) (by decide +kernel), List.mem_of_getElem? (i := 852) (by decide +kernel)⟩
theorem lw_p44 : lw_okq (⟨"CaseWheelModel", "owe", "(II)V"⟩, 20) := ⟨⟨by decide +kernel, by decide +kernel⟩, List.mem_of_getElem? (i := 643) (by decide +kernel), List.mem_of_getElem? (i := 860) (by decide +kernel), List.mem_of_getElem? (i := 861) (by decide +kernel)⟩
theorem lw_p45 : lw_okq (⟨"CaseWheelModel", "layWriting", "()V"⟩, 20) := ⟨⟨by decide +kernel, by decide +kernel⟩, List.mem_of_getElem? (i := 643) (by decide +kernel), List.mem_of_getElem? (i := 888) (by decide +kernel), List.mem_of_getElem? (i := 889) (by decide +kernel)⟩
theorem lw_p46 : lw_okq (⟨"CaseWheelModel", "put", "(I)V"⟩, 20) := ⟨⟨by decide +kernel, by decide +kernel⟩, List.mem_of_getElem? (i := 643) (by decide +kernel), List.mem_of_getElem? (i := 892) (by decide +kernel), List.mem_of_getElem? (i := 893) (by decide +kernel)⟩
theorem lw_p47 : lw_okq (⟨"CaseWheelModel", "canCount", "()Z"⟩, 20) := ⟨⟨by decide +kernel, by decide +kernel⟩, List.mem_of_getElem? (i := 643) (by decide +kernel), List.mem_of_getElem? (i := 918) (by decide +kernel), List.mem_of_getElem? (i := 919) (by decide +kernel)⟩
def lw_privs_3 : List (MethodName × Nat) := [(⟨"CaseWheelModel", "readsRule", "()Z"⟩, 20), (⟨"CaseWheelModel", "does", "(I)V"⟩, 20), (⟨"CaseWheelModel", "isJudge", "(I)Z"⟩, 20), (⟨"CaseWheelModel", "isCase", "(I)Z"⟩, 20), (⟨"CaseWheelModel", "sealAt", "(II)V"⟩, 20), (⟨"CaseWheelModel", "isAnyone", "(III)Z"⟩, 20), (⟨"CaseWheelModel", "isBarred", "(III)Z"⟩, 20), (⟨"CaseWheelModel", "keepPast", "()V"⟩, 20), (⟨"CaseWheelModel", "assigned", "(III)I"⟩, 20), (⟨"CaseWheelModel", "drawOnce", "(II)I"⟩, 20), (⟨"CaseWheelModel", "weightOf", "(III)I"⟩, 20), (⟨"CaseWheelModel", "drawFor", "(II)I"⟩, 20), (⟨"CaseWheelModel", "owe", "(II)V"⟩, 20), (⟨"CaseWheelModel", "layWriting", "()V"⟩, 20), (⟨"CaseWheelModel", "put", "(I)V"⟩, 20), (⟨"CaseWheelModel", "canCount", "()Z"⟩, 20)]
theorem lw_r3 : ∀ q ∈ lw_privs_3, lw_okq q := List.forall_mem_cons.mpr ⟨lw_p32, List.forall_mem_cons.mpr ⟨lw_p33, List.forall_mem_cons.mpr ⟨lw_p34, List.forall_mem_cons.mpr ⟨lw_p35, List.forall_mem_cons.mpr ⟨lw_p36, List.forall_mem_cons.mpr ⟨lw_p37, List.forall_mem_cons.mpr ⟨lw_p38, List.forall_mem_cons.mpr ⟨lw_p39, List.forall_mem_cons.mpr ⟨lw_p40, List.forall_mem_cons.mpr ⟨lw_p41, List.forall_mem_cons.mpr ⟨lw_p42, List.forall_mem_cons.mpr ⟨lw_p43, List.forall_mem_cons.mpr ⟨lw_p44, List.forall_mem_cons.mpr ⟨lw_p45, List.forall_mem_cons.mpr ⟨lw_p46, List.forall_mem_cons.mpr ⟨lw_p47, fun _ h => absurd h List.not_mem_nil⟩⟩⟩⟩⟩⟩⟩⟩⟩⟩⟩⟩⟩⟩⟩⟩
theorem lw_p48 : lw_okq (⟨"CaseWheelModel", "sameBy", "(I)I"⟩, 20) := ⟨⟨by decide +kernel, by decide +kernel⟩, List.mem_of_getElem? (i := 643) (by decide +kernel), List.mem_of_getElem? (i := 922) (by decide +kernel), List.mem_of_getElem? (i := 923) (by decide +kernel)⟩
theorem lw_p49 : lw_okq (⟨"CaseWheelModel", "standsAt", "(III)Z"⟩, 20) := ⟨⟨by decide +kernel, by decide +kernel⟩, List.mem_of_getElem? (i := 643) (by decide +kernel), List.mem_of_getElem? (i := 960) (by decide +kernel), List.mem_of_getElem? (i := 961) (by decide +kernel)⟩
theorem lw_p50 : lw_okq (⟨"CaseWheelModel", "allLetters", "()I"⟩, 20) := ⟨⟨by decide +kernel, by decide +kernel⟩, List.mem_of_getElem? (i := 643) (by decide +kernel), List.mem_of_getElem? (i := 981) (by decide +kernel), List.mem_of_getElem? (i := 982) (by decide +kernel)⟩
def lw_privs_4 : List (MethodName × Nat) := [(⟨"CaseWheelModel", "sameBy", "(I)I"⟩, 20), (⟨"CaseWheelModel", "standsAt", "(III)Z"⟩, 20), (⟨"CaseWheelModel", "allLetters", "()I"⟩, 20)]
theorem lw_r4 : ∀ q ∈ lw_privs_4, lw_okq q := List.forall_mem_cons.mpr ⟨lw_p48, List.forall_mem_cons.mpr ⟨lw_p49, List.forall_mem_cons.mpr ⟨lw_p50, fun _ h => absurd h List.not_mem_nil⟩⟩⟩
def lw_privs : List (MethodName × Nat) := lw_privs_1 ++ (lw_privs_2 ++ (lw_privs_3 ++ (lw_privs_4)))
def lw_tbl : List Cond := k2_sels lw_privs ++ tables_1
theorem lw_privs_ok : ∀ q ∈ lw_privs, lw_okq q := by
  show ∀ q ∈ lw_privs_1 ++ (lw_privs_2 ++ (lw_privs_3 ++ (lw_privs_4))), lw_okq q
  exact List.forall_mem_append.mpr ⟨lw_r1, List.forall_mem_append.mpr ⟨lw_r2, List.forall_mem_append.mpr ⟨lw_r3, lw_r4⟩⟩⟩
end
section
def RX0 : String := "CaseWheel$History"
def TX0 : u_T := fun k => match k with
  | 0 => ("CaseWheel$History", "before", "[LCaseWheel$State;", true)
  | 1 => ("CaseWheel$History", "oldest", "I", false)
  | _ => ("CaseWheel$History", "size", "I", false)
def tyX0 : Nat → FieldType := fun k => match k with
  | 0 => .array (.object "CaseWheel$State")
  | 1 => .int
  | _ => .int
theorem nmX0 : ∀ a, a < 3 → ∀ b, b < 3 → a ≠ b → (TX0 a).2.1 ≠ (TX0 b).2.1 := by decide +kernel
theorem tyX0_ok : ∀ k, k < 3 → parseFieldDescriptor (TX0 k).2.2.1 = some (tyX0 k) := by decide +kernel
abbrev cX0_init : ByteArray := prog_2_method_1_code
def yX0_init : MethodName := ⟨RX0, "<init>", "()V"⟩
abbrev cX0_forget : ByteArray := prog_2_method_2_code
def yX0_forget : MethodName := ⟨RX0, "forget", "()V"⟩
abbrev cX0_remember : ByteArray := prog_2_method_3_code
def yX0_remember : MethodName := ⟨RX0, "remember", "(LCaseWheel$State;)V"⟩
abbrev cX0_takeBack : ByteArray := prog_2_method_4_code
def yX0_takeBack : MethodName := ⟨RX0, "takeBack", "(LCaseWheel$State;)V"⟩
def RX1 : String := "CaseWheel$Letters"
def TX1 : u_T := fun k => match k with
  | 0 => ("CaseWheel$Letters", "row", "[I", true)
  | _ => ("CaseWheel$Letters", "length", "I", false)
def tyX1 : Nat → FieldType := fun k => match k with
  | 0 => .array .int
  | _ => .int
theorem nmX1 : ∀ a, a < 2 → ∀ b, b < 2 → a ≠ b → (TX1 a).2.1 ≠ (TX1 b).2.1 := by decide +kernel
theorem tyX1_ok : ∀ k, k < 2 → parseFieldDescriptor (TX1 k).2.2.1 = some (tyX1 k) := by decide +kernel
abbrev cX1_init : ByteArray := prog_3_method_1_code
def yX1_init : MethodName := ⟨RX1, "<init>", "(I)V"⟩
abbrev cX1_hasRoomFor : ByteArray := prog_3_method_2_code
def yX1_hasRoomFor : MethodName := ⟨RX1, "hasRoomFor", "(I)Z"⟩
abbrev cX1_append : ByteArray := prog_3_method_3_code
def yX1_append : MethodName := ⟨RX1, "append", "(I)V"⟩
abbrev cX1_putAt : ByteArray := prog_3_method_4_code
def yX1_putAt : MethodName := ⟨RX1, "putAt", "(II)V"⟩
abbrev cX1_removeSpan : ByteArray := prog_3_method_5_code
def yX1_removeSpan : MethodName := ⟨RX1, "removeSpan", "(II)V"⟩
abbrev cX1_appendAll : ByteArray := prog_3_method_6_code
def yX1_appendAll : MethodName := ⟨RX1, "appendAll", "(LCaseWheel$Letters;)V"⟩
abbrev cX1_placeOf : ByteArray := prog_3_method_7_code
def yX1_placeOf : MethodName := ⟨RX1, "placeOf", "(LCaseWheel$Letters;)I"⟩
abbrev cX1_standsAt : ByteArray := prog_3_method_8_code
def yX1_standsAt : MethodName := ⟨RX1, "standsAt", "(ILCaseWheel$Letters;)Z"⟩
abbrev cX1_isWordAt : ByteArray := prog_3_method_9_code
def yX1_isWordAt : MethodName := ⟨RX1, "isWordAt", "(IILjava/lang/String;)Z"⟩
abbrev cX1_ruleAt : ByteArray := prog_3_method_10_code
def yX1_ruleAt : MethodName := ⟨RX1, "ruleAt", "(II)I"⟩
abbrev cX1_numberAt : ByteArray := prog_3_method_11_code
def yX1_numberAt : MethodName := ⟨RX1, "numberAt", "(III)I"⟩
def RX2 : String := "CaseWheel$State"
def TX2 : u_T := fun k => match k with
  | 0 => ("CaseWheel$State", "strength", "[I", true)
  | 1 => ("CaseWheel$State", "versed", "[I", true)
  | 2 => ("CaseWheel$State", "barred", "[I", true)
  | 3 => ("CaseWheel$State", "debt", "[I", true)
  | 4 => ("CaseWheel$State", "subjectOf", "[I", true)
  | 5 => ("CaseWheel$State", "partyOf", "[I", true)
  | 6 => ("CaseWheel$State", "judgeOf", "[I", true)
  | 7 => ("CaseWheel$State", "weightsUpTo", "[I", true)
  | 8 => ("CaseWheel$State", "judges", "I", false)
  | 9 => ("CaseWheel$State", "away", "I", false)
  | 10 => ("CaseWheel$State", "rule", "I", false)
  | 11 => ("CaseWheel$State", "seed", "I", false)
  | 12 => ("CaseWheel$State", "chain", "I", false)
  | 13 => ("CaseWheel$State", "turns", "I", false)
  | _ => ("CaseWheel$State", "cases", "I", false)
def tyX2 : Nat → FieldType := fun k => match k with
  | 0 => .array .int
  | 1 => .array .int
  | 2 => .array .int
  | 3 => .array .int
  | 4 => .array .int
  | 5 => .array .int
  | 6 => .array .int
  | 7 => .array .int
  | 8 => .int
  | 9 => .int
  | 10 => .int
  | 11 => .int
  | 12 => .int
  | 13 => .int
  | _ => .int
theorem nmX2 : ∀ a, a < 15 → ∀ b, b < 15 → a ≠ b → (TX2 a).2.1 ≠ (TX2 b).2.1 := by decide +kernel
theorem tyX2_ok : ∀ k, k < 15 → parseFieldDescriptor (TX2 k).2.2.1 = some (tyX2 k) := by decide +kernel
abbrev cX2_init : ByteArray := prog_4_method_1_code
def yX2_init : MethodName := ⟨RX2, "<init>", "()V"⟩
abbrev cX2_copyFrom : ByteArray := prog_4_method_2_code
def yX2_copyFrom : MethodName := ⟨RX2, "copyFrom", "(LCaseWheel$State;)V"⟩
abbrev cX2_clearAll : ByteArray := prog_4_method_3_code
def yX2_clearAll : MethodName := ⟨RX2, "clearAll", "()V"⟩
abbrev cX2_startAnew : ByteArray := prog_4_method_4_code
def yX2_startAnew : MethodName := ⟨RX2, "startAnew", "(I)V"⟩
abbrev cX2_addJudge : ByteArray := prog_4_method_5_code
def yX2_addJudge : MethodName := ⟨RX2, "addJudge", "(II)V"⟩
abbrev cX2_hasJudge : ByteArray := prog_4_method_6_code
def yX2_hasJudge : MethodName := ⟨RX2, "hasJudge", "(I)Z"⟩
abbrev cX2_hasCase : ByteArray := prog_4_method_7_code
def yX2_hasCase : MethodName := ⟨RX2, "hasCase", "(I)Z"⟩
abbrev cX2_isAway : ByteArray := prog_4_method_8_code
def yX2_isAway : MethodName := ⟨RX2, "isAway", "(I)Z"⟩
abbrev cX2_isBarred : ByteArray := prog_4_method_9_code
def yX2_isBarred : MethodName := ⟨RX2, "isBarred", "(II)Z"⟩
abbrev cX2_isFreeFor : ByteArray := prog_4_method_10_code
def yX2_isFreeFor : MethodName := ⟨RX2, "isFreeFor", "(II)Z"⟩
abbrev cX2_hasSomeoneFor : ByteArray := prog_4_method_11_code
def yX2_hasSomeoneFor : MethodName := ⟨RX2, "hasSomeoneFor", "(II)Z"⟩
abbrev cX2_everyCaseHasSomeone : ByteArray := prog_4_method_12_code
def yX2_everyCaseHasSomeone : MethodName := ⟨RX2, "everyCaseHasSomeone", "()Z"⟩
abbrev cX2_casesOf : ByteArray := prog_4_method_13_code
def yX2_casesOf : MethodName := ⟨RX2, "casesOf", "(I)I"⟩
abbrev cX2_weightOf : ByteArray := prog_4_method_14_code
def yX2_weightOf : MethodName := ⟨RX2, "weightOf", "(II)I"⟩
abbrev cX2_weightsFreeFor : ByteArray := prog_4_method_15_code
def yX2_weightsFreeFor : MethodName := ⟨RX2, "weightsFreeFor", "(II)I"⟩
abbrev cX2_drawJudge : ByteArray := prog_4_method_16_code
def yX2_drawJudge : MethodName := ⟨RX2, "drawJudge", "(II)I"⟩
abbrev cX2_weighAll : ByteArray := prog_4_method_17_code
def yX2_weighAll : MethodName := ⟨RX2, "weighAll", "(I)I"⟩
abbrev cX2_drawBelow : ByteArray := prog_4_method_18_code
def yX2_drawBelow : MethodName := ⟨RX2, "drawBelow", "(I)I"⟩
abbrev cX2_judgeReaching : ByteArray := prog_4_method_19_code
def yX2_judgeReaching : MethodName := ⟨RX2, "judgeReaching", "(I)I"⟩
abbrev cX2_settleDebts : ByteArray := prog_4_method_20_code
def yX2_settleDebts : MethodName := ⟨RX2, "settleDebts", "(I)V"⟩
abbrev cX2_addCase : ByteArray := prog_4_method_21_code
def yX2_addCase : MethodName := ⟨RX2, "addCase", "(II)I"⟩
abbrev cX2_drawCaseAgain : ByteArray := prog_4_method_22_code
def yX2_drawCaseAgain : MethodName := ⟨RX2, "drawCaseAgain", "(I)I"⟩
def RX3 : String := "CaseWheel$TextReader"
def TX3 : u_T := fun k => match k with
  | 0 => ("CaseWheel$TextReader", "text", "LCaseWheel$Letters;", true)
  | 1 => ("CaseWheel$TextReader", "kind", "I", false)
  | 2 => ("CaseWheel$TextReader", "start", "I", false)
  | 3 => ("CaseWheel$TextReader", "end", "I", false)
  | _ => ("CaseWheel$TextReader", "clauses", "I", false)
def tyX3 : Nat → FieldType := fun k => match k with
  | 0 => .object "CaseWheel$Letters"
  | 1 => .int
  | 2 => .int
  | 3 => .int
  | _ => .int
theorem nmX3 : ∀ a, a < 5 → ∀ b, b < 5 → a ≠ b → (TX3 a).2.1 ≠ (TX3 b).2.1 := by decide +kernel
theorem tyX3_ok : ∀ k, k < 5 → parseFieldDescriptor (TX3 k).2.2.1 = some (tyX3 k) := by decide +kernel
abbrev cX3_init : ByteArray := prog_5_method_1_code
def yX3_init : MethodName := ⟨RX3, "<init>", "(LCaseWheel$Letters;)V"⟩
abbrev cX3_readInto : ByteArray := prog_5_method_2_code
def yX3_readInto : MethodName := ⟨RX3, "readInto", "(LCaseWheel$State;)I"⟩
abbrev cX3_step : ByteArray := prog_5_method_3_code
def yX3_step : MethodName := ⟨RX3, "step", "()V"⟩
abbrev cX3_isOther : ByteArray := prog_5_method_4_code
def yX3_isOther : MethodName := ⟨RX3, "isOther", "(I)Z"⟩
abbrev cX3_isWord : ByteArray := prog_5_method_5_code
def yX3_isWord : MethodName := ⟨RX3, "isWord", "(Ljava/lang/String;)Z"⟩
abbrev cX3_numberWithin : ByteArray := prog_5_method_6_code
def yX3_numberWithin : MethodName := ⟨RX3, "numberWithin", "(II)I"⟩
abbrev cX3_readClause : ByteArray := prog_5_method_7_code
def yX3_readClause : MethodName := ⟨RX3, "readClause", "(LCaseWheel$State;)Z"⟩
abbrev cX3_readJudge : ByteArray := prog_5_method_8_code
def yX3_readJudge : MethodName := ⟨RX3, "readJudge", "(LCaseWheel$State;)Z"⟩
abbrev cX3_versedTold : ByteArray := prog_5_method_9_code
def yX3_versedTold : MethodName := ⟨RX3, "versedTold", "()I"⟩
abbrev cX3_readBar : ByteArray := prog_5_method_10_code
def yX3_readBar : MethodName := ⟨RX3, "readBar", "(LCaseWheel$State;)Z"⟩
abbrev cX3_readAway : ByteArray := prog_5_method_11_code
def yX3_readAway : MethodName := ⟨RX3, "readAway", "(LCaseWheel$State;)Z"⟩
abbrev cX3_readRule : ByteArray := prog_5_method_12_code
def yX3_readRule : MethodName := ⟨RX3, "readRule", "(LCaseWheel$State;)Z"⟩
def RX4 : String := "CaseWheel"
def TX4 : u_T := fun k => match k with
  | 0 => ("CaseWheel", "text", "LCaseWheel$Letters;", true)
  | 1 => ("CaseWheel", "docket", "LCaseWheel$Letters;", true)
  | 2 => ("CaseWheel", "slips", "[LCaseWheel$Letters;", true)
  | 3 => ("CaseWheel", "isThere", "[Z", true)
  | 4 => ("CaseWheel", "reader", "LCaseWheel$TextReader;", true)
  | 5 => ("CaseWheel", "asTold", "LCaseWheel$State;", true)
  | 6 => ("CaseWheel", "asRead", "LCaseWheel$State;", true)
  | 7 => ("CaseWheel", "now", "LCaseWheel$State;", true)
  | 8 => ("CaseWheel", "foretold", "LCaseWheel$State;", true)
  | 9 => ("CaseWheel", "history", "LCaseWheel$History;", true)
  | 10 => ("CaseWheel", "kept", "[LCaseWheel$State;", true)
  | _ => ("CaseWheel", "isKept", "[Z", true)
def tyX4 : Nat → FieldType := fun k => match k with
  | 0 => .object "CaseWheel$Letters"
  | 1 => .object "CaseWheel$Letters"
  | 2 => .array (.object "CaseWheel$Letters")
  | 3 => .array .boolean
  | 4 => .object "CaseWheel$TextReader"
  | 5 => .object "CaseWheel$State"
  | 6 => .object "CaseWheel$State"
  | 7 => .object "CaseWheel$State"
  | 8 => .object "CaseWheel$State"
  | 9 => .object "CaseWheel$History"
  | 10 => .array (.object "CaseWheel$State")
  | _ => .array .boolean
theorem nmX4 : ∀ a, a < 12 → ∀ b, b < 12 → a ≠ b → (TX4 a).2.1 ≠ (TX4 b).2.1 := by decide +kernel
theorem tyX4_ok : ∀ k, k < 12 → parseFieldDescriptor (TX4 k).2.2.1 = some (tyX4 k) := by decide +kernel
abbrev cX4_init : ByteArray := prog_1_method_1_code
def yX4_init : MethodName := ⟨RX4, "<init>", "()V"⟩
abbrev cX4_write : ByteArray := prog_1_method_2_code
def yX4_write : MethodName := ⟨RX4, "write", "(I)I"⟩
abbrev cX4_erase : ByteArray := prog_1_method_3_code
def yX4_erase : MethodName := ⟨RX4, "erase", "()I"⟩
abbrev cX4_fault : ByteArray := prog_1_method_4_code
def yX4_fault : MethodName := ⟨RX4, "fault", "()I"⟩
abbrev cX4_wheel : ByteArray := prog_1_method_5_code
def yX4_wheel : MethodName := ⟨RX4, "wheel", "()I"⟩
abbrev cX4_judge : ByteArray := prog_1_method_6_code
def yX4_judge : MethodName := ⟨RX4, "judge", "(II)I"⟩
abbrev cX4_caseOf : ByteArray := prog_1_method_7_code
def yX4_caseOf : MethodName := ⟨RX4, "caseOf", "(II)I"⟩
abbrev cX4_seal : ByteArray := prog_1_method_8_code
def yX4_seal : MethodName := ⟨RX4, "seal", "(I)I"⟩
abbrev cX4_assign : ByteArray := prog_1_method_9_code
def yX4_assign : MethodName := ⟨RX4, "assign", "(II)I"⟩
abbrev cX4_refuse : ByteArray := prog_1_method_10_code
def yX4_refuse : MethodName := ⟨RX4, "refuse", "(I)I"⟩
abbrev cX4_away : ByteArray := prog_1_method_11_code
def yX4_away : MethodName := ⟨RX4, "away", "(II)I"⟩
abbrev cX4_undo : ByteArray := prog_1_method_12_code
def yX4_undo : MethodName := ⟨RX4, "undo", "()I"⟩
abbrev cX4_keep : ByteArray := prog_1_method_13_code
def yX4_keep : MethodName := ⟨RX4, "keep", "(I)I"⟩
abbrev cX4_back : ByteArray := prog_1_method_14_code
def yX4_back : MethodName := ⟨RX4, "back", "(I)I"⟩
abbrev cX4_writing : ByteArray := prog_1_method_15_code
def yX4_writing : MethodName := ⟨RX4, "writing", "(I)I"⟩
abbrev cX4_sealOf : ByteArray := prog_1_method_16_code
def yX4_sealOf : MethodName := ⟨RX4, "sealOf", "(II)I"⟩
abbrev cX4_weight : ByteArray := prog_1_method_17_code
def yX4_weight : MethodName := ⟨RX4, "weight", "(II)I"⟩
abbrev cX4_odds : ByteArray := prog_1_method_18_code
def yX4_odds : MethodName := ⟨RX4, "odds", "(IIII)I"⟩
abbrev cX4_next : ByteArray := prog_1_method_19_code
def yX4_next : MethodName := ⟨RX4, "next", "(II)I"⟩
abbrev cX4_count : ByteArray := prog_1_method_20_code
def yX4_count : MethodName := ⟨RX4, "count", "(II)I"⟩
abbrev cX4_like : ByteArray := prog_1_method_21_code
def yX4_like : MethodName := ⟨RX4, "like", "(I)I"⟩
abbrev cX4_slip : ByteArray := prog_1_method_22_code
def yX4_slip : MethodName := ⟨RX4, "slip", "(I)I"⟩
abbrev cX4_insert : ByteArray := prog_1_method_23_code
def yX4_insert : MethodName := ⟨RX4, "insert", "(III)I"⟩
abbrev cX4_cut : ByteArray := prog_1_method_24_code
def yX4_cut : MethodName := ⟨RX4, "cut", "(III)I"⟩
abbrev cX4_join : ByteArray := prog_1_method_25_code
def yX4_join : MethodName := ⟨RX4, "join", "(II)I"⟩
abbrev cX4_letter : ByteArray := prog_1_method_26_code
def yX4_letter : MethodName := ⟨RX4, "letter", "(II)I"⟩
abbrev cX4_find : ByteArray := prog_1_method_27_code
def yX4_find : MethodName := ⟨RX4, "find", "(II)I"⟩
abbrev cX4_value : ByteArray := prog_1_method_28_code
def yX4_value : MethodName := ⟨RX4, "value", "(I)I"⟩
abbrev cX4_named : ByteArray := prog_1_method_29_code
def yX4_named : MethodName := ⟨RX4, "named", "(I)I"⟩
abbrev cX4_drop : ByteArray := prog_1_method_30_code
def yX4_drop : MethodName := ⟨RX4, "drop", "(I)I"⟩
abbrev cX4_told : ByteArray := prog_1_method_31_code
def yX4_told : MethodName := ⟨RX4, "told", "(I)I"⟩
abbrev cX4_isSeed : ByteArray := prog_1_method_32_code
def yX4_isSeed : MethodName := ⟨RX4, "isSeed", "(I)Z"⟩
abbrev cX4_isSubject : ByteArray := prog_1_method_33_code
def yX4_isSubject : MethodName := ⟨RX4, "isSubject", "(I)Z"⟩
abbrev cX4_isParty : ByteArray := prog_1_method_34_code
def yX4_isParty : MethodName := ⟨RX4, "isParty", "(I)Z"⟩
abbrev cX4_isSlip : ByteArray := prog_1_method_35_code
def yX4_isSlip : MethodName := ⟨RX4, "isSlip", "(I)Z"⟩
abbrev cX4_isDigit : ByteArray := prog_1_method_36_code
def yX4_isDigit : MethodName := ⟨RX4, "isDigit", "(I)Z"⟩
abbrev cX4_isSmallLetter : ByteArray := prog_1_method_37_code
def yX4_isSmallLetter : MethodName := ⟨RX4, "isSmallLetter", "(I)Z"⟩
abbrev cX4_isSlipLetter : ByteArray := prog_1_method_38_code
def yX4_isSlipLetter : MethodName := ⟨RX4, "isSlipLetter", "(I)Z"⟩
abbrev cX4_turned : ByteArray := prog_1_method_39_code
def yX4_turned : MethodName := ⟨RX4, "turned", "(I)I"⟩
abbrev cX4_ruleName : ByteArray := prog_1_method_40_code
def yX4_ruleName : MethodName := ⟨RX4, "ruleName", "(I)Ljava/lang/String;"⟩
abbrev cX4_commonDivisor : ByteArray := prog_1_method_41_code
def yX4_commonDivisor : MethodName := ⟨RX4, "commonDivisor", "(II)I"⟩
abbrev cX4_readText : ByteArray := prog_1_method_42_code
def yX4_readText : MethodName := ⟨RX4, "readText", "()I"⟩
abbrev cX4_forgetKept : ByteArray := prog_1_method_43_code
def yX4_forgetKept : MethodName := ⟨RX4, "forgetKept", "()V"⟩
abbrev cX4_dropAllSlips : ByteArray := prog_1_method_44_code
def yX4_dropAllSlips : MethodName := ⟨RX4, "dropAllSlips", "()V"⟩
abbrev cX4_recountBy : ByteArray := prog_1_method_45_code
def yX4_recountBy : MethodName := ⟨RX4, "recountBy", "(II)I"⟩
abbrev cX4_writeDocket : ByteArray := prog_1_method_46_code
def yX4_writeDocket : MethodName := ⟨RX4, "writeDocket", "()V"⟩
abbrev cX4_lettersOfWriting : ByteArray := prog_1_method_47_code
def yX4_lettersOfWriting : MethodName := ⟨RX4, "lettersOfWriting", "()I"⟩
abbrev cX4_lettersOfSlips : ByteArray := prog_1_method_48_code
def yX4_lettersOfSlips : MethodName := ⟨RX4, "lettersOfSlips", "()I"⟩
def RX5 : String := "CaseWheelModel"
def TX5 : u_T := fun k => match k with
  | 0 => ("CaseWheelModel", "row", "[I", true)
  | 1 => ("CaseWheelModel", "judges", "I", false)
  | 2 => ("CaseWheelModel", "rule", "I", false)
  | 3 => ("CaseWheelModel", "strengths", "[I", true)
  | 4 => ("CaseWheelModel", "versed", "[I", true)
  | 5 => ("CaseWheelModel", "undos", "I", false)
  | 6 => ("CaseWheelModel", "isKept", "[Z", true)
  | 7 => ("CaseWheelModel", "text", "[I", true)
  | 8 => ("CaseWheelModel", "length", "I", false)
  | 9 => ("CaseWheelModel", "sizes", "[I", true)
  | 10 => ("CaseWheelModel", "letters", "[I", true)
  | 11 => ("CaseWheelModel", "first", "I", false)
  | 12 => ("CaseWheelModel", "behind", "I", false)
  | 13 => ("CaseWheelModel", "readJudges", "I", false)
  | 14 => ("CaseWheelModel", "clauses", "I", false)
  | 15 => ("CaseWheelModel", "doing", "Z", false)
  | 16 => ("CaseWheelModel", "numbers", "[I", true)
  | 17 => ("CaseWheelModel", "words", "[I", true)
  | 18 => ("CaseWheelModel", "written", "[I", true)
  | _ => ("CaseWheelModel", "writtenMany", "I", false)
def tyX5 : Nat → FieldType := fun k => match k with
  | 0 => .array .int
  | 1 => .int
  | 2 => .int
  | 3 => .array .int
  | 4 => .array .int
  | 5 => .int
  | 6 => .array .boolean
  | 7 => .array .int
  | 8 => .int
  | 9 => .array .int
  | 10 => .array .int
  | 11 => .int
  | 12 => .int
  | 13 => .int
  | 14 => .int
  | 15 => .boolean
  | 16 => .array .int
  | 17 => .array .int
  | 18 => .array .int
  | _ => .int
theorem nmX5 : ∀ a, a < 20 → ∀ b, b < 20 → a ≠ b → (TX5 a).2.1 ≠ (TX5 b).2.1 := by decide +kernel
theorem tyX5_ok : ∀ k, k < 20 → parseFieldDescriptor (TX5 k).2.2.1 = some (tyX5 k) := by decide +kernel
abbrev cX5_init : ByteArray := prog_7_method_1_code
def yX5_init : MethodName := ⟨RX5, "<init>", "()V"⟩
abbrev cX5_in : ByteArray := prog_7_method_2_code
def yX5_in : MethodName := ⟨RX5, "in", "(JJJ)Z"⟩
abbrev cX5_has : ByteArray := prog_7_method_3_code
def yX5_has : MethodName := ⟨RX5, "has", "(II)Z"⟩
abbrev cX5_copyRow : ByteArray := prog_7_method_4_code
def yX5_copyRow : MethodName := ⟨RX5, "copyRow", "(II)V"⟩
abbrev cX5_anew : ByteArray := prog_7_method_5_code
def yX5_anew : MethodName := ⟨RX5, "anew", "()V"⟩
abbrev cX5_write : ByteArray := prog_7_method_6_code
def yX5_write : MethodName := ⟨RX5, "write", "(I)I"⟩
abbrev cX5_erase : ByteArray := prog_7_method_7_code
def yX5_erase : MethodName := ⟨RX5, "erase", "()I"⟩
abbrev cX5_isSmall : ByteArray := prog_7_method_8_code
def yX5_isSmall : MethodName := ⟨RX5, "isSmall", "(I)Z"⟩
abbrev cX5_isDigit : ByteArray := prog_7_method_9_code
def yX5_isDigit : MethodName := ⟨RX5, "isDigit", "(I)Z"⟩
abbrev cX5_nextToken : ByteArray := prog_7_method_10_code
def yX5_nextToken : MethodName := ⟨RX5, "nextToken", "()V"⟩
abbrev cX5_isWord : ByteArray := prog_7_method_11_code
def yX5_isWord : MethodName := ⟨RX5, "isWord", "(I)Z"⟩
abbrev cX5_wordOf : ByteArray := prog_7_method_12_code
def yX5_wordOf : MethodName := ⟨RX5, "wordOf", "(II)I"⟩
abbrev cX5_number : ByteArray := prog_7_method_13_code
def yX5_number : MethodName := ⟨RX5, "number", "(III)Z"⟩
abbrev cX5_readsVersed : ByteArray := prog_7_method_14_code
def yX5_readsVersed : MethodName := ⟨RX5, "readsVersed", "()Z"⟩
abbrev cX5_readsRule : ByteArray := prog_7_method_15_code
def yX5_readsRule : MethodName := ⟨RX5, "readsRule", "()Z"⟩
abbrev cX5_readsRest : ByteArray := prog_7_method_16_code
def yX5_readsRest : MethodName := ⟨RX5, "readsRest", "(I)Z"⟩
abbrev cX5_does : ByteArray := prog_7_method_17_code
def yX5_does : MethodName := ⟨RX5, "does", "(I)V"⟩
abbrev cX5_readsClause : ByteArray := prog_7_method_18_code
def yX5_readsClause : MethodName := ⟨RX5, "readsClause", "()Z"⟩
abbrev cX5_reads : ByteArray := prog_7_method_19_code
def yX5_reads : MethodName := ⟨RX5, "reads", "(Z)Z"⟩
abbrev cX5_fault : ByteArray := prog_7_method_20_code
def yX5_fault : MethodName := ⟨RX5, "fault", "()I"⟩
abbrev cX5_wheel : ByteArray := prog_7_method_21_code
def yX5_wheel : MethodName := ⟨RX5, "wheel", "()I"⟩
abbrev cX5_isJudge : ByteArray := prog_7_method_22_code
def yX5_isJudge : MethodName := ⟨RX5, "isJudge", "(I)Z"⟩
abbrev cX5_isCase : ByteArray := prog_7_method_23_code
def yX5_isCase : MethodName := ⟨RX5, "isCase", "(I)Z"⟩
abbrev cX5_judge : ByteArray := prog_7_method_24_code
def yX5_judge : MethodName := ⟨RX5, "judge", "(II)I"⟩
abbrev cX5_caseOf : ByteArray := prog_7_method_25_code
def yX5_caseOf : MethodName := ⟨RX5, "caseOf", "(II)I"⟩
abbrev cX5_turned : ByteArray := prog_7_method_26_code
def yX5_turned : MethodName := ⟨RX5, "turned", "(I)I"⟩
abbrev cX5_drawFor : ByteArray := prog_7_method_27_code
def yX5_drawFor : MethodName := ⟨RX5, "drawFor", "(II)I"⟩
abbrev cX5_weightOf : ByteArray := prog_7_method_28_code
def yX5_weightOf : MethodName := ⟨RX5, "weightOf", "(III)I"⟩
abbrev cX5_isBarred : ByteArray := prog_7_method_29_code
def yX5_isBarred : MethodName := ⟨RX5, "isBarred", "(III)Z"⟩
abbrev cX5_isAnyone : ByteArray := prog_7_method_30_code
def yX5_isAnyone : MethodName := ⟨RX5, "isAnyone", "(III)Z"⟩
abbrev cX5_drawOnce : ByteArray := prog_7_method_31_code
def yX5_drawOnce : MethodName := ⟨RX5, "drawOnce", "(II)I"⟩
abbrev cX5_owe : ByteArray := prog_7_method_32_code
def yX5_owe : MethodName := ⟨RX5, "owe", "(II)V"⟩
abbrev cX5_assigned : ByteArray := prog_7_method_33_code
def yX5_assigned : MethodName := ⟨RX5, "assigned", "(III)I"⟩
abbrev cX5_keepPast : ByteArray := prog_7_method_34_code
def yX5_keepPast : MethodName := ⟨RX5, "keepPast", "()V"⟩
abbrev cX5_sealAt : ByteArray := prog_7_method_35_code
def yX5_sealAt : MethodName := ⟨RX5, "sealAt", "(II)V"⟩
abbrev cX5_seal : ByteArray := prog_7_method_36_code
def yX5_seal : MethodName := ⟨RX5, "seal", "(I)I"⟩
abbrev cX5_isSubject : ByteArray := prog_7_method_37_code
def yX5_isSubject : MethodName := ⟨RX5, "isSubject", "(I)Z"⟩
abbrev cX5_isParty : ByteArray := prog_7_method_38_code
def yX5_isParty : MethodName := ⟨RX5, "isParty", "(I)Z"⟩
abbrev cX5_assign : ByteArray := prog_7_method_39_code
def yX5_assign : MethodName := ⟨RX5, "assign", "(II)I"⟩
abbrev cX5_refuse : ByteArray := prog_7_method_40_code
def yX5_refuse : MethodName := ⟨RX5, "refuse", "(I)I"⟩
abbrev cX5_away : ByteArray := prog_7_method_41_code
def yX5_away : MethodName := ⟨RX5, "away", "(II)I"⟩
abbrev cX5_undo : ByteArray := prog_7_method_42_code
def yX5_undo : MethodName := ⟨RX5, "undo", "()I"⟩
abbrev cX5_keep : ByteArray := prog_7_method_43_code
def yX5_keep : MethodName := ⟨RX5, "keep", "(I)I"⟩
abbrev cX5_back : ByteArray := prog_7_method_44_code
def yX5_back : MethodName := ⟨RX5, "back", "(I)I"⟩
abbrev cX5_put : ByteArray := prog_7_method_45_code
def yX5_put : MethodName := ⟨RX5, "put", "(I)V"⟩
abbrev cX5_layWriting : ByteArray := prog_7_method_46_code
def yX5_layWriting : MethodName := ⟨RX5, "layWriting", "()V"⟩
abbrev cX5_writing : ByteArray := prog_7_method_47_code
def yX5_writing : MethodName := ⟨RX5, "writing", "(I)I"⟩
abbrev cX5_sealOf : ByteArray := prog_7_method_48_code
def yX5_sealOf : MethodName := ⟨RX5, "sealOf", "(II)I"⟩
abbrev cX5_weight : ByteArray := prog_7_method_49_code
def yX5_weight : MethodName := ⟨RX5, "weight", "(II)I"⟩
abbrev cX5_odds : ByteArray := prog_7_method_50_code
def yX5_odds : MethodName := ⟨RX5, "odds", "(IIII)I"⟩
abbrev cX5_next : ByteArray := prog_7_method_51_code
def yX5_next : MethodName := ⟨RX5, "next", "(II)I"⟩
abbrev cX5_canCount : ByteArray := prog_7_method_52_code
def yX5_canCount : MethodName := ⟨RX5, "canCount", "()Z"⟩
abbrev cX5_sameBy : ByteArray := prog_7_method_53_code
def yX5_sameBy : MethodName := ⟨RX5, "sameBy", "(I)I"⟩
abbrev cX5_count : ByteArray := prog_7_method_54_code
def yX5_count : MethodName := ⟨RX5, "count", "(II)I"⟩
abbrev cX5_like : ByteArray := prog_7_method_55_code
def yX5_like : MethodName := ⟨RX5, "like", "(I)I"⟩
abbrev cX5_isSlip : ByteArray := prog_7_method_56_code
def yX5_isSlip : MethodName := ⟨RX5, "isSlip", "(I)Z"⟩
abbrev cX5_slip : ByteArray := prog_7_method_57_code
def yX5_slip : MethodName := ⟨RX5, "slip", "(I)I"⟩
abbrev cX5_insert : ByteArray := prog_7_method_58_code
def yX5_insert : MethodName := ⟨RX5, "insert", "(III)I"⟩
abbrev cX5_cut : ByteArray := prog_7_method_59_code
def yX5_cut : MethodName := ⟨RX5, "cut", "(III)I"⟩
abbrev cX5_join : ByteArray := prog_7_method_60_code
def yX5_join : MethodName := ⟨RX5, "join", "(II)I"⟩
abbrev cX5_letter : ByteArray := prog_7_method_61_code
def yX5_letter : MethodName := ⟨RX5, "letter", "(II)I"⟩
abbrev cX5_standsAt : ByteArray := prog_7_method_62_code
def yX5_standsAt : MethodName := ⟨RX5, "standsAt", "(III)Z"⟩
abbrev cX5_find : ByteArray := prog_7_method_63_code
def yX5_find : MethodName := ⟨RX5, "find", "(II)I"⟩
abbrev cX5_value : ByteArray := prog_7_method_64_code
def yX5_value : MethodName := ⟨RX5, "value", "(I)I"⟩
abbrev cX5_named : ByteArray := prog_7_method_65_code
def yX5_named : MethodName := ⟨RX5, "named", "(I)I"⟩
abbrev cX5_drop : ByteArray := prog_7_method_66_code
def yX5_drop : MethodName := ⟨RX5, "drop", "(I)I"⟩
abbrev cX5_allLetters : ByteArray := prog_7_method_67_code
def yX5_allLetters : MethodName := ⟨RX5, "allLetters", "()I"⟩
abbrev cX5_told : ByteArray := prog_7_method_68_code
def yX5_told : MethodName := ⟨RX5, "told", "(I)I"⟩
def RJ9 : String := "java/lang/Math"
abbrev cJ9_max_7cf53 : ByteArray := prog_8_method_65_code
def yJ9_max_7cf53 : MethodName := ⟨RJ9, "max", "(II)I"⟩
abbrev cJ9_min_7cf53 : ByteArray := prog_8_method_69_code
def yJ9_min_7cf53 : MethodName := ⟨RJ9, "min", "(II)I"⟩
def RJ0 : String := "java/lang/String"
abbrev cJ0_length_8abf5 : ByteArray := prog_9_method_54_code
def yJ0_length_8abf5 : MethodName := ⟨RJ0, "length", "()I"⟩
abbrev cJ0_charAt_5068e : ByteArray := prog_9_method_56_code
def yJ0_charAt_5068e : MethodName := ⟨RJ0, "charAt", "(I)C"⟩
abbrev cJ0_coder_7d493 : ByteArray := prog_9_method_152_code
def yJ0_coder_7d493 : MethodName := ⟨RJ0, "coder", "()B"⟩
abbrev cJ0_isLatin1_aae02 : ByteArray := prog_9_method_154_code
def yJ0_isLatin1_aae02 : MethodName := ⟨RJ0, "isLatin1", "()Z"⟩
abbrev cJ0_checkIndex_df160 : ByteArray := prog_9_method_155_code
def yJ0_checkIndex_df160 : MethodName := ⟨RJ0, "checkIndex", "(II)V"⟩
def RJ1 : String := "java/lang/StringLatin1"
abbrev cJ1_charAt_3b067 : ByteArray := prog_10_method_2_code
def yJ1_charAt_3b067 : MethodName := ⟨RJ1, "charAt", "([BI)C"⟩
def RJ2 : String := "java/lang/StringUTF16"
abbrev cJ2_getChar_3b067 : ByteArray := prog_11_method_5_code
def yJ2_getChar_3b067 : MethodName := ⟨RJ2, "getChar", "([BI)C"⟩
abbrev cJ2_length_9d52b : ByteArray := prog_11_method_6_code
def yJ2_length_9d52b : MethodName := ⟨RJ2, "length", "([B)I"⟩
abbrev cJ2_charAt_3b067 : ByteArray := prog_11_method_83_code
def yJ2_charAt_3b067 : MethodName := ⟨RJ2, "charAt", "([BI)C"⟩
abbrev cJ2_checkIndex_2214a : ByteArray := prog_11_method_91_code
def yJ2_checkIndex_2214a : MethodName := ⟨RJ2, "checkIndex", "(I[B)V"⟩
def RJ10 : String := "java/lang/System"
def RJ7 : String := "java/util/Arrays"
abbrev cJ7_fill_53178 : ByteArray := prog_13_method_103_code
def yJ7_fill_53178 : MethodName := ⟨RJ7, "fill", "([II)V"⟩
def RJ3 : String := "jdk/internal/util/Preconditions"
abbrev cJ3_checkIndex_8e157 : ByteArray := prog_14_method_11_code
def yJ3_checkIndex_8e157 : MethodName := ⟨RJ3, "checkIndex", "(IILjava/util/function/BiFunction;)I"⟩
def RL : String := "CaseWheelLaw"
end
section
/-! THE LOGIC OF THIS PROOF: a method that makes no cell, over a world of cells that are numbered: 'EV G μ args hh r hh'' (it returns r, the cells hh become hh'), 'RR' (the same from a place inside it) -/
abbrev GG : Type := Launch × va_G × (ClassId × ClassId × ClassId × ClassId) × (Nat → Nat) × Nat × (Nat → Nat) × (Nat → Nat)
def gl (G : GG) : Launch := G.1
def gD (G : GG) : va_G := G.2.1
def gI (G : GG) : ClassId := G.2.2.1.1
def gZ (G : GG) : ClassId := G.2.2.1.2.1
def gS (G : GG) : ClassId := G.2.2.1.2.2.1
def gL (G : GG) : ClassId := G.2.2.1.2.2.2
def ad (G : GG) : Nat → Nat := G.2.2.2.1
def gn (G : GG) : Nat := G.2.2.2.2.1
def kK (G : GG) : Nat → Nat := G.2.2.2.2.2.1
def kV (G : GG) : Nat → Nat := G.2.2.2.2.2.2
abbrev HH : Type := Nat → va_E
def clsX : List vw_C := [(RX0, TX0, 3), (RX1, TX1, 2), (RX2, TX2, 15), (RX3, TX3, 5), (RX4, TX4, 12), (RX5, TX5, 20)]
def gty (G : GG) : List (ClassId × FieldType) := [(gI G, .int), (gZ G, .boolean), (gS G, .object "CaseWheel$State"), (gL G, .object "CaseWheel$Letters")]
def wd (G : GG) (hh : HH) : va_W := (List.range (gn G)).map (fun i => (ad G i, hh i))
def gA (G : GG) : Nat → Prop := fun q => ∃ i, i < gn G ∧ q = ad G i
def XW : List Cond := lw_tbl.filter goodWord
def nestW : List Cond := [.methodLinkNest "CaseWheel$TextReader" 48 yX4_isSmallLetter "CaseWheel", .methodLinkNest "CaseWheel$TextReader" 51 yX4_isDigit "CaseWheel", .methodLinkNest "CaseWheel$TextReader" 108 yX4_isSubject "CaseWheel", .methodLinkNest "CaseWheel$Letters" 52 yX4_ruleName "CaseWheel", .methodLinkNest "CaseWheel$State" 110 yX4_turned "CaseWheel"]
def strW : List (String × Nat × String) := [("CaseWheel$TextReader", 62, "wheel"), ("CaseWheel$TextReader", 73, "judge"), ("CaseWheel$TextReader", 78, "bar"), ("CaseWheel$TextReader", 83, "away"), ("CaseWheel$TextReader", 88, "rule"), ("CaseWheel", 252, "plain"), ("CaseWheel", 254, "versed"), ("CaseWheel", 255, "owing"), ("CaseWheel", 257, "both")]
def lenS : List Nat := [5, 5, 3, 4, 4, 5, 6, 5, 4]
def bytS : List (List Int32) := [[119, 104, 101, 101, 108], [106, 117, 100, 103, 101], [98, 97, 114], [97, 119, 97, 121], [114, 117, 108, 101], [112, 108, 97, 105, 110], [118, 101, 114, 115, 101, 100], [111, 119, 105, 110, 103], [98, 111, 116, 104]]
/-- what holds of every state that a method of the world begins in, its cells apart -/
def GF (G : GG) (U : State) : Prop := va_K (gD G) clsX (gty G) U ∧ (∀ i j, i < gn G → j < gn G → ad G i = ad G j → i = j) ∧ (∀ w ∈ nestW, va_Nw w U) ∧
  (∀ i q, strW[i]? = some q → vk_R q.1 q.2.1 q.2.2 (kK G i) U) ∧ vk_S 9 lenS bytS (kK G) (kV G) (gA G) U U.heap ∧
  va_Z "java/lang/String" "COMPACT_STRINGS" "Z" (.int 1) (gA G) U U.heap ∧ va_Zq "jdk/internal/util/Preconditions" "SIOOBE_FORMATTER" "Ljava/util/function/BiFunction;" (gA G) U U.heap
abbrev MI : Type := MethodName × ByteArray × Nat × Option FieldType × Nat
def rmH (h : Nat) : Room := { frames := h, cells := 0, slots := 0, locals := 40 * h }
def mcd (μ : MI) : Cond := .code μ.1 μ.2.1 μ.2.2.1 μ.2.2.2.1
def QV (G : GG) (r : Option Value) (hh' : HH) : Array Value → State → Outcome → State → Prop := fun _ st oc t => (oc = .returned r ∧ va_P (gD G) clsX (wd G hh') t.heap) ∧ va_F (gA G) st t
def PV (G : GG) (args : List Value) (hh : HH) : Array Value → State → Prop := fun v U => v = args.toArray ∧ va_P (gD G) clsX (wd G hh) U.heap ∧ GF G U
def EV (G : GG) (μ : MI) (args : List Value) (hh : HH) (r : Option Value) (hh' : HH) : Prop := Met (gl G) μ.1 (mcd μ :: XW) (rmH μ.2.2.2.2) (PV G args hh) (QV G r hh') 0 0 (gA G)
def CX (G : GG) (μ : MI) (p : Program) (s : State) (m : MethodId) (args : Array Value) (meth : Method) (c : Code) : Prop := p.tables.exec = Jvm.exec ∧ c.code = μ.2.1 ∧ meth.sig.returnType = μ.2.2.2.1 ∧ c.maxLocals = μ.2.2.1 ∧ s.vm.findClass μ.1.cls = some m.cls ∧ meth.locks = false ∧ (∀ w ∈ mcd μ :: XW, w.before args s = true) ∧ GF G s
def RR (G : GG) (μ : MI) (pc : Nat) (lv : List (Nat × Value)) (st : List Value) (hh : HH) (r : Option Value) (hh' : HH) : Prop :=
  ∀ (p : Program) (e : Env) (s : State) (m : MethodId) (args : Array Value) (below : List Frame) (meth : Method) (c : Code), CX G μ p s m args meth c → ∀ (H : Heap) (locs : List Loc) (ls : Array Slot), va_P (gD G) clsX (wd G hh) H → va_S (gA G) s.heap H locs → lv_has ls μ.2.2.1 lv →
    W p (gl G) e (rmH μ.2.2.2.2) s m args below meth c H locs 0 0 (MQ below (QV G r hh') args s 0 0 (gA G)) (F0 m pc ls st)
theorem GF.warm {G : GG} {s U : State} {H : Heap} {locs : List Loc} (h : GF G s) (hU : U.heap = H) (hW : s.WarmedH U.vm) (hS : va_S (gA G) s.heap H locs) : GF G U := by
  obtain ⟨h1, h2, h3, h4, h5, h6, h7⟩ := h
  have hal := hW.alike
  refine ⟨va_K.moved hal h1, h2, fun w hw => ?_, fun i q hq => (h4 i q hq).warm hW, ?_, ?_, ?_⟩
  · have hz := h3 w hw
    simp only [nestW, List.mem_cons, List.not_mem_nil, or_false] at hw
    rcases hw with rfl | rfl | rfl | rfl | rfl <;> exact hz.warmM hW
  · rw [hU]; exact (h5.moved hal).kept hS.2.1
  · rw [hU]; exact (h6.moved hal).kept hS.2.1
  · rw [hU]; exact (h7.moved hal).kept hS.2.1
theorem GF.calling {G : GG} {U : State} {g : JFrame} {mk : MethodId} {a : Array Value} (h : GF G U) : GF G (U.calling g mk a) := by
  obtain ⟨h1, h2, h3, h4, h5, h6, h7⟩ := h
  have hal : U.vm.Alike (U.calling g mk a).vm := Vm.Alike.refl U.vm
  refine ⟨va_K.moved hal h1, h2, fun w hw => ?_, fun i q hq => vk_R.same rfl (h4 i q hq), h5.moved hal, h6.moved hal, h7.moved hal⟩
  have hz := h3 w hw
  simp only [nestW, List.mem_cons, List.not_mem_nil, or_false] at hw
  rcases hw with rfl | rfl | rfl | rfl | rfl <;> exact va_Nw.same rfl rfl hz
theorem PV.blind {G : GG} {args : List Value} {hh : HH} : FrameBlind (PV G args hh) := fun _ _ _ _ h => ⟨h.1, h.2.1, h.2.2.calling⟩
theorem wd_get {G : GG} {hh : HH} {k : Nat} (hk : k < gn G) : (wd G hh)[k]? = some (ad G k, hh k) := by simp [wd, hk]
theorem wd_set {G : GG} {hh : HH} {k : Nat} (hk : k < gn G) (e : va_E) : (wd G hh).set k (ad G k, e) = wd G (va_up hh k e) := by
  apply List.ext_getElem?
  intro i
  by_cases hi : i = k
  · subst hi
    rw [wd_get hk]
    simp [wd, hk, va_up]
  · rw [List.getElem?_set_ne (fun h => hi h.symm)]
    by_cases hn : i < gn G
    · rw [wd_get hn, wd_get hn]
      simp [va_up, hi]
    · simp [wd, hn]
theorem GF.D {G : GG} {s : State} (h : GF G s) (hh : HH) : va_D (gA G) (wd G hh) := by
  refine ⟨fun i j x y hi hj hxy => ?_, fun k q hq => ?_⟩
  · have hi' : i < gn G := by
      have := (List.getElem?_eq_some_iff.mp hi).1
      simpa [wd] using this
    have hj' : j < gn G := by
      have := (List.getElem?_eq_some_iff.mp hj).1
      simpa [wd] using this
    rw [wd_get hi'] at hi
    rw [wd_get hj'] at hj
    cases hi; cases hj
    exact h.2.1 i j hi' hj' hxy
  · have hk' : k < gn G := by
      have := (List.getElem?_eq_some_iff.mp hq).1
      simpa [wd] using this
    rw [wd_get hk'] at hq
    cases hq
    exact ⟨k, hk', rfl⟩
/-- the cell k -/
def hAt (G : GG) (hh : HH) (k : Nat) (e : va_E) : Prop := k < gn G ∧ hh k = e
theorem hAt.get {G : GG} {hh : HH} {k : Nat} {e : va_E} (h : hAt G hh k e) : (wd G hh)[k]? = some (ad G k, e) := by rw [← h.2]; exact wd_get h.1
theorem hAt.up {G : GG} {hh : HH} {k : Nat} {e : va_E} (h : k < gn G) : hAt G (va_up hh k e) k e := ⟨h, by simp [va_up]⟩
theorem hAt.ne {G : GG} {hh : HH} {k j : Nat} {e e' : va_E} (h : hAt G hh k e) (hn : k ≠ j) : hAt G (va_up hh j e') k e := ⟨h.1, by simp [va_up, hn, h.2]⟩
/-- a method out of its body -/
theorem EV.of {G : GG} {μ : MI} {args : List Value} {hh hh' : HH} {r : Option Value} (lv : List (Nat × Value)) (hy : plainName μ.1.cls = true) (hn : (lg_sl args).length ≤ μ.2.2.1) (hl : lv_args 0 args = lv) (k : RR G μ 0 lv [] hh r hh') : EV G μ args hh r hh' := by
  subst hl
  refine Met.ofW (cc := μ.2.1) (maxL := μ.2.2.1) (ret := μ.2.2.2.1) hy rfl ?_
  intro p e s m args' below meth c s₁ B hml hv
  obtain ⟨rfl, hP, hG⟩ := hv
  have hts := atoms_spec (ws := mcd μ :: XW) B.pre
  have hown : s.vm.findClass μ.1.cls = some m.cls := findClass_of_methodNamed B.named
  rw [lg_entry_eq]
  exact k p e s m _ below meth c ⟨B.exec, B.bytes, B.returns, hml, hown, B.notSynchronized, hts, hG⟩ s.heap [] _ hP va_S.rf (lv_entry args hn)
/-! locals -/
def lvGet (lv : List (Nat × Value)) (i : Nat) : Option Value := (lv.find? (fun q => q.1 == i)).map (fun q => q.2)
def lvPut (lv : List (Nat × Value)) (i : Nat) (v : Value) : List (Nat × Value) := (i, v) :: lv.filter (fun q => !(q.1 == i) && !(q.1 + 1 == i && q.2.category == 2))
def lvPutL (lv : List (Nat × Value)) (i : Nat) (v : Value) : List (Nat × Value) := (i, v) :: lv.filter (fun q => !(q.1 == i) && (!(q.1 == i + 1) && !(q.1 + 1 == i && q.2.category == 2)))
theorem lvGet_has {ls : Array Slot} {nL : Nat} {lv : List (Nat × Value)} {i : Nat} {v : Value} (h : lv_has ls nL lv) (hg : lvGet lv i = some v) : ls[i]? = some (.val v) := by
  unfold lvGet at hg
  cases hf : lv.find? (fun q => q.1 == i) with
  | none => rw [hf] at hg; cases hg
  | some q =>
    rw [hf] at hg
    have h1 := List.find?_some hf
    have h2 := List.mem_of_find?_eq_some hf
    have h3 := h.2.2 q h2
    have e1 : q.1 = i := by simpa using h1
    have e2 : q.2 = v := by simpa using hg
    rw [e1, e2] at h3
    exact h3
theorem lvGet_mem {lv : List (Nat × Value)} {i : Nat} {v : Value} (hg : lvGet lv i = some v) : ∃ k : Nat, lv[k]? = some (i, v) := by
  unfold lvGet at hg
  cases hf : lv.find? (fun q => q.1 == i) with
  | none => rw [hf] at hg; cases hg
  | some q =>
    rw [hf] at hg
    have h1 := List.find?_some hf
    have h2 := List.mem_of_find?_eq_some hf
    have e1 : q.1 = i := by simpa using h1
    have e2 : q.2 = v := by simpa using hg
    obtain ⟨k, hk⟩ := List.getElem?_of_mem h2
    refine ⟨k, ?_⟩
    rw [hk, ← e1, ← e2]
end
section
section Rules
variable {G : GG} {μ : MI} {pc : Nat} {lv : List (Nat × Value)} {st : List Value} {hh hh' : HH} {r : Option Value}
theorem R_iconst {n : Int} {v : Int32} (hd : decode μ.2.1 pc = .ok (.iconst n, 1)) (hv : Int32.ofInt n = v) (k : RR G μ (pc + 1) lv (.int v :: st) hh r hh') : RR G μ pc lv (st) hh r hh' := fun p e s m args below meth c C H locs ls hP hS hl => lv_iconst C.1 C.2.1 hd hv (k p e s m args below meth c C H locs ls hP hS hl)
theorem R_bipush {n : Int} {v : Int32} (hd : decode μ.2.1 pc = .ok (.bipush n, 2)) (hv : (Int8.ofInt n).toInt32 = v) (k : RR G μ (pc + 2) lv (.int v :: st) hh r hh') : RR G μ pc lv (st) hh r hh' := fun p e s m args below meth c C H locs ls hP hS hl => lv_bipush C.1 C.2.1 hd hv (k p e s m args below meth c C H locs ls hP hS hl)
theorem R_sipush {n : Int} {v : Int32} (hd : decode μ.2.1 pc = .ok (.sipush n, 3)) (hv : (Int16.ofInt n).toInt32 = v) (k : RR G μ (pc + 3) lv (.int v :: st) hh r hh') : RR G μ pc lv (st) hh r hh' := fun p e s m args below meth c C H locs ls hP hS hl => lv_sipush C.1 C.2.1 hd hv (k p e s m args below meth c C H locs ls hP hS hl)
theorem R_lconst {n : Fin 2} {v : Int64} (hd : decode μ.2.1 pc = .ok (.lconst n, 1)) (hv : Int64.ofNat (n : Nat) = v) (k : RR G μ (pc + 1) lv (.long v :: st) hh r hh') : RR G μ pc lv (st) hh r hh' := fun p e s m args below meth c C H locs ls hP hS hl => lv_lconst C.1 C.2.1 hd hv (k p e s m args below meth c C H locs ls hP hS hl)
theorem R_iload_n {i : Fin 4} {x : Int32} (hd : decode μ.2.1 pc = .ok (.iload_n i, 1)) (hg : lvGet lv (i : Nat) = some (.int x)) (k : RR G μ (pc + 1) lv (.int x :: st) hh r hh') : RR G μ pc lv (st) hh r hh' := fun p e s m args below meth c C H locs ls hP hS hl => lv_iload_n C.1 C.2.1 hd rfl (lvGet_has hl hg) (k p e s m args below meth c C H locs ls hP hS hl)
theorem R_iload {i : Nat} {x : Int32} (hd : decode μ.2.1 pc = .ok (.iload i, 2)) (hg : lvGet lv i = some (.int x)) (k : RR G μ (pc + 2) lv (.int x :: st) hh r hh') : RR G μ pc lv (st) hh r hh' := fun p e s m args below meth c C H locs ls hP hS hl => lv_iload C.1 C.2.1 hd (lvGet_has hl hg) (k p e s m args below meth c C H locs ls hP hS hl)
theorem R_lload_n {i : Fin 4} {x : Int64} (hd : decode μ.2.1 pc = .ok (.lload_n i, 1)) (hg : lvGet lv (i : Nat) = some (.long x)) (k : RR G μ (pc + 1) lv (.long x :: st) hh r hh') : RR G μ pc lv (st) hh r hh' := fun p e s m args below meth c C H locs ls hP hS hl => lv_lload_n C.1 C.2.1 hd rfl (lvGet_has hl hg) (k p e s m args below meth c C H locs ls hP hS hl)
theorem R_lload {i : Nat} {x : Int64} (hd : decode μ.2.1 pc = .ok (.lload i, 2)) (hg : lvGet lv i = some (.long x)) (k : RR G μ (pc + 2) lv (.long x :: st) hh r hh') : RR G μ pc lv (st) hh r hh' := fun p e s m args below meth c C H locs ls hP hS hl => lv_lload C.1 C.2.1 hd (lvGet_has hl hg) (k p e s m args below meth c C H locs ls hP hS hl)
theorem R_aload_n {i : Fin 4} {x : Nat} (hd : decode μ.2.1 pc = .ok (.aload_n i, 1)) (hg : lvGet lv (i : Nat) = some (.ref x)) (k : RR G μ (pc + 1) lv (.ref x :: st) hh r hh') : RR G μ pc lv (st) hh r hh' := fun p e s m args below meth c C H locs ls hP hS hl => lv_aload_n C.1 C.2.1 hd rfl (lvGet_has hl hg) (k p e s m args below meth c C H locs ls hP hS hl)
theorem R_aload {i : Nat} {x : Nat} (hd : decode μ.2.1 pc = .ok (.aload i, 2)) (hg : lvGet lv i = some (.ref x)) (k : RR G μ (pc + 2) lv (.ref x :: st) hh r hh') : RR G μ pc lv (st) hh r hh' := fun p e s m args below meth c C H locs ls hP hS hl => lv_aload C.1 C.2.1 hd (lvGet_has hl hg) (k p e s m args below meth c C H locs ls hP hS hl)
theorem R_iadd {x y : Int32} (hd : decode μ.2.1 pc = .ok (.iadd, 1)) (k : RR G μ (pc + 1) lv (.int (x + y) :: st) hh r hh') : RR G μ pc lv (.int y :: .int x :: st) hh r hh' := fun p e s m args below meth c C H locs ls hP hS hl => lv_iadd C.1 C.2.1 hd (k p e s m args below meth c C H locs ls hP hS hl)
theorem R_isub {x y : Int32} (hd : decode μ.2.1 pc = .ok (.isub, 1)) (k : RR G μ (pc + 1) lv (.int (x - y) :: st) hh r hh') : RR G μ pc lv (.int y :: .int x :: st) hh r hh' := fun p e s m args below meth c C H locs ls hP hS hl => lv_isub C.1 C.2.1 hd (k p e s m args below meth c C H locs ls hP hS hl)
theorem R_imul {x y : Int32} (hd : decode μ.2.1 pc = .ok (.imul, 1)) (k : RR G μ (pc + 1) lv (.int (x * y) :: st) hh r hh') : RR G μ pc lv (.int y :: .int x :: st) hh r hh' := fun p e s m args below meth c C H locs ls hP hS hl => lv_imul C.1 C.2.1 hd (k p e s m args below meth c C H locs ls hP hS hl)
theorem R_iand {x y : Int32} (hd : decode μ.2.1 pc = .ok (.iand, 1)) (k : RR G μ (pc + 1) lv (.int (x &&& y) :: st) hh r hh') : RR G μ pc lv (.int y :: .int x :: st) hh r hh' := fun p e s m args below meth c C H locs ls hP hS hl => lv_iand C.1 C.2.1 hd (k p e s m args below meth c C H locs ls hP hS hl)
theorem R_ior {x y : Int32} (hd : decode μ.2.1 pc = .ok (.ior, 1)) (k : RR G μ (pc + 1) lv (.int (x ||| y) :: st) hh r hh') : RR G μ pc lv (.int y :: .int x :: st) hh r hh' := fun p e s m args below meth c C H locs ls hP hS hl => lv_ior C.1 C.2.1 hd (k p e s m args below meth c C H locs ls hP hS hl)
theorem R_ixor {x y : Int32} (hd : decode μ.2.1 pc = .ok (.ixor, 1)) (k : RR G μ (pc + 1) lv (.int (x ^^^ y) :: st) hh r hh') : RR G μ pc lv (.int y :: .int x :: st) hh r hh' := fun p e s m args below meth c C H locs ls hP hS hl => lv_ixor C.1 C.2.1 hd (k p e s m args below meth c C H locs ls hP hS hl)
theorem R_ishl {x y : Int32} (hd : decode μ.2.1 pc = .ok (.ishl, 1)) (k : RR G μ (pc + 1) lv (.int (x <<< (y &&& 31)) :: st) hh r hh') : RR G μ pc lv (.int y :: .int x :: st) hh r hh' := fun p e s m args below meth c C H locs ls hP hS hl => lv_ishl C.1 C.2.1 hd (k p e s m args below meth c C H locs ls hP hS hl)
theorem R_ishr {x y : Int32} (hd : decode μ.2.1 pc = .ok (.ishr, 1)) (k : RR G μ (pc + 1) lv (.int (x >>> (y &&& 31)) :: st) hh r hh') : RR G μ pc lv (.int y :: .int x :: st) hh r hh' := fun p e s m args below meth c C H locs ls hP hS hl => lv_ishr C.1 C.2.1 hd (k p e s m args below meth c C H locs ls hP hS hl)
theorem R_idiv {x y : Int32} (hd : decode μ.2.1 pc = .ok (.idiv, 1)) (hne : ¬ y = 0) (k : RR G μ (pc + 1) lv (.int (x / y) :: st) hh r hh') : RR G μ pc lv (.int y :: .int x :: st) hh r hh' := fun p e s m args below meth c C H locs ls hP hS hl => lv_idiv C.1 C.2.1 hd hne (k p e s m args below meth c C H locs ls hP hS hl)
theorem R_irem {x y : Int32} (hd : decode μ.2.1 pc = .ok (.irem, 1)) (hne : ¬ y = 0) (k : RR G μ (pc + 1) lv (.int (x - x / y * y) :: st) hh r hh') : RR G μ pc lv (.int y :: .int x :: st) hh r hh' := fun p e s m args below meth c C H locs ls hP hS hl => lv_irem C.1 C.2.1 hd hne (k p e s m args below meth c C H locs ls hP hS hl)
theorem R_iushr {x y : Int32} (hd : decode μ.2.1 pc = .ok (.iushr, 1)) (k : RR G μ (pc + 1) lv (.int ((x.toUInt32 >>> (y.toUInt32 &&& Int32.toUInt32 31)).toInt32) :: st) hh r hh') : RR G μ pc lv (.int y :: .int x :: st) hh r hh' := fun p e s m args below meth c C H locs ls hP hS hl => lv_iushr C.1 C.2.1 hd rfl (k p e s m args below meth c C H locs ls hP hS hl)
theorem R_i2l {x : Int32} (hd : decode μ.2.1 pc = .ok (.i2l, 1)) (k : RR G μ (pc + 1) lv (.long x.toInt64 :: st) hh r hh') : RR G μ pc lv (.int x :: st) hh r hh' := fun p e s m args below meth c C H locs ls hP hS hl => lv_i2l C.1 C.2.1 hd rfl (k p e s m args below meth c C H locs ls hP hS hl)
theorem R_lmul {x y : Int64} (hd : decode μ.2.1 pc = .ok (.lmul, 1)) (k : RR G μ (pc + 1) lv (.long (x * y) :: st) hh r hh') : RR G μ pc lv (.long y :: .long x :: st) hh r hh' := fun p e s m args below meth c C H locs ls hP hS hl => lv_lmul C.1 C.2.1 hd (k p e s m args below meth c C H locs ls hP hS hl)
theorem R_ldiv {x y : Int64} (hd : decode μ.2.1 pc = .ok (.ldiv, 1)) (hne : ¬ y = 0) (k : RR G μ (pc + 1) lv (.long (x / y) :: st) hh r hh') : RR G μ pc lv (.long y :: .long x :: st) hh r hh' := fun p e s m args below meth c C H locs ls hP hS hl => lv_ldiv C.1 C.2.1 hd hne (k p e s m args below meth c C H locs ls hP hS hl)
theorem R_lcmp {x y : Int64} (hd : decode μ.2.1 pc = .ok (.lcmp, 1)) (k : RR G μ (pc + 1) lv (.int (lg_cmp x y) :: st) hh r hh') : RR G μ pc lv (.long y :: .long x :: st) hh r hh' := fun p e s m args below meth c C H locs ls hP hS hl => W.lcmp C.1 C.2.1 hd (k p e s m args below meth c C H locs ls hP hS hl)
theorem R_dup {v : Value} (hd : decode μ.2.1 pc = .ok (.dup, 1)) (hc : v.category = 1) (k : RR G μ (pc + 1) lv (v :: v :: st) hh r hh') : RR G μ pc lv (v :: st) hh r hh' := fun p e s m args below meth c C H locs ls hP hS hl => lv_dup C.1 C.2.1 hd hc (k p e s m args below meth c C H locs ls hP hS hl)
theorem R_dup2 {v w : Value} (hd : decode μ.2.1 pc = .ok (.dup2, 1)) (hc : v.category = 1) (hc2 : w.category = 1) (k : RR G μ (pc + 1) lv (v :: w :: v :: w :: st) hh r hh') : RR G μ pc lv (v :: w :: st) hh r hh' := fun p e s m args below meth c C H locs ls hP hS hl => lv_dup2_11 C.1 C.2.1 hd hc hc2 (k p e s m args below meth c C H locs ls hP hS hl)
theorem R_pop {v : Value} (hd : decode μ.2.1 pc = .ok (.pop, 1)) (hc : v.category = 1) (k : RR G μ (pc + 1) lv (st) hh r hh') : RR G μ pc lv (v :: st) hh r hh' := fun p e s m args below meth c C H locs ls hP hS hl => lv_pop C.1 C.2.1 hd hc (k p e s m args below meth c C H locs ls hP hS hl)
theorem R_istore_n {i : Fin 4} {x : Int32} (hd : decode μ.2.1 pc = .ok (.istore_n i, 1)) (hi : (i : Nat) < μ.2.2.1) (k : RR G μ (pc + 1) (lvPut lv (i : Nat) (.int x)) st hh r hh') : RR G μ pc lv (.int x :: st) hh r hh' := fun p e s m args below meth c C H locs ls hP hS hl => lv_istore_n C.1 C.2.1 hd rfl hl hi rfl (fun ls' hl' => k p e s m args below meth c C H locs ls' hP hS hl')
theorem R_astore_n {i : Fin 4} {x : Nat} (hd : decode μ.2.1 pc = .ok (.astore_n i, 1)) (hi : (i : Nat) < μ.2.2.1) (k : RR G μ (pc + 1) (lvPut lv (i : Nat) (.ref x)) st hh r hh') : RR G μ pc lv (.ref x :: st) hh r hh' := fun p e s m args below meth c C H locs ls hP hS hl => lv_astore_n C.1 C.2.1 hd rfl hl hi rfl (fun ls' hl' => k p e s m args below meth c C H locs ls' hP hS hl')
theorem R_istore {i : Nat} {x : Int32} (hd : decode μ.2.1 pc = .ok (.istore i, 2)) (hi : i < μ.2.2.1) (k : RR G μ (pc + 2) (lvPut lv i (.int x)) st hh r hh') : RR G μ pc lv (.int x :: st) hh r hh' := fun p e s m args below meth c C H locs ls hP hS hl => lv_istore C.1 C.2.1 hd hl hi rfl (fun ls' hl' => k p e s m args below meth c C H locs ls' hP hS hl')
theorem R_lstore_n {i : Fin 4} {x : Int64} (hd : decode μ.2.1 pc = .ok (.lstore_n i, 1)) (hi : (i : Nat) + 1 < μ.2.2.1) (k : RR G μ (pc + 1) (lvPutL lv (i : Nat) (.long x)) st hh r hh') : RR G μ pc lv (.long x :: st) hh r hh' := fun p e s m args below meth c C H locs ls hP hS hl => lv_lstore_n C.1 C.2.1 hd rfl hl hi rfl (fun ls' hl' => k p e s m args below meth c C H locs ls' hP hS hl')
theorem R_iinc {i : Nat} {n : Int} {x : Int32} (hd : decode μ.2.1 pc = .ok (.iinc i n, 3)) (hg : lvGet lv i = some (.int x)) (hi : i < μ.2.2.1) (k : RR G μ (pc + 3) (lvPut lv i (.int (x + Int32.ofInt n))) st hh r hh') : RR G μ pc lv st hh r hh' := fun p e s m args below meth c C H locs ls hP hS hl => by
  obtain ⟨j, hj⟩ := lvGet_mem hg
  exact lv_iinc C.1 C.2.1 hd hl hj rfl hi rfl (fun ls' hl' => k p e s m args below meth c C H locs ls' hP hS hl')
theorem R_if_eq {x : Int32} {off : Int} {tgt : Nat} (hd : decode μ.2.1 pc = .ok (.ifCond .eq off, 3)) (ht : (pc : Int) + off = (tgt : Int)) (kt : x = 0 → RR G μ tgt lv st hh r hh') (kf : ¬ (x = 0) → RR G μ (pc + 3) lv st hh r hh') : RR G μ pc lv (.int x :: st) hh r hh' := fun p e s m args below meth c C H locs ls hP hS hl => lv_if_eq C.1 C.2.1 hd ht (fun q => kt q p e s m args below meth c C H locs ls hP hS hl) (fun q => kf q p e s m args below meth c C H locs ls hP hS hl)
theorem R_if_ne {x : Int32} {off : Int} {tgt : Nat} (hd : decode μ.2.1 pc = .ok (.ifCond .ne off, 3)) (ht : (pc : Int) + off = (tgt : Int)) (kt : ¬ x = 0 → RR G μ tgt lv st hh r hh') (kf : ¬ (¬ x = 0) → RR G μ (pc + 3) lv st hh r hh') : RR G μ pc lv (.int x :: st) hh r hh' := fun p e s m args below meth c C H locs ls hP hS hl => lv_if_ne C.1 C.2.1 hd ht (fun q => kt q p e s m args below meth c C H locs ls hP hS hl) (fun q => kf (fun z => z q) p e s m args below meth c C H locs ls hP hS hl)
theorem R_if_lt {x : Int32} {off : Int} {tgt : Nat} (hd : decode μ.2.1 pc = .ok (.ifCond .lt off, 3)) (ht : (pc : Int) + off = (tgt : Int)) (kt : x < 0 → RR G μ tgt lv st hh r hh') (kf : ¬ (x < 0) → RR G μ (pc + 3) lv st hh r hh') : RR G μ pc lv (.int x :: st) hh r hh' := fun p e s m args below meth c C H locs ls hP hS hl => lv_if_lt C.1 C.2.1 hd ht (fun q => kt q p e s m args below meth c C H locs ls hP hS hl) (fun q => kf q p e s m args below meth c C H locs ls hP hS hl)
theorem R_if_ge {x : Int32} {off : Int} {tgt : Nat} (hd : decode μ.2.1 pc = .ok (.ifCond .ge off, 3)) (ht : (pc : Int) + off = (tgt : Int)) (kt : 0 ≤ x → RR G μ tgt lv st hh r hh') (kf : ¬ (0 ≤ x) → RR G μ (pc + 3) lv st hh r hh') : RR G μ pc lv (.int x :: st) hh r hh' := fun p e s m args below meth c C H locs ls hP hS hl => lv_if_ge C.1 C.2.1 hd ht (fun q => kt q p e s m args below meth c C H locs ls hP hS hl) (fun q => kf q p e s m args below meth c C H locs ls hP hS hl)
theorem R_if_gt {x : Int32} {off : Int} {tgt : Nat} (hd : decode μ.2.1 pc = .ok (.ifCond .gt off, 3)) (ht : (pc : Int) + off = (tgt : Int)) (kt : 0 < x → RR G μ tgt lv st hh r hh') (kf : ¬ (0 < x) → RR G μ (pc + 3) lv st hh r hh') : RR G μ pc lv (.int x :: st) hh r hh' := fun p e s m args below meth c C H locs ls hP hS hl => lv_if_gt C.1 C.2.1 hd ht (fun q => kt q p e s m args below meth c C H locs ls hP hS hl) (fun q => kf q p e s m args below meth c C H locs ls hP hS hl)
theorem R_if_le {x : Int32} {off : Int} {tgt : Nat} (hd : decode μ.2.1 pc = .ok (.ifCond .le off, 3)) (ht : (pc : Int) + off = (tgt : Int)) (kt : x ≤ 0 → RR G μ tgt lv st hh r hh') (kf : ¬ (x ≤ 0) → RR G μ (pc + 3) lv st hh r hh') : RR G μ pc lv (.int x :: st) hh r hh' := fun p e s m args below meth c C H locs ls hP hS hl => lv_if_le C.1 C.2.1 hd ht (fun q => kt q p e s m args below meth c C H locs ls hP hS hl) (fun q => kf q p e s m args below meth c C H locs ls hP hS hl)
theorem R_icmp_eq {x y : Int32} {off : Int} {tgt : Nat} (hd : decode μ.2.1 pc = .ok (.if_icmp .eq off, 3)) (ht : (pc : Int) + off = (tgt : Int)) (kt : x = y → RR G μ tgt lv st hh r hh') (kf : ¬ (x = y) → RR G μ (pc + 3) lv st hh r hh') : RR G μ pc lv (.int y :: .int x :: st) hh r hh' := fun p e s m args below meth c C H locs ls hP hS hl => lv_icmp_eq C.1 C.2.1 hd ht (fun q => kt q p e s m args below meth c C H locs ls hP hS hl) (fun q => kf q p e s m args below meth c C H locs ls hP hS hl)
theorem R_icmp_ne {x y : Int32} {off : Int} {tgt : Nat} (hd : decode μ.2.1 pc = .ok (.if_icmp .ne off, 3)) (ht : (pc : Int) + off = (tgt : Int)) (kt : ¬ x = y → RR G μ tgt lv st hh r hh') (kf : ¬ (¬ x = y) → RR G μ (pc + 3) lv st hh r hh') : RR G μ pc lv (.int y :: .int x :: st) hh r hh' := fun p e s m args below meth c C H locs ls hP hS hl => lv_icmp_ne C.1 C.2.1 hd ht (fun q => kt q p e s m args below meth c C H locs ls hP hS hl) (fun q => kf (fun z => z q) p e s m args below meth c C H locs ls hP hS hl)
theorem R_icmp_lt {x y : Int32} {off : Int} {tgt : Nat} (hd : decode μ.2.1 pc = .ok (.if_icmp .lt off, 3)) (ht : (pc : Int) + off = (tgt : Int)) (kt : x < y → RR G μ tgt lv st hh r hh') (kf : ¬ (x < y) → RR G μ (pc + 3) lv st hh r hh') : RR G μ pc lv (.int y :: .int x :: st) hh r hh' := fun p e s m args below meth c C H locs ls hP hS hl => lv_icmp_lt C.1 C.2.1 hd ht (fun q => kt q p e s m args below meth c C H locs ls hP hS hl) (fun q => kf q p e s m args below meth c C H locs ls hP hS hl)
theorem R_icmp_ge {x y : Int32} {off : Int} {tgt : Nat} (hd : decode μ.2.1 pc = .ok (.if_icmp .ge off, 3)) (ht : (pc : Int) + off = (tgt : Int)) (kt : y ≤ x → RR G μ tgt lv st hh r hh') (kf : ¬ (y ≤ x) → RR G μ (pc + 3) lv st hh r hh') : RR G μ pc lv (.int y :: .int x :: st) hh r hh' := fun p e s m args below meth c C H locs ls hP hS hl => lv_icmp_ge C.1 C.2.1 hd ht (fun q => kt q p e s m args below meth c C H locs ls hP hS hl) (fun q => kf q p e s m args below meth c C H locs ls hP hS hl)
theorem R_icmp_gt {x y : Int32} {off : Int} {tgt : Nat} (hd : decode μ.2.1 pc = .ok (.if_icmp .gt off, 3)) (ht : (pc : Int) + off = (tgt : Int)) (kt : y < x → RR G μ tgt lv st hh r hh') (kf : ¬ (y < x) → RR G μ (pc + 3) lv st hh r hh') : RR G μ pc lv (.int y :: .int x :: st) hh r hh' := fun p e s m args below meth c C H locs ls hP hS hl => lv_icmp_gt C.1 C.2.1 hd ht (fun q => kt q p e s m args below meth c C H locs ls hP hS hl) (fun q => kf q p e s m args below meth c C H locs ls hP hS hl)
theorem R_icmp_le {x y : Int32} {off : Int} {tgt : Nat} (hd : decode μ.2.1 pc = .ok (.if_icmp .le off, 3)) (ht : (pc : Int) + off = (tgt : Int)) (kt : x ≤ y → RR G μ tgt lv st hh r hh') (kf : ¬ (x ≤ y) → RR G μ (pc + 3) lv st hh r hh') : RR G μ pc lv (.int y :: .int x :: st) hh r hh' := fun p e s m args below meth c C H locs ls hP hS hl => lv_icmp_le C.1 C.2.1 hd ht (fun q => kt q p e s m args below meth c C H locs ls hP hS hl) (fun q => kf q p e s m args below meth c C H locs ls hP hS hl)
theorem R_goto {off : Int} {tgt : Nat} (hd : decode μ.2.1 pc = .ok (.goto off, 3)) (ht : (pc : Int) + off = (tgt : Int)) (k : RR G μ tgt lv st hh r hh') : RR G μ pc lv st hh r hh' := fun p e s m args below meth c C H locs ls hP hS hl => lv_goto C.1 C.2.1 hd ht (k p e s m args below meth c C H locs ls hP hS hl)
theorem R_tabOut {dflt lo hi : Int} {offs : Array Int} {len : Nat} {x : Int32} {tgt : Nat} (hd : decode μ.2.1 pc = .ok (.tableswitch dflt lo hi offs, len)) (h : x.toInt < lo ∨ hi < x.toInt) (ht : (pc : Int) + dflt = (tgt : Int)) (k : RR G μ tgt lv st hh r hh') : RR G μ pc lv (.int x :: st) hh r hh' := fun p e s m args below meth c C H locs ls hP hS hl => lv_tableOut C.1 C.2.1 hd h ht (k p e s m args below meth c C H locs ls hP hS hl)
theorem R_tabIn {dflt lo hi : Int} {offs : Array Int} {len : Nat} {x : Int32} {off : Int} {tgt : Nat} (hd : decode μ.2.1 pc = .ok (.tableswitch dflt lo hi offs, len)) (h1 : ¬ x.toInt < lo) (h2 : ¬ hi < x.toInt) (ho : offs[(x.toInt - lo).toNat]? = some off) (ht : (pc : Int) + off = (tgt : Int)) (k : RR G μ tgt lv st hh r hh') : RR G μ pc lv (.int x :: st) hh r hh' := fun p e s m args below meth c C H locs ls hP hS hl => lv_tableIn C.1 C.2.1 hd h1 h2 ho ht (k p e s m args below meth c C H locs ls hP hS hl)
theorem R_ldc {index : Nat} {v : Int32} (hd : decode μ.2.1 pc = .ok (.ldc index, 2)) (hw : Cond.constant μ.1.cls index v ∈ XW) (k : RR G μ (pc + 2) lv (.int v :: st) hh r hh') : RR G μ pc lv st hh r hh' := fun p e s m args below meth c C H locs ls hP hS hl => lv_ldc C.1 C.2.1 C.2.2.2.2.1 (C.2.2.2.2.2.2.1 _ (List.mem_cons_of_mem _ hw)) hd (k p e s m args below meth c C H locs ls hP hS hl)
theorem R_ldc2 {index : Nat} {v : Int64} (hd : decode μ.2.1 pc = .ok (.ldc2_w index, 3)) (hw : Cond.constantLong μ.1.cls index v ∈ XW) (k : RR G μ (pc + 3) lv (.long v :: st) hh r hh') : RR G μ pc lv st hh r hh' := fun p e s m args below meth c C H locs ls hP hS hl => lv_ldc2 C.1 C.2.1 C.2.2.2.2.1 (C.2.2.2.2.2.2.1 _ (List.mem_cons_of_mem _ hw)) hd (k p e s m args below meth c C H locs ls hP hS hl)
theorem R_ldcS {index i : Nat} {tx : String} (hd : decode μ.2.1 pc = .ok (.ldc index, 2)) (hw : strW[i]? = some (μ.1.cls, index, tx)) (k : RR G μ (pc + 2) lv (.ref (kK G i) :: st) hh r hh') : RR G μ pc lv st hh r hh' := fun p e s m args below meth c C H locs ls hP hS hl => va_ldcS C.1 C.2.1 C.2.2.2.2.1 (C.2.2.2.2.2.2.2.2.2.2.1 i _ hw) hd (k p e s m args below meth c C H locs ls hP hS hl)
/-- a field of a class of the world, as own's entry idx names it -/
def gfOK (own : String) (idx ci f : Nat) : Prop := ∃ q : vw_C, clsX[ci]? = some q ∧ (∀ w ∈ u_ws q.1 q.2.1 q.2.2, w ∈ XW) ∧ f < q.2.2 ∧ Cond.fieldLink own idx (q.2.1 f).1 (q.2.1 f).2.1 (q.2.1 f).2.2.1 ∈ XW
def pfOK (own : String) (idx ci f : Nat) (ty : FieldType) : Prop := ∃ q : vw_C, clsX[ci]? = some q ∧ (∀ w ∈ u_ws q.1 q.2.1 q.2.2, w ∈ XW) ∧ f < q.2.2 ∧ Cond.fieldLink own idx (q.2.1 f).1 (q.2.1 f).2.1 (q.2.1 f).2.2.1 ∈ XW ∧ (q.2.1 f).2.2.2 = false ∧ parseFieldDescriptor (q.2.1 f).2.2.1 = some ty ∧ (∀ a, a < q.2.2 → ∀ b, b < q.2.2 → a ≠ b → (q.2.1 a).2.1 ≠ (q.2.1 b).2.1) ∧ ∃ ty0 : Nat → FieldType, ∀ k, k < q.2.2 → parseFieldDescriptor (q.2.1 k).2.2.1 = some (ty0 k)
theorem R_get {idx ci f k : Nat} {fs : List Value} {v : Value} (hd : decode μ.2.1 pc = .ok (.getfield idx, 3)) (hw : gfOK μ.1.cls idx ci f) (ha : hAt G hh k (.inr (ci, fs))) (hv : fs[f]? = some v) (k1 : RR G μ (pc + 3) lv (v :: st) hh r hh') : RR G μ pc lv (.ref (ad G k) :: st) hh r hh' := fun p e s m args below meth c C H locs ls hP hS hl => by
  obtain ⟨⟨Cn, T, N⟩, hc, hin, hf, hlk⟩ := hw
  obtain ⟨hx, hb, hr, hml, hown, hlocks, hts, hG⟩ := id C
  exact va_get (Ts := mcd μ :: XW) hx hb hts (fun w h => List.mem_cons_of_mem _ (hin w h)) hown hG.1 hP k ha.get hc f hf (hts _ (List.mem_cons_of_mem _ hlk)) (fun _ h => h) hv hd (k1 p e s m args below meth c C H locs ls hP hS hl)
theorem R_put {idx ci f k : Nat} {fs : List Value} {v : Value} {ty : FieldType} (hd : decode μ.2.1 pc = .ok (.putfield idx, 3)) (hw : pfOK μ.1.cls idx ci f ty) (ha : hAt G hh k (.inr (ci, fs))) (hn : narrow ty v = v) (hfit : fits ty v = true) (hlen : f < fs.length) (k1 : RR G μ (pc + 3) lv st (va_up hh k (.inr (ci, fs.set f v))) r hh') : RR G μ pc lv (v :: .ref (ad G k) :: st) hh r hh' := fun p e s m args below meth c C H locs ls hP hS hl => by
  obtain ⟨⟨Cn, T, N⟩, hc, hin, hf, hlk, hfin, hty, hnm, ty0, hty0⟩ := hw
  obtain ⟨hx, hb, hr, hml, hown, hlocks, hts, hG⟩ := id C
  refine va_put (Ts := mcd μ :: XW) hx hb hts (fun w h => List.mem_cons_of_mem _ (hin w h)) ty0 hty0 hnm hown hG.1 hP (hG.D hh) hS k ha.get hc f hf (hts _ (List.mem_cons_of_mem _ hlk)) (fun _ h => h) hfin hty hn hfit hlen hd (fun H1 locs1 hP1 hD1 hS1 => ?_)
  rw [wd_set ha.1] at hP1
  exact k1 p e s m args below meth c C H1 locs1 ls hP1 hS1 hl
theorem R_iald {k n : Nat} {f : Nat → Int32} {i : Int32} (hd : decode μ.2.1 pc = .ok (.iaload, 1)) (ha : hAt G hh k (.inl (gI G, n, .inl f))) (hin : vp_in i n) (k1 : RR G μ (pc + 1) lv (.int (f i.toNatClampNeg) :: st) hh r hh') : RR G μ pc lv (.int i :: .ref (ad G k) :: st) hh r hh' := fun p e s m args below meth c C H locs ls hP hS hl => va_iald C.1 C.2.1 C.2.2.2.2.2.2.2.1 hP k 0 ha.get rfl hin hd (k1 p e s m args below meth c C H locs ls hP hS hl)
theorem R_zald {k n : Nat} {f : Nat → Int32} {i : Int32} (hd : decode μ.2.1 pc = .ok (.baload, 1)) (ha : hAt G hh k (.inl (gZ G, n, .inl f))) (hin : vp_in i n) (k1 : RR G μ (pc + 1) lv (.int (f i.toNatClampNeg) :: st) hh r hh') : RR G μ pc lv (.int i :: .ref (ad G k) :: st) hh r hh' := fun p e s m args below meth c C H locs ls hP hS hl => va_zald C.1 C.2.1 C.2.2.2.2.2.2.2.1 hP k 1 ha.get rfl hin hd (k1 p e s m args below meth c C H locs ls hP hS hl)
theorem R_iast {k n : Nat} {f : Nat → Int32} {i x : Int32} (hd : decode μ.2.1 pc = .ok (.iastore, 1)) (ha : hAt G hh k (.inl (gI G, n, .inl f))) (hin : vp_in i n) (k1 : RR G μ (pc + 1) lv st (va_up hh k (.inl (gI G, n, .inl (upd f i.toNatClampNeg x)))) r hh') : RR G μ pc lv (.int x :: .int i :: .ref (ad G k) :: st) hh r hh' := fun p e s m args below meth c C H locs ls hP hS hl => by
  obtain ⟨hx, hb, hr, hml, hown, hlocks, hts, hG⟩ := id C
  refine va_iast hx hb hG.1 hP (hG.D hh) hS k 0 ha.get rfl hin hd (fun H1 locs1 hP1 hD1 hS1 => ?_)
  rw [wd_set ha.1] at hP1
  exact k1 p e s m args below meth c C H1 locs1 ls hP1 hS1 hl
theorem R_zast {k n : Nat} {f : Nat → Int32} {i x : Int32} (hd : decode μ.2.1 pc = .ok (.bastore, 1)) (ha : hAt G hh k (.inl (gZ G, n, .inl f))) (hin : vp_in i n) (k1 : RR G μ (pc + 1) lv st (va_up hh k (.inl (gZ G, n, .inl (upd f i.toNatClampNeg (vp_nar .boolean x))))) r hh') : RR G μ pc lv (.int x :: .int i :: .ref (ad G k) :: st) hh r hh' := fun p e s m args below meth c C H locs ls hP hS hl => by
  obtain ⟨hx, hb, hr, hml, hown, hlocks, hts, hG⟩ := id C
  refine va_zast hx hb hG.1 hP (hG.D hh) hS k 1 ha.get rfl hin hd (fun H1 locs1 hP1 hD1 hS1 => ?_)
  rw [wd_set ha.1] at hP1
  exact k1 p e s m args below meth c C H1 locs1 ls hP1 hS1 hl
theorem R_aldS {k n : Nat} {f : Nat → Option Nat} {i : Int32} {q : Nat} (hd : decode μ.2.1 pc = .ok (.aaload, 1)) (ha : hAt G hh k (.inl (gS G, n, .inr (.inr (.inr (.inr f)))))) (hin : vp_in i n) (hq : f i.toNatClampNeg = some q) (k1 : RR G μ (pc + 1) lv (.ref q :: st) hh r hh') : RR G μ pc lv (.int i :: .ref (ad G k) :: st) hh r hh' := fun p e s m args below meth c C H locs ls hP hS hl => by
  refine va_aldq C.1 C.2.1 C.2.2.2.2.2.2.2.1 hP k 2 ha.get rfl hin hd ?_
  rw [hq]
  exact k1 p e s m args below meth c C H locs ls hP hS hl
theorem R_aldL {k n : Nat} {f : Nat → Option Nat} {i : Int32} {q : Nat} (hd : decode μ.2.1 pc = .ok (.aaload, 1)) (ha : hAt G hh k (.inl (gL G, n, .inr (.inr (.inr (.inr f)))))) (hin : vp_in i n) (hq : f i.toNatClampNeg = some q) (k1 : RR G μ (pc + 1) lv (.ref q :: st) hh r hh') : RR G μ pc lv (.int i :: .ref (ad G k) :: st) hh r hh' := fun p e s m args below meth c C H locs ls hP hS hl => by
  refine va_aldq C.1 C.2.1 C.2.2.2.2.2.2.2.1 hP k 3 ha.get rfl hin hd ?_
  rw [hq]
  exact k1 p e s m args below meth c C H locs ls hP hS hl
theorem R_alenI {k n : Nat} {f : Nat → Int32} (hd : decode μ.2.1 pc = .ok (.arraylength, 1)) (ha : hAt G hh k (.inl (gI G, n, .inl f))) (k1 : RR G μ (pc + 1) lv (.int (nI n) :: st) hh r hh') : RR G μ pc lv (.ref (ad G k) :: st) hh r hh' := fun p e s m args below meth c C H locs ls hP hS hl => va_alen C.1 C.2.1 C.2.2.2.2.2.2.2.1 hP k 0 ha.get rfl rfl hd (k1 p e s m args below meth c C H locs ls hP hS hl)
theorem XW_good {μ μ' : MI} (hc : mcd μ' ∈ XW) : GoodIn (mcd μ :: XW) (mcd μ' :: XW) := by
  have hg : ∀ w ∈ XW, w ∈ mcd μ :: XW ∧ ((w.onTables && w.keeps) = true ∨ ∃ ty, w = .arrayClass ty) := fun w hw => ⟨List.mem_cons_of_mem _ hw, good_of_word (List.mem_filter.mp hw).2⟩
  intro w hw
  rcases List.mem_cons.mp hw with rfl | hw
  · exact hg _ hc
  · exact hg w hw
theorem XW_w {μ : MI} {w : Cond} (hw : w ∈ XW) : w ∈ mcd μ :: XW ∧ ((w.onTables && w.keeps) = true ∨ ∃ ty, w = .arrayClass ty) := ⟨List.mem_cons_of_mem _ hw, good_of_word (List.mem_filter.mp hw).2⟩
/-- behind a call -/
theorem q_call {p : Program} {e : Env} {R : Room} {s : State} {m : MethodId} {args : Array Value} {below : List Frame} {meth : Method} {c : Code} {H : Heap} {locs : List Loc} {Q : State → Prop} {ls : Array Slot} {st0 rest : List Value} {a : Array Value} {r1 : Option Value} {hh1 : HH} (hr : va_Run p (gl G) e R s m args below meth c H locs 0 0 0 0 (F0 m pc ls st0) rest (QV G r1 hh1 a) (gA G)) (hS : va_S (gA G) s.heap H locs)
    (kk : ∀ (H1 : Heap) (locs1 : List Loc), va_P (gD G) clsX (wd G hh1) H1 → va_S (gA G) s.heap H1 locs1 → W p (gl G) e R s m args below meth c H1 locs1 0 0 Q (F0 m (pc + 3) ls (r1.toList ++ rest))) : W p (gl G) e R s m args below meth c H locs 0 0 Q (F0 m pc ls st0) := by
  intro T hT X
  obtain ⟨v, st₀, t, T', L, h0, X', hL, e1, e2, ⟨⟨hv, hp⟩, hz, hk⟩, st⟩ := hr T hT X
  cases hv
  rw [h0] at hz hk
  obtain ⟨t2, a1, b1⟩ := kk T'.heap (locs ++ L) (by rw [e1]; exact hp)
    ⟨Nat.le_trans hS.1 (by rw [e1]; exact hz), fun q h1 h2 => by rw [e1, hk q (Nat.lt_of_lt_of_le h1 hS.1) h2]; exact hS.2.1 q h1 h2, fun q hq => by
      rcases List.mem_append.mp hq with h | h
      · exact hS.2.2 q h
      · exact hL q h⟩ T' rfl X'
  exact ⟨t2, st t2 a1, b1⟩
def ckOK (y : MethodName) (n : Nat) : Prop := y.cls ≠ "java/lang/invoke/MethodHandle" ∧ y.cls ≠ "java/lang/invoke/VarHandle" ∧ (parseMethodDescriptor y.desc).map (fun d => d.parameters.length) = some n
/-- an own entry idx names the method of μ', n arguments; virtual, static, static of a nest mate -/
def cvOK (own : String) (μ' : MI) (idx n : Nat) : Prop := Cond.methodLink own idx μ'.1 ∈ XW ∧ Cond.instanceMethod μ'.1 ∈ XW ∧ Cond.selects μ'.1.cls μ'.1 μ'.1 ∈ XW ∧ Cond.initialized μ'.1.cls ∈ XW ∧ mcd μ' ∈ XW ∧ ckOK μ'.1 n
def csOK (own : String) (μ' : MI) (idx n : Nat) : Prop := Cond.methodLink own idx μ'.1 ∈ XW ∧ Cond.static μ'.1 ∈ XW ∧ Cond.initialized μ'.1.cls ∈ XW ∧ mcd μ' ∈ XW ∧ ckOK μ'.1 n
def cnOK (own : String) (μ' : MI) (idx n : Nat) : Prop := Cond.methodLinkNest own idx μ'.1 "CaseWheel" ∈ nestW ∧ Cond.static μ'.1 ∈ XW ∧ Cond.initialized μ'.1.cls ∈ XW ∧ mcd μ' ∈ XW ∧ ckOK μ'.1 n
/-- room for a callee -/
def rmOK (μ μ' : MI) : Prop := μ'.2.2.2.2 + 1 ≤ μ.2.2.2.2 ∧ μ'.2.2.1 ≤ 21
theorem rmOK.use {μ μ' : MI} (h : rmOK μ μ') : (rmH μ'.2.2.2.2).frames + 1 ≤ (rmH μ.2.2.2.2).frames ∧ 8 + (μ'.2.2.1 + 11) + (rmH μ'.2.2.2.2).locals ≤ (rmH μ.2.2.2.2).locals := by
  obtain ⟨h1, h2⟩ := h
  exact ⟨h1, by show 8 + (μ'.2.2.1 + 11) + 40 * μ'.2.2.2.2 ≤ 40 * μ.2.2.2.2; omega⟩
theorem R_callV {μ' : MI} {idx n ci k : Nat} {fs As rest st0 : List Value} {hh1 : HH} {r1 : Option Value} (hd : decode μ.2.1 pc = .ok (.invokevirtual idx, 3)) (hw : cvOK μ.1.cls μ' idx n) (hrm : rmOK μ μ') (hE : EV G μ' (.ref (ad G k) :: As) hh r1 hh1) (ha : hAt G hh k (.inr (ci, fs))) (hc : (clsX[ci]?).map (fun q => q.1) = some μ'.1.cls) (hn : As.length = n) (hst : st0 = As.reverse ++ .ref (ad G k) :: rest) (hcat : (rest.map fun v => v.category).sum ≤ 8) (k1 : RR G μ (pc + 3) lv (r1.toList ++ rest) hh1 r hh') : RR G μ pc lv st0 hh r hh' := fun p e s m args below meth c C H locs ls hP hS hl => by
  subst hst
  obtain ⟨hx, hb, hr, hml, hown, hlocks, hts, hG⟩ := id C
  obtain ⟨w1, w2, w3, w4, w5, w6⟩ := hw
  obtain ⟨q, hq, hq1⟩ := Option.map_eq_some_iff.mp hc
  have hT : GoodIn (mcd μ :: XW) (wsV μ.1.cls idx μ'.1.cls μ'.1 (mcd μ' :: XW)) := by
    intro w h
    rcases List.mem_append.mp h with h | h
    · simp only [List.mem_cons, List.not_mem_nil, or_false] at h
      rcases h with rfl | rfl | rfl | rfl
      · exact XW_w w1
      · exact XW_w w2
      · exact XW_w w3
      · exact XW_w w4
    · exact XW_good w5 w h
  have hrecv := va_recv hG.1 hP hq ha.get
  rw [hq1] at hrecv
  refine q_call (va_runV (C := μ'.1.cls) (bytes := μ'.2.1) (maxL := μ'.2.2.1) (ret := μ'.2.2.2.1) (As := As) (rest := rest) ⟨hx, hb, hml, hown, hts⟩ hE (cwV n hts hT rfl rfl rfl ⟨rfl, w6⟩ hrm.use) ⟨PV.blind, hrecv, (fun U hU hW => ⟨rfl, by rw [hU]; exact hP, hG.warm hU hW hS⟩)⟩ rfl hn hl.1 rfl (lv_room hcat) hd ⟨Nat.le_refl 0, Nat.le_refl 0⟩) hS (fun H1 locs1 hP1 hS1 => k1 p e s m args below meth c C H1 locs1 ls hP1 hS1 hl)
theorem R_callS {μ' : MI} {idx n : Nat} {As rest st0 : List Value} {hh1 : HH} {r1 : Option Value} (hd : decode μ.2.1 pc = .ok (.invokestatic idx, 3)) (hw : csOK μ.1.cls μ' idx n) (hrm : rmOK μ μ') (hE : EV G μ' As hh r1 hh1) (hn : As.length = n) (hst : st0 = As.reverse ++ rest) (hcat : (rest.map fun v => v.category).sum ≤ 8) (k1 : RR G μ (pc + 3) lv (r1.toList ++ rest) hh1 r hh') : RR G μ pc lv st0 hh r hh' := fun p e s m args below meth c C H locs ls hP hS hl => by
  subst hst
  obtain ⟨hx, hb, hr, hml, hown, hlocks, hts, hG⟩ := id C
  obtain ⟨w1, w2, w3, w4, w5⟩ := hw
  refine q_call (va_runS (bytes := μ'.2.1) (maxL := μ'.2.2.1) (ret := μ'.2.2.2.1) (As := As) (rest := rest) ⟨hx, hb, hml, hown, hts⟩ hE ⟨callB_of n hts (XW_good w4) rfl rfl rfl (hts _ (List.mem_cons_of_mem _ w3)) (hts _ (List.mem_cons_of_mem _ w1)) w5 hrm.use, hts _ (List.mem_cons_of_mem _ w2)⟩ ⟨PV.blind, (fun U hU hW => ⟨rfl, by rw [hU]; exact hP, hG.warm hU hW hS⟩)⟩ rfl hn hl.1 rfl (lv_room hcat) hd ⟨Nat.le_refl 0, Nat.le_refl 0⟩) hS (fun H1 locs1 hP1 hS1 => k1 p e s m args below meth c C H1 locs1 ls hP1 hS1 hl)
theorem R_callSN {μ' : MI} {idx n : Nat} {As rest st0 : List Value} {hh1 : HH} {r1 : Option Value} (hd : decode μ.2.1 pc = .ok (.invokestatic idx, 3)) (hw : cnOK μ.1.cls μ' idx n) (hrm : rmOK μ μ') (hE : EV G μ' As hh r1 hh1) (hn : As.length = n) (hst : st0 = As.reverse ++ rest) (hcat : (rest.map fun v => v.category).sum ≤ 8) (k1 : RR G μ (pc + 3) lv (r1.toList ++ rest) hh1 r hh') : RR G μ pc lv st0 hh r hh' := fun p e s m args below meth c C H locs ls hP hS hl => by
  subst hst
  obtain ⟨hx, hb, hr, hml, hown, hlocks, hts, hG⟩ := id C
  obtain ⟨w1, w2, w3, w4, w5⟩ := hw
  refine q_call (va_runSN (bytes := μ'.2.1) (maxL := μ'.2.2.1) (ret := μ'.2.2.2.1) (As := As) (rest := rest) ⟨hx, hb, hml, hown, hts⟩ hE ⟨va_cnB n hts (XW_good w4) rfl rfl rfl (hG.2.2.1 _ w1) (hts _ (List.mem_cons_of_mem _ w3)) w5 hrm.use, hts _ (List.mem_cons_of_mem _ w2), trivial⟩ ⟨PV.blind, (fun U hU hW => ⟨rfl, by rw [hU]; exact hP, hG.warm hU hW hS⟩)⟩ rfl hn hl.1 rfl (lv_room hcat) hd ⟨Nat.le_refl 0, Nat.le_refl 0⟩) hS (fun H1 locs1 hP1 hS1 => k1 p e s m args below meth c C H1 locs1 ls hP1 hS1 hl)
theorem R_mmax {idx : Nat} {x y : Int32} (hd : decode μ.2.1 pc = .ok (.invokestatic idx, 3)) (w1 : Cond.methodLink μ.1.cls idx Lib.Math.max.name ∈ XW) (w2 : Cond.static Lib.Math.max.name ∈ XW) (w3 : Cond.initialized "java/lang/Math" ∈ XW) (w4 : Cond.code Lib.Math.max.name Lib.Math.max.code 2 (some .int) ∈ XW) (hh0 : 1 ≤ μ.2.2.2.2) (hcat : (st.map fun v => v.category).sum ≤ 8) (k : RR G μ (pc + 3) lv (.int (if x < y then y else x) :: st) hh r hh') : RR G μ pc lv (.int y :: .int x :: st) hh r hh' := fun p e s m args below meth c C H locs ls hP hS hl => by
  obtain ⟨hx, hb, hr, hml, hown, hlocks, hts, hG⟩ := id C
  have t : ∀ w ∈ XW, w.before args s = true := fun w h => hts w (List.mem_cons_of_mem _ h)
  exact va_mmax hx hb (hml.trans hl.1.symm) hown (t _ w1) (t _ w2) (t _ w3) (t _ w4) hh0 (by show _ + 13 ≤ 40 * μ.2.2.2.2; omega) (Nat.zero_le _) (Nat.zero_le _) hd (k p e s m args below meth c C H locs ls hP hS hl)
theorem R_mmin {idx : Nat} {x y : Int32} (hd : decode μ.2.1 pc = .ok (.invokestatic idx, 3)) (w1 : Cond.methodLink μ.1.cls idx Lib.Math.min.name ∈ XW) (w2 : Cond.static Lib.Math.min.name ∈ XW) (w3 : Cond.initialized "java/lang/Math" ∈ XW) (w4 : Cond.code Lib.Math.min.name Lib.Math.min.code 2 (some .int) ∈ XW) (hh0 : 1 ≤ μ.2.2.2.2) (hcat : (st.map fun v => v.category).sum ≤ 8) (k : RR G μ (pc + 3) lv (.int (if y < x then y else x) :: st) hh r hh') : RR G μ pc lv (.int y :: .int x :: st) hh r hh' := fun p e s m args below meth c C H locs ls hP hS hl => by
  obtain ⟨hx, hb, hr, hml, hown, hlocks, hts, hG⟩ := id C
  have t : ∀ w ∈ XW, w.before args s = true := fun w h => hts w (List.mem_cons_of_mem _ h)
  exact va_mmin hx hb (hml.trans hl.1.symm) hown (t _ w1) (t _ w2) (t _ w3) (t _ w4) hh0 (by show _ + 13 ≤ 40 * μ.2.2.2.2; omega) (Nat.zero_le _) (Nat.zero_le _) hd (k p e s m args below meth c C H locs ls hP hS hl)
theorem R_copyi {idx k0 k1 n0 n1 : Nat} {f g : Nat → Int32} {sp dp n : Int32} (hd : decode μ.2.1 pc = .ok (.invokestatic idx, 3)) (w1 : Cond.methodLink μ.1.cls idx arraycopyName ∈ XW) (w2 : Cond.native arraycopyName ∈ XW) (w3 : Cond.static arraycopyName ∈ XW) (w4 : Cond.initialized "java/lang/System" ∈ XW) (hh0 : 1 ≤ μ.2.2.2.2) (ha0 : hAt G hh k0 (.inl (gI G, n0, .inl f))) (ha1 : hAt G hh k1 (.inl (gI G, n1, .inl g))) (h1 : ¬ sp < 0) (h2 : ¬ dp < 0) (h3 : ¬ n < 0) (h4 : sp.toNatClampNeg + n.toNatClampNeg ≤ n0) (h5 : dp.toNatClampNeg + n.toNatClampNeg ≤ n1) (hcat : (st.map fun v => v.category).sum ≤ 8) (kk : RR G μ (pc + 3) lv st (va_up hh k1 (.inl (gI G, n1, .inl (va_cpy f g sp.toNatClampNeg dp.toNatClampNeg n.toNatClampNeg)))) r hh') : RR G μ pc lv (.int n :: .int dp :: .ref (ad G k1) :: .int sp :: .ref (ad G k0) :: st) hh r hh' := fun p e s m args below meth c C H locs ls hP hS hl => by
  obtain ⟨hx, hb, hr, hml, hown, hlocks, hts, hG⟩ := id C
  have t : ∀ w ∈ XW, w.before args s = true := fun w h => hts w (List.mem_cons_of_mem _ h)
  refine va_copyi hx hb (hml.trans hl.1.symm) hown (t _ w1) (t _ w2) (t _ w3) (t _ w4) hG.1 hP (hG.D hh) hS k0 k1 0 0 ha0.get ha1.get rfl rfl rfl h1 h2 h3 h4 h5 (fun _ _ => rfl) hh0 ?_ hd (fun H1 locs1 hP1 hD1 hS1 => ?_)
  · have e1 : nativeFrameWords "java/lang/System" "arraycopy" 5 + 11 ≤ 30 := by decide +kernel
    show _ + _ ≤ 40 * μ.2.2.2.2
    omega
  · rw [wd_set ha1.1] at hP1
    exact kk p e s m args below meth c C H1 locs1 ls hP1 hS1 hl
theorem R_iret {v : Int32} (hd : decode μ.2.1 pc = .ok (.ireturn, 1)) (hr : μ.2.2.2.1 = some .int) (h : r = some (.int v)) (h2 : hh = hh') : RR G μ pc lv [.int v] hh r hh' := fun p e s m args below meth c C H locs ls hP hS hl => by
  subst h; subst h2
  exact W.iret C.1 C.2.1 (C.2.2.1.trans hr) (fun t ht hW => ⟨⟨rfl, by rw [ht]; exact hP⟩, hS.F ht⟩) hS.2.2 hd C.2.2.2.2.2.1
theorem R_zret {v : Int32} (hd : decode μ.2.1 pc = .ok (.ireturn, 1)) (hr : μ.2.2.2.1 = some .boolean) (hv : v = 0 ∨ v = 1) (h : r = some (.int v)) (h2 : hh = hh') : RR G μ pc lv [.int v] hh r hh' := fun p e s m args below meth c C H locs ls hP hS hl => by
  subst h; subst h2
  exact W.zret C.1 C.2.1 (C.2.2.1.trans hr) (by rcases hv with rfl | rfl <;> rfl) (fun t ht hW => ⟨⟨rfl, by rw [ht]; exact hP⟩, hS.F ht⟩) hS.2.2 hd C.2.2.2.2.2.1
theorem R_vret (hd : decode μ.2.1 pc = .ok (.return_, 1)) (hr : μ.2.2.2.1 = none) (h : r = none) (h2 : hh = hh') : RR G μ pc lv [] hh r hh' := fun p e s m args below meth c C H locs ls hP hS hl => by
  subst h; subst h2
  exact W.vret C.1 C.2.1 (C.2.2.1.trans hr) (fun t ht hW => ⟨⟨rfl, by rw [ht]; exact hP⟩, hS.F ht⟩) hS.2.2 hd C.2.2.2.2.2.1
theorem R_aret {v : Nat} {cn : String} (hd : decode μ.2.1 pc = .ok (.areturn, 1)) (hr : μ.2.2.2.1 = some (.object cn)) (h : r = some (.ref v)) (h2 : hh = hh') : RR G μ pc lv [.ref v] hh r hh' := fun p e s m args below meth c C H locs ls hP hS hl => by
  subst h; subst h2
  exact W.aret C.1 C.2.1 (C.2.2.1.trans hr) (Or.inl ⟨_, rfl⟩) (Or.inr ⟨_, rfl⟩) (fun t ht hW => ⟨⟨rfl, by rw [ht]; exact hP⟩, hS.F ht⟩) hS.2.2 hd C.2.2.2.2.2.1
end Rules
end
