section
-- ===== PART A: goes FIRST, ahead of the names: the tables' words, and 'selects' of the private methods out of them =====
/-- a private method of a class that the tables say can be made, by its rows of tables_1 -/
def lw_okq (q : MethodName × Nat) : Prop := (q.1.cls ≠ "java/lang/invoke/MethodHandle" ∧ q.1.cls ≠ "java/lang/invoke/VarHandle") ∧ Cond.instantiable q.1.cls q.2 ∈ tables_1 ∧ Cond.privateMethod q.1 ∈ tables_1 ∧ Cond.instanceMethod q.1 ∈ tables_1
theorem lw_p0 : lw_okq (⟨"CaseWheel", "readText", "()I"⟩, 12) := ⟨⟨by decide +kernel, by decide +kernel⟩, List.mem_of_getElem? (i := 15) (by decide +kernel), List.mem_of_getElem? (i := 219) (by decide +kernel), List.mem_of_getElem? (i := 220) (by decide +kernel)⟩
theorem lw_p1 : lw_okq (⟨"CaseWheel$TextReader", "step", "()V"⟩, 5) := ⟨⟨by decide +kernel, by decide +kernel⟩, List.mem_of_getElem? (i := 45) (by decide +kernel), List.mem_of_getElem? (i := 232) (by decide +kernel), List.mem_of_getElem? (i := 233) (by decide +kernel)⟩
theorem lw_p2 : lw_okq (⟨"CaseWheel$TextReader", "readClause", "(LCaseWheel$State;)Z"⟩, 5) := ⟨⟨by decide +kernel, by decide +kernel⟩, List.mem_of_getElem? (i := 45) (by decide +kernel), List.mem_of_getElem? (i := 242) (by decide +kernel), List.mem_of_getElem? (i := 243) (by decide +kernel)⟩
theorem lw_p3 : lw_okq (⟨"CaseWheel$TextReader", "isWord", "(Ljava/lang/String;)Z"⟩, 5) := ⟨⟨by decide +kernel, by decide +kernel⟩, List.mem_of_getElem? (i := 45) (by decide +kernel), List.mem_of_getElem? (i := 247) (by decide +kernel), List.mem_of_getElem? (i := 248) (by decide +kernel)⟩
theorem lw_p4 : lw_okq (⟨"CaseWheel$TextReader", "readJudge", "(LCaseWheel$State;)Z"⟩, 5) := ⟨⟨by decide +kernel, by decide +kernel⟩, List.mem_of_getElem? (i := 45) (by decide +kernel), List.mem_of_getElem? (i := 315) (by decide +kernel), List.mem_of_getElem? (i := 316) (by decide +kernel)⟩
theorem lw_p5 : lw_okq (⟨"CaseWheel$TextReader", "numberWithin", "(II)I"⟩, 5) := ⟨⟨by decide +kernel, by decide +kernel⟩, List.mem_of_getElem? (i := 45) (by decide +kernel), List.mem_of_getElem? (i := 319) (by decide +kernel), List.mem_of_getElem? (i := 320) (by decide +kernel)⟩
theorem lw_p6 : lw_okq (⟨"CaseWheel$TextReader", "versedTold", "()I"⟩, 5) := ⟨⟨by decide +kernel, by decide +kernel⟩, List.mem_of_getElem? (i := 45) (by decide +kernel), List.mem_of_getElem? (i := 327) (by decide +kernel), List.mem_of_getElem? (i := 328) (by decide +kernel)⟩
theorem lw_p7 : lw_okq (⟨"CaseWheel$TextReader", "readBar", "(LCaseWheel$State;)Z"⟩, 5) := ⟨⟨by decide +kernel, by decide +kernel⟩, List.mem_of_getElem? (i := 45) (by decide +kernel), List.mem_of_getElem? (i := 339) (by decide +kernel), List.mem_of_getElem? (i := 340) (by decide +kernel)⟩
theorem lw_p8 : lw_okq (⟨"CaseWheel$TextReader", "readAway", "(LCaseWheel$State;)Z"⟩, 5) := ⟨⟨by decide +kernel, by decide +kernel⟩, List.mem_of_getElem? (i := 45) (by decide +kernel), List.mem_of_getElem? (i := 344) (by decide +kernel), List.mem_of_getElem? (i := 345) (by decide +kernel)⟩
theorem lw_p9 : lw_okq (⟨"CaseWheel$TextReader", "readRule", "(LCaseWheel$State;)Z"⟩, 5) := ⟨⟨by decide +kernel, by decide +kernel⟩, List.mem_of_getElem? (i := 45) (by decide +kernel), List.mem_of_getElem? (i := 349) (by decide +kernel), List.mem_of_getElem? (i := 350) (by decide +kernel)⟩
theorem lw_p10 : lw_okq (⟨"CaseWheel$TextReader", "isOther", "(I)Z"⟩, 5) := ⟨⟨by decide +kernel, by decide +kernel⟩, List.mem_of_getElem? (i := 45) (by decide +kernel), List.mem_of_getElem? (i := 365) (by decide +kernel), List.mem_of_getElem? (i := 366) (by decide +kernel)⟩
theorem lw_p11 : lw_okq (⟨"CaseWheel", "forgetKept", "()V"⟩, 12) := ⟨⟨by decide +kernel, by decide +kernel⟩, List.mem_of_getElem? (i := 15) (by decide +kernel), List.mem_of_getElem? (i := 378) (by decide +kernel), List.mem_of_getElem? (i := 379) (by decide +kernel)⟩
theorem lw_p12 : lw_okq (⟨"CaseWheel", "dropAllSlips", "()V"⟩, 12) := ⟨⟨by decide +kernel, by decide +kernel⟩, List.mem_of_getElem? (i := 15) (by decide +kernel), List.mem_of_getElem? (i := 382) (by decide +kernel), List.mem_of_getElem? (i := 383) (by decide +kernel)⟩
theorem lw_p13 : lw_okq (⟨"CaseWheel$State", "weighAll", "(I)I"⟩, 15) := ⟨⟨by decide +kernel, by decide +kernel⟩, List.mem_of_getElem? (i := 69) (by decide +kernel), List.mem_of_getElem? (i := 452) (by decide +kernel), List.mem_of_getElem? (i := 453) (by decide +kernel)⟩
theorem lw_p14 : lw_okq (⟨"CaseWheel$State", "drawBelow", "(I)I"⟩, 15) := ⟨⟨by decide +kernel, by decide +kernel⟩, List.mem_of_getElem? (i := 69) (by decide +kernel), List.mem_of_getElem? (i := 462) (by decide +kernel), List.mem_of_getElem? (i := 463) (by decide +kernel)⟩
theorem lw_p15 : lw_okq (⟨"CaseWheel$State", "judgeReaching", "(I)I"⟩, 15) := ⟨⟨by decide +kernel, by decide +kernel⟩, List.mem_of_getElem? (i := 69) (by decide +kernel), List.mem_of_getElem? (i := 470) (by decide +kernel), List.mem_of_getElem? (i := 471) (by decide +kernel)⟩
def lw_privs_1 : List (MethodName × Nat) := [(⟨"CaseWheel", "readText", "()I"⟩, 12), (⟨"CaseWheel$TextReader", "step", "()V"⟩, 5), (⟨"CaseWheel$TextReader", "readClause", "(LCaseWheel$State;)Z"⟩, 5), (⟨"CaseWheel$TextReader", "isWord", "(Ljava/lang/String;)Z"⟩, 5), (⟨"CaseWheel$TextReader", "readJudge", "(LCaseWheel$State;)Z"⟩, 5), (⟨"CaseWheel$TextReader", "numberWithin", "(II)I"⟩, 5), (⟨"CaseWheel$TextReader", "versedTold", "()I"⟩, 5), (⟨"CaseWheel$TextReader", "readBar", "(LCaseWheel$State;)Z"⟩, 5), (⟨"CaseWheel$TextReader", "readAway", "(LCaseWheel$State;)Z"⟩, 5), (⟨"CaseWheel$TextReader", "readRule", "(LCaseWheel$State;)Z"⟩, 5), (⟨"CaseWheel$TextReader", "isOther", "(I)Z"⟩, 5), (⟨"CaseWheel", "forgetKept", "()V"⟩, 12), (⟨"CaseWheel", "dropAllSlips", "()V"⟩, 12), (⟨"CaseWheel$State", "weighAll", "(I)I"⟩, 15), (⟨"CaseWheel$State", "drawBelow", "(I)I"⟩, 15), (⟨"CaseWheel$State", "judgeReaching", "(I)I"⟩, 15)]
theorem lw_r1 : ∀ q ∈ lw_privs_1, lw_okq q := List.forall_mem_cons.mpr ⟨lw_p0, List.forall_mem_cons.mpr ⟨lw_p1, List.forall_mem_cons.mpr ⟨lw_p2, List.forall_mem_cons.mpr ⟨lw_p3, List.forall_mem_cons.mpr ⟨lw_p4, List.forall_mem_cons.mpr ⟨lw_p5, List.forall_mem_cons.mpr ⟨lw_p6, List.forall_mem_cons.mpr ⟨lw_p7, List.forall_mem_cons.mpr ⟨lw_p8, List.forall_mem_cons.mpr ⟨lw_p9, List.forall_mem_cons.mpr ⟨lw_p10, List.forall_mem_cons.mpr ⟨lw_p11, List.forall_mem_cons.mpr ⟨lw_p12, List.forall_mem_cons.mpr ⟨lw_p13, List.forall_mem_cons.mpr ⟨lw_p14, List.forall_mem_cons.mpr ⟨lw_p15, fun _ h => absurd h List.not_mem_nil⟩⟩⟩⟩⟩⟩⟩⟩⟩⟩⟩⟩⟩⟩⟩⟩
theorem lw_p16 : lw_okq (⟨"CaseWheel$State", "settleDebts", "(I)V"⟩, 15) := ⟨⟨by decide +kernel, by decide +kernel⟩, List.mem_of_getElem? (i := 69) (by decide +kernel), List.mem_of_getElem? (i := 474) (by decide +kernel), List.mem_of_getElem? (i := 475) (by decide +kernel)⟩
theorem lw_p17 : lw_okq (⟨"CaseWheel", "writeDocket", "()V"⟩, 12) := ⟨⟨by decide +kernel, by decide +kernel⟩, List.mem_of_getElem? (i := 15) (by decide +kernel), List.mem_of_getElem? (i := 513) (by decide +kernel), List.mem_of_getElem? (i := 514) (by decide +kernel)⟩
theorem lw_p18 : lw_okq (⟨"CaseWheel", "recountBy", "(II)I"⟩, 12) := ⟨⟨by decide +kernel, by decide +kernel⟩, List.mem_of_getElem? (i := 15) (by decide +kernel), List.mem_of_getElem? (i := 561) (by decide +kernel), List.mem_of_getElem? (i := 562) (by decide +kernel)⟩
theorem lw_p19 : lw_okq (⟨"CaseWheel$Letters", "standsAt", "(ILCaseWheel$Letters;)Z"⟩, 2) := ⟨⟨by decide +kernel, by decide +kernel⟩, List.mem_of_getElem? (i := 23) (by decide +kernel), List.mem_of_getElem? (i := 613) (by decide +kernel), List.mem_of_getElem? (i := 614) (by decide +kernel)⟩
theorem lw_p20 : lw_okq (⟨"CaseWheel", "lettersOfWriting", "()I"⟩, 12) := ⟨⟨by decide +kernel, by decide +kernel⟩, List.mem_of_getElem? (i := 15) (by decide +kernel), List.mem_of_getElem? (i := 635) (by decide +kernel), List.mem_of_getElem? (i := 636) (by decide +kernel)⟩
theorem lw_p21 : lw_okq (⟨"CaseWheel", "lettersOfSlips", "()I"⟩, 12) := ⟨⟨by decide +kernel, by decide +kernel⟩, List.mem_of_getElem? (i := 15) (by decide +kernel), List.mem_of_getElem? (i := 639) (by decide +kernel), List.mem_of_getElem? (i := 640) (by decide +kernel)⟩
theorem lw_p22 : lw_okq (⟨"CaseWheelModel", "anew", "()V"⟩, 20) := ⟨⟨by decide +kernel, by decide +kernel⟩, List.mem_of_getElem? (i := 643) (by decide +kernel), List.mem_of_getElem? (i := 649) (by decide +kernel), List.mem_of_getElem? (i := 650) (by decide +kernel)⟩
theorem lw_p23 : lw_okq (⟨"CaseWheelModel", "copyRow", "(II)V"⟩, 20) := ⟨⟨by decide +kernel, by decide +kernel⟩, List.mem_of_getElem? (i := 643) (by decide +kernel), List.mem_of_getElem? (i := 653) (by decide +kernel), List.mem_of_getElem? (i := 654) (by decide +kernel)⟩
theorem lw_p24 : lw_okq (⟨"CaseWheelModel", "reads", "(Z)Z"⟩, 20) := ⟨⟨by decide +kernel, by decide +kernel⟩, List.mem_of_getElem? (i := 643) (by decide +kernel), List.mem_of_getElem? (i := 734) (by decide +kernel), List.mem_of_getElem? (i := 735) (by decide +kernel)⟩
theorem lw_p25 : lw_okq (⟨"CaseWheelModel", "nextToken", "()V"⟩, 20) := ⟨⟨by decide +kernel, by decide +kernel⟩, List.mem_of_getElem? (i := 643) (by decide +kernel), List.mem_of_getElem? (i := 738) (by decide +kernel), List.mem_of_getElem? (i := 739) (by decide +kernel)⟩
theorem lw_p26 : lw_okq (⟨"CaseWheelModel", "readsClause", "()Z"⟩, 20) := ⟨⟨by decide +kernel, by decide +kernel⟩, List.mem_of_getElem? (i := 643) (by decide +kernel), List.mem_of_getElem? (i := 752) (by decide +kernel), List.mem_of_getElem? (i := 753) (by decide +kernel)⟩
theorem lw_p27 : lw_okq (⟨"CaseWheelModel", "wordOf", "(II)I"⟩, 20) := ⟨⟨by decide +kernel, by decide +kernel⟩, List.mem_of_getElem? (i := 643) (by decide +kernel), List.mem_of_getElem? (i := 756) (by decide +kernel), List.mem_of_getElem? (i := 757) (by decide +kernel)⟩
theorem lw_p28 : lw_okq (⟨"CaseWheelModel", "isWord", "(I)Z"⟩, 20) := ⟨⟨by decide +kernel, by decide +kernel⟩, List.mem_of_getElem? (i := 643) (by decide +kernel), List.mem_of_getElem? (i := 760) (by decide +kernel), List.mem_of_getElem? (i := 761) (by decide +kernel)⟩
theorem lw_p29 : lw_okq (⟨"CaseWheelModel", "readsRest", "(I)Z"⟩, 20) := ⟨⟨by decide +kernel, by decide +kernel⟩, List.mem_of_getElem? (i := 643) (by decide +kernel), List.mem_of_getElem? (i := 764) (by decide +kernel), List.mem_of_getElem? (i := 765) (by decide +kernel)⟩
theorem lw_p30 : lw_okq (⟨"CaseWheelModel", "number", "(III)Z"⟩, 20) := ⟨⟨by decide +kernel, by decide +kernel⟩, List.mem_of_getElem? (i := 643) (by decide +kernel), List.mem_of_getElem? (i := 768) (by decide +kernel), List.mem_of_getElem? (i := 769) (by decide +kernel)⟩
theorem lw_p31 : lw_okq (⟨"CaseWheelModel", "readsVersed", "()Z"⟩, 20) := ⟨⟨by decide +kernel, by decide +kernel⟩, List.mem_of_getElem? (i := 643) (by decide +kernel), List.mem_of_getElem? (i := 772) (by decide +kernel), List.mem_of_getElem? (i := 773) (by decide +kernel)⟩
def lw_privs_2 : List (MethodName × Nat) := [(⟨"CaseWheel$State", "settleDebts", "(I)V"⟩, 15), (⟨"CaseWheel", "writeDocket", "()V"⟩, 12), (⟨"CaseWheel", "recountBy", "(II)I"⟩, 12), (⟨"CaseWheel$Letters", "standsAt", "(ILCaseWheel$Letters;)Z"⟩, 2), (⟨"CaseWheel", "lettersOfWriting", "()I"⟩, 12), (⟨"CaseWheel", "lettersOfSlips", "()I"⟩, 12), (⟨"CaseWheelModel", "anew", "()V"⟩, 20), (⟨"CaseWheelModel", "copyRow", "(II)V"⟩, 20), (⟨"CaseWheelModel", "reads", "(Z)Z"⟩, 20), (⟨"CaseWheelModel", "nextToken", "()V"⟩, 20), (⟨"CaseWheelModel", "readsClause", "()Z"⟩, 20), (⟨"CaseWheelModel", "wordOf", "(II)I"⟩, 20), (⟨"CaseWheelModel", "isWord", "(I)Z"⟩, 20), (⟨"CaseWheelModel", "readsRest", "(I)Z"⟩, 20), (⟨"CaseWheelModel", "number", "(III)Z"⟩, 20), (⟨"CaseWheelModel", "readsVersed", "()Z"⟩, 20)]
theorem lw_r2 : ∀ q ∈ lw_privs_2, lw_okq q := List.forall_mem_cons.mpr ⟨lw_p16, List.forall_mem_cons.mpr ⟨lw_p17, List.forall_mem_cons.mpr ⟨lw_p18, List.forall_mem_cons.mpr ⟨lw_p19, List.forall_mem_cons.mpr ⟨lw_p20, List.forall_mem_cons.mpr ⟨lw_p21, List.forall_mem_cons.mpr ⟨lw_p22, List.forall_mem_cons.mpr ⟨lw_p23, List.forall_mem_cons.mpr ⟨lw_p24, List.forall_mem_cons.mpr ⟨lw_p25, List.forall_mem_cons.mpr ⟨lw_p26, List.forall_mem_cons.mpr ⟨lw_p27, List.forall_mem_cons.mpr ⟨lw_p28, List.forall_mem_cons.mpr ⟨lw_p29, List.forall_mem_cons.mpr ⟨lw_p30, List.forall_mem_cons.mpr ⟨lw_p31, fun _ h => absurd h List.not_mem_nil⟩⟩⟩⟩⟩⟩⟩⟩⟩⟩⟩⟩⟩⟩⟩⟩
theorem lw_p32 : lw_okq (⟨"CaseWheelModel", "readsRule", "()Z"⟩, 20) := ⟨⟨by decide +kernel, by decide +kernel⟩, List.mem_of_getElem? (i := 643) (by decide +kernel), List.mem_of_getElem? (i := 780) (by decide +kernel), List.mem_of_getElem? (i := 781) (by decide +kernel)⟩
theorem lw_p33 : lw_okq (⟨"CaseWheelModel", "does", "(I)V"⟩, 20) := ⟨⟨by decide +kernel, by decide +kernel⟩, List.mem_of_getElem? (i := 643) (by decide +kernel), List.mem_of_getElem? (i := 784) (by decide +kernel), List.mem_of_getElem? (i := 785) (by decide +kernel)⟩
theorem lw_p34 : lw_okq (⟨"CaseWheelModel", "isJudge", "(I)Z"⟩, 20) := ⟨⟨by decide +kernel, by decide +kernel⟩, List.mem_of_getElem? (i := 643) (by decide +kernel), List.mem_of_getElem? (i := 796) (by decide +kernel), List.mem_of_getElem? (i := 797) (by decide +kernel)⟩
theorem lw_p35 : lw_okq (⟨"CaseWheelModel", "isCase", "(I)Z"⟩, 20) := ⟨⟨by decide +kernel, by decide +kernel⟩, List.mem_of_getElem? (i := 643) (by decide +kernel), List.mem_of_getElem? (i := 804) (by decide +kernel), List.mem_of_getElem? (i := 805) (by decide +kernel)⟩
theorem lw_p36 : lw_okq (⟨"CaseWheelModel", "sealAt", "(II)V"⟩, 20) := ⟨⟨by decide +kernel, by decide +kernel⟩, List.mem_of_getElem? (i := 643) (by decide +kernel), List.mem_of_getElem? (i := 812) (by decide +kernel), List.mem_of_getElem? (i := 813) (by decide +kernel)⟩
theorem lw_p37 : lw_okq (⟨"CaseWheelModel", "isAnyone", "(III)Z"⟩, 20) := ⟨⟨by decide +kernel, by decide +kernel⟩, List.mem_of_getElem? (i := 643) (by decide +kernel), List.mem_of_getElem? (i := 827) (by decide +kernel), List.mem_of_getElem? (i := 828) (by decide +kernel)⟩
theorem lw_p38 : lw_okq (⟨"CaseWheelModel", "isBarred", "(III)Z"⟩, 20) := ⟨⟨by decide +kernel, by decide +kernel⟩, List.mem_of_getElem? (i := 643) (by decide +kernel), List.mem_of_getElem? (i := 831) (by decide +kernel), List.mem_of_getElem? (i := 832) (by decide +kernel)⟩
theorem lw_p39 : lw_okq (⟨"CaseWheelModel", "keepPast", "()V"⟩, 20) := ⟨⟨by decide +kernel, by decide +kernel⟩, List.mem_of_getElem? (i := 643) (by decide +kernel), List.mem_of_getElem? (i := 835) (by decide +kernel), List.mem_of_getElem? (i := 836) (by decide +kernel)⟩
theorem lw_p40 : lw_okq (⟨"CaseWheelModel", "assigned", "(III)I"⟩, 20) := ⟨⟨by decide +kernel, by decide +kernel⟩, List.mem_of_getElem? (i := 643) (by decide +kernel), List.mem_of_getElem? (i := 839) (by decide +kernel), List.mem_of_getElem? (i := 840) (by decide +kernel)⟩
theorem lw_p41 : lw_okq (⟨"CaseWheelModel", "drawOnce", "(II)I"⟩, 20) := ⟨⟨by decide +kernel, by decide +kernel⟩, List.mem_of_getElem? (i := 643) (by decide +kernel), List.mem_of_getElem? (i := 843) (by decide +kernel), List.mem_of_getElem? (i := 844) (by decide +kernel)⟩
theorem lw_p42 : lw_okq (⟨"CaseWheelModel", "weightOf", "(III)I"⟩, 20) := ⟨⟨by decide +kernel, by decide +kernel⟩, List.mem_of_getElem? (i := 643) (by decide +kernel), List.mem_of_getElem? (i := 847) (by decide +kernel), List.mem_of_getElem? (i := 848) (by decide +kernel)⟩
theorem lw_p43 : lw_okq (⟨"CaseWheelModel", "drawFor", "(II)I"⟩, 20) := ⟨⟨by decide +kernel, by decide +kernel⟩, List.mem_of_getElem? (i := 643) (by decide +kernel), List.mem_of_getElem? (i := 851) (by decide +kernel), List.mem_of_getElem? (i := 852) (by decide +kernel)⟩
theorem lw_p44 : lw_okq (⟨"CaseWheelModel", "owe", "(II)V"⟩, 20) := ⟨⟨by decide +kernel, by decide +kernel⟩, List.mem_of_getElem? (i := 643) (by decide +kernel), List.mem_of_getElem? (i := 860) (by decide +kernel), List.mem_of_getElem? (i := 861) (by decide +kernel)⟩
theorem lw_p45 : lw_okq (⟨"CaseWheelModel", "layWriting", "()V"⟩, 20) := ⟨⟨by decide +kernel, by decide +kernel⟩, List.mem_of_getElem? (i := 643) (by decide +kernel), List.mem_of_getElem? (i := 888) (by decide +kernel), List.mem_of_getElem? (i := 889) (by decide +kernel)⟩
theorem lw_p46 : lw_okq (⟨"CaseWheelModel", "put", "(I)V"⟩, 20) := ⟨⟨by decide +kernel, by decide +kernel⟩, List.mem_of_getElem? (i := 643) (by decide +kernel), List.mem_of_getElem? (i := 892) (by decide +kernel), List.mem_of_getElem? (i := 893) (by decide +kernel)⟩
theorem lw_p47 : lw_okq (⟨"CaseWheelModel", "canCount", "()Z"⟩, 20) := ⟨⟨by decide +kernel, by decide +kernel⟩, List.mem_of_getElem? (i := 643) (by decide +kernel), List.mem_of_getElem? (i := 918) (by decide +kernel), List.mem_of_getElem? (i := 919) (by decide +kernel)⟩
def lw_privs_3 : List (MethodName × Nat) := [(⟨"CaseWheelModel", "readsRule", "()Z"⟩, 20), (⟨"CaseWheelModel", "does", "(I)V"⟩, 20), (⟨"CaseWheelModel", "isJudge", "(I)Z"⟩, 20), (⟨"CaseWheelModel", "isCase", "(I)Z"⟩, 20), (⟨"CaseWheelModel", "sealAt", "(II)V"⟩, 20), (⟨"CaseWheelModel", "isAnyone", "(III)Z"⟩, 20), (⟨"CaseWheelModel", "isBarred", "(III)Z"⟩, 20), (⟨"CaseWheelModel", "keepPast", "()V"⟩, 20), (⟨"CaseWheelModel", "assigned", "(III)I"⟩, 20), (⟨"CaseWheelModel", "drawOnce", "(II)I"⟩, 20), (⟨"CaseWheelModel", "weightOf", "(III)I"⟩, 20), (⟨"CaseWheelModel", "drawFor", "(II)I"⟩, 20), (⟨"CaseWheelModel", "owe", "(II)V"⟩, 20), (⟨"CaseWheelModel", "layWriting", "()V"⟩, 20), (⟨"CaseWheelModel", "put", "(I)V"⟩, 20), (⟨"CaseWheelModel", "canCount", "()Z"⟩, 20)]
theorem lw_r3 : ∀ q ∈ lw_privs_3, lw_okq q := List.forall_mem_cons.mpr ⟨lw_p32, List.forall_mem_cons.mpr ⟨lw_p33, List.forall_mem_cons.mpr ⟨lw_p34, List.forall_mem_cons.mpr ⟨lw_p35, List.forall_mem_cons.mpr ⟨lw_p36, List.forall_mem_cons.mpr ⟨lw_p37, List.forall_mem_cons.mpr ⟨lw_p38, List.forall_mem_cons.mpr ⟨lw_p39, List.forall_mem_cons.mpr ⟨lw_p40, List.forall_mem_cons.mpr ⟨lw_p41, List.forall_mem_cons.mpr ⟨lw_p42, List.forall_mem_cons.mpr ⟨lw_p43, List.forall_mem_cons.mpr ⟨lw_p44, List.forall_mem_cons.mpr ⟨lw_p45, List.forall_mem_cons.mpr ⟨lw_p46, List.forall_mem_cons.mpr ⟨lw_p47, fun _ h => absurd h List.not_mem_nil⟩⟩⟩⟩⟩⟩⟩⟩⟩⟩⟩⟩⟩⟩⟩⟩
theorem lw_p48 : lw_okq (⟨"CaseWheelModel", "sameBy", "(I)I"⟩, 20) := ⟨⟨by decide +kernel, by decide +kernel⟩, List.mem_of_getElem? (i := 643) (by decide +kernel), List.mem_of_getElem? (i := 922) (by decide +kernel), List.mem_of_getElem? (i := 923) (by decide +kernel)⟩
theorem lw_p49 : lw_okq (⟨"CaseWheelModel", "standsAt", "(III)Z"⟩, 20) := ⟨⟨by decide +kernel, by decide +kernel⟩, List.mem_of_getElem? (i := 643) (by decide +kernel), List.mem_of_getElem? (i := 960) (by decide +kernel), List.mem_of_getElem? (i := 961) (by decide +kernel)⟩
theorem lw_p50 : lw_okq (⟨"CaseWheelModel", "allLetters", "()I"⟩, 20) := ⟨⟨by decide +kernel, by decide +kernel⟩, List.mem_of_getElem? (i := 643) (by decide +kernel), List.mem_of_getElem? (i := 981) (by decide +kernel), List.mem_of_getElem? (i := 982) (by decide +kernel)⟩
def lw_privs_4 : List (MethodName × Nat) := [(⟨"CaseWheelModel", "sameBy", "(I)I"⟩, 20), (⟨"CaseWheelModel", "standsAt", "(III)Z"⟩, 20), (⟨"CaseWheelModel", "allLetters", "()I"⟩, 20)]
theorem lw_r4 : ∀ q ∈ lw_privs_4, lw_okq q := List.forall_mem_cons.mpr ⟨lw_p48, List.forall_mem_cons.mpr ⟨lw_p49, List.forall_mem_cons.mpr ⟨lw_p50, fun _ h => absurd h List.not_mem_nil⟩⟩⟩
def lw_privs : List (MethodName × Nat) := lw_privs_1 ++ (lw_privs_2 ++ (lw_privs_3 ++ (lw_privs_4)))
def lw_tbl : List Cond := k2_sels lw_privs ++ tables_1
theorem lw_privs_ok : ∀ q ∈ lw_privs, lw_okq q := by
  show ∀ q ∈ lw_privs_1 ++ (lw_privs_2 ++ (lw_privs_3 ++ (lw_privs_4))), lw_okq q
  exact List.forall_mem_append.mpr ⟨lw_r1, List.forall_mem_append.mpr ⟨lw_r2, List.forall_mem_append.mpr ⟨lw_r3, lw_r4⟩⟩⟩
end
section
def RX0 : String := "CaseWheel$History"
def TX0 : u_T := fun k => match k with
  | 0 => ("CaseWheel$History", "before", "[LCaseWheel$State;", true)
  | 1 => ("CaseWheel$History", "oldest", "I", false)
  | _ => ("CaseWheel$History", "size", "I", false)
def tyX0 : Nat → FieldType := fun k => match k with
  | 0 => .array (.object "CaseWheel$State")
  | 1 => .int
  | _ => .int
theorem nmX0 : ∀ a, a < 3 → ∀ b, b < 3 → a ≠ b → (TX0 a).2.1 ≠ (TX0 b).2.1 := by decide +kernel
theorem tyX0_ok : ∀ k, k < 3 → parseFieldDescriptor (TX0 k).2.2.1 = some (tyX0 k) := by decide +kernel
abbrev cX0_init : ByteArray := prog_2_method_1_code
def yX0_init : MethodName := ⟨RX0, "<init>", "()V"⟩
abbrev cX0_forget : ByteArray := prog_2_method_2_code
def yX0_forget : MethodName := ⟨RX0, "forget", "()V"⟩
abbrev cX0_remember : ByteArray := prog_2_method_3_code
def yX0_remember : MethodName := ⟨RX0, "remember", "(LCaseWheel$State;)V"⟩
abbrev cX0_takeBack : ByteArray := prog_2_method_4_code
def yX0_takeBack : MethodName := ⟨RX0, "takeBack", "(LCaseWheel$State;)V"⟩
def RX1 : String := "CaseWheel$Letters"
def TX1 : u_T := fun k => match k with
  | 0 => ("CaseWheel$Letters", "row", "[I", true)
  | _ => ("CaseWheel$Letters", "length", "I", false)
def tyX1 : Nat → FieldType := fun k => match k with
  | 0 => .array .int
  | _ => .int
theorem nmX1 : ∀ a, a < 2 → ∀ b, b < 2 → a ≠ b → (TX1 a).2.1 ≠ (TX1 b).2.1 := by decide +kernel
theorem tyX1_ok : ∀ k, k < 2 → parseFieldDescriptor (TX1 k).2.2.1 = some (tyX1 k) := by decide +kernel
abbrev cX1_init : ByteArray := prog_3_method_1_code
def yX1_init : MethodName := ⟨RX1, "<init>", "(I)V"⟩
abbrev cX1_hasRoomFor : ByteArray := prog_3_method_2_code
def yX1_hasRoomFor : MethodName := ⟨RX1, "hasRoomFor", "(I)Z"⟩
abbrev cX1_append : ByteArray := prog_3_method_3_code
def yX1_append : MethodName := ⟨RX1, "append", "(I)V"⟩
abbrev cX1_putAt : ByteArray := prog_3_method_4_code
def yX1_putAt : MethodName := ⟨RX1, "putAt", "(II)V"⟩
abbrev cX1_removeSpan : ByteArray := prog_3_method_5_code
def yX1_removeSpan : MethodName := ⟨RX1, "removeSpan", "(II)V"⟩
abbrev cX1_appendAll : ByteArray := prog_3_method_6_code
def yX1_appendAll : MethodName := ⟨RX1, "appendAll", "(LCaseWheel$Letters;)V"⟩
abbrev cX1_placeOf : ByteArray := prog_3_method_7_code
def yX1_placeOf : MethodName := ⟨RX1, "placeOf", "(LCaseWheel$Letters;)I"⟩
abbrev cX1_standsAt : ByteArray := prog_3_method_8_code
def yX1_standsAt : MethodName := ⟨RX1, "standsAt", "(ILCaseWheel$Letters;)Z"⟩
abbrev cX1_isWordAt : ByteArray := prog_3_method_9_code
def yX1_isWordAt : MethodName := ⟨RX1, "isWordAt", "(IILjava/lang/String;)Z"⟩
abbrev cX1_ruleAt : ByteArray := prog_3_method_10_code
def yX1_ruleAt : MethodName := ⟨RX1, "ruleAt", "(II)I"⟩
abbrev cX1_numberAt : ByteArray := prog_3_method_11_code
def yX1_numberAt : MethodName := ⟨RX1, "numberAt", "(III)I"⟩
def RX2 : String := "CaseWheel$State"
def TX2 : u_T := fun k => match k with
  | 0 => ("CaseWheel$State", "strength", "[I", true)
  | 1 => ("CaseWheel$State", "versed", "[I", true)
  | 2 => ("CaseWheel$State", "barred", "[I", true)
  | 3 => ("CaseWheel$State", "debt", "[I", true)
  | 4 => ("CaseWheel$State", "subjectOf", "[I", true)
  | 5 => ("CaseWheel$State", "partyOf", "[I", true)
  | 6 => ("CaseWheel$State", "judgeOf", "[I", true)
  | 7 => ("CaseWheel$State", "weightsUpTo", "[I", true)
  | 8 => ("CaseWheel$State", "judges", "I", false)
  | 9 => ("CaseWheel$State", "away", "I", false)
  | 10 => ("CaseWheel$State", "rule", "I", false)
  | 11 => ("CaseWheel$State", "seed", "I", false)
  | 12 => ("CaseWheel$State", "chain", "I", false)
  | 13 => ("CaseWheel$State", "turns", "I", false)
  | _ => ("CaseWheel$State", "cases", "I", false)
def tyX2 : Nat → FieldType := fun k => match k with
  | 0 => .array .int
  | 1 => .array .int
  | 2 => .array .int
  | 3 => .array .int
  | 4 => .array .int
  | 5 => .array .int
  | 6 => .array .int
  | 7 => .array .int
  | 8 => .int
  | 9 => .int
  | 10 => .int
  | 11 => .int
  | 12 => .int
  | 13 => .int
  | _ => .int
theorem nmX2 : ∀ a, a < 15 → ∀ b, b < 15 → a ≠ b → (TX2 a).2.1 ≠ (TX2 b).2.1 := by decide +kernel
theorem tyX2_ok : ∀ k, k < 15 → parseFieldDescriptor (TX2 k).2.2.1 = some (tyX2 k) := by decide +kernel
abbrev cX2_init : ByteArray := prog_4_method_1_code
def yX2_init : MethodName := ⟨RX2, "<init>", "()V"⟩
abbrev cX2_copyFrom : ByteArray := prog_4_method_2_code
def yX2_copyFrom : MethodName := ⟨RX2, "copyFrom", "(LCaseWheel$State;)V"⟩
abbrev cX2_clearAll : ByteArray := prog_4_method_3_code
def yX2_clearAll : MethodName := ⟨RX2, "clearAll", "()V"⟩
abbrev cX2_startAnew : ByteArray := prog_4_method_4_code
def yX2_startAnew : MethodName := ⟨RX2, "startAnew", "(I)V"⟩
abbrev cX2_addJudge : ByteArray := prog_4_method_5_code
def yX2_addJudge : MethodName := ⟨RX2, "addJudge", "(II)V"⟩
abbrev cX2_hasJudge : ByteArray := prog_4_method_6_code
def yX2_hasJudge : MethodName := ⟨RX2, "hasJudge", "(I)Z"⟩
abbrev cX2_hasCase : ByteArray := prog_4_method_7_code
def yX2_hasCase : MethodName := ⟨RX2, "hasCase", "(I)Z"⟩
abbrev cX2_isAway : ByteArray := prog_4_method_8_code
def yX2_isAway : MethodName := ⟨RX2, "isAway", "(I)Z"⟩
abbrev cX2_isBarred : ByteArray := prog_4_method_9_code
def yX2_isBarred : MethodName := ⟨RX2, "isBarred", "(II)Z"⟩
abbrev cX2_isFreeFor : ByteArray := prog_4_method_10_code
def yX2_isFreeFor : MethodName := ⟨RX2, "isFreeFor", "(II)Z"⟩
abbrev cX2_hasSomeoneFor : ByteArray := prog_4_method_11_code
def yX2_hasSomeoneFor : MethodName := ⟨RX2, "hasSomeoneFor", "(II)Z"⟩
abbrev cX2_everyCaseHasSomeone : ByteArray := prog_4_method_12_code
def yX2_everyCaseHasSomeone : MethodName := ⟨RX2, "everyCaseHasSomeone", "()Z"⟩
abbrev cX2_casesOf : ByteArray := prog_4_method_13_code
def yX2_casesOf : MethodName := ⟨RX2, "casesOf", "(I)I"⟩
abbrev cX2_weightOf : ByteArray := prog_4_method_14_code
def yX2_weightOf : MethodName := ⟨RX2, "weightOf", "(II)I"⟩
abbrev cX2_weightsFreeFor : ByteArray := prog_4_method_15_code
def yX2_weightsFreeFor : MethodName := ⟨RX2, "weightsFreeFor", "(II)I"⟩
abbrev cX2_drawJudge : ByteArray := prog_4_method_16_code
def yX2_drawJudge : MethodName := ⟨RX2, "drawJudge", "(II)I"⟩
abbrev cX2_weighAll : ByteArray := prog_4_method_17_code
def yX2_weighAll : MethodName := ⟨RX2, "weighAll", "(I)I"⟩
abbrev cX2_drawBelow : ByteArray := prog_4_method_18_code
def yX2_drawBelow : MethodName := ⟨RX2, "drawBelow", "(I)I"⟩
abbrev cX2_judgeReaching : ByteArray := prog_4_method_19_code
def yX2_judgeReaching : MethodName := ⟨RX2, "judgeReaching", "(I)I"⟩
abbrev cX2_settleDebts : ByteArray := prog_4_method_20_code
def yX2_settleDebts : MethodName := ⟨RX2, "settleDebts", "(I)V"⟩
abbrev cX2_addCase : ByteArray := prog_4_method_21_code
def yX2_addCase : MethodName := ⟨RX2, "addCase", "(II)I"⟩
abbrev cX2_drawCaseAgain : ByteArray := prog_4_method_22_code
def yX2_drawCaseAgain : MethodName := ⟨RX2, "drawCaseAgain", "(I)I"⟩
def RX3 : String := "CaseWheel$TextReader"
def TX3 : u_T := fun k => match k with
  | 0 => ("CaseWheel$TextReader", "text", "LCaseWheel$Letters;", true)
  | 1 => ("CaseWheel$TextReader", "kind", "I", false)
  | 2 => ("CaseWheel$TextReader", "start", "I", false)
  | 3 => ("CaseWheel$TextReader", "end", "I", false)
  | _ => ("CaseWheel$TextReader", "clauses", "I", false)
def tyX3 : Nat → FieldType := fun k => match k with
  | 0 => .object "CaseWheel$Letters"
  | 1 => .int
  | 2 => .int
  | 3 => .int
  | _ => .int
theorem nmX3 : ∀ a, a < 5 → ∀ b, b < 5 → a ≠ b → (TX3 a).2.1 ≠ (TX3 b).2.1 := by decide +kernel
theorem tyX3_ok : ∀ k, k < 5 → parseFieldDescriptor (TX3 k).2.2.1 = some (tyX3 k) := by decide +kernel
abbrev cX3_init : ByteArray := prog_5_method_1_code
def yX3_init : MethodName := ⟨RX3, "<init>", "(LCaseWheel$Letters;)V"⟩
abbrev cX3_readInto : ByteArray := prog_5_method_2_code
def yX3_readInto : MethodName := ⟨RX3, "readInto", "(LCaseWheel$State;)I"⟩
abbrev cX3_step : ByteArray := prog_5_method_3_code
def yX3_step : MethodName := ⟨RX3, "step", "()V"⟩
abbrev cX3_isOther : ByteArray := prog_5_method_4_code
def yX3_isOther : MethodName := ⟨RX3, "isOther", "(I)Z"⟩
abbrev cX3_isWord : ByteArray := prog_5_method_5_code
def yX3_isWord : MethodName := ⟨RX3, "isWord", "(Ljava/lang/String;)Z"⟩
abbrev cX3_numberWithin : ByteArray := prog_5_method_6_code
def yX3_numberWithin : MethodName := ⟨RX3, "numberWithin", "(II)I"⟩
abbrev cX3_readClause : ByteArray := prog_5_method_7_code
def yX3_readClause : MethodName := ⟨RX3, "readClause", "(LCaseWheel$State;)Z"⟩
abbrev cX3_readJudge : ByteArray := prog_5_method_8_code
def yX3_readJudge : MethodName := ⟨RX3, "readJudge", "(LCaseWheel$State;)Z"⟩
abbrev cX3_versedTold : ByteArray := prog_5_method_9_code
def yX3_versedTold : MethodName := ⟨RX3, "versedTold", "()I"⟩
abbrev cX3_readBar : ByteArray := prog_5_method_10_code
def yX3_readBar : MethodName := ⟨RX3, "readBar", "(LCaseWheel$State;)Z"⟩
abbrev cX3_readAway : ByteArray := prog_5_method_11_code
def yX3_readAway : MethodName := ⟨RX3, "readAway", "(LCaseWheel$State;)Z"⟩
abbrev cX3_readRule : ByteArray := prog_5_method_12_code
def yX3_readRule : MethodName := ⟨RX3, "readRule", "(LCaseWheel$State;)Z"⟩
def RX4 : String := "CaseWheel"
def TX4 : u_T := fun k => match k with
  | 0 => ("CaseWheel", "text", "LCaseWheel$Letters;", true)
  | 1 => ("CaseWheel", "docket", "LCaseWheel$Letters;", true)
  | 2 => ("CaseWheel", "slips", "[LCaseWheel$Letters;", true)
  | 3 => ("CaseWheel", "isThere", "[Z", true)
  | 4 => ("CaseWheel", "reader", "LCaseWheel$TextReader;", true)
  | 5 => ("CaseWheel", "asTold", "LCaseWheel$State;", true)
  | 6 => ("CaseWheel", "asRead", "LCaseWheel$State;", true)
  | 7 => ("CaseWheel", "now", "LCaseWheel$State;", true)
  | 8 => ("CaseWheel", "foretold", "LCaseWheel$State;", true)
  | 9 => ("CaseWheel", "history", "LCaseWheel$History;", true)
  | 10 => ("CaseWheel", "kept", "[LCaseWheel$State;", true)
  | _ => ("CaseWheel", "isKept", "[Z", true)
def tyX4 : Nat → FieldType := fun k => match k with
  | 0 => .object "CaseWheel$Letters"
  | 1 => .object "CaseWheel$Letters"
  | 2 => .array (.object "CaseWheel$Letters")
  | 3 => .array .boolean
  | 4 => .object "CaseWheel$TextReader"
  | 5 => .object "CaseWheel$State"
  | 6 => .object "CaseWheel$State"
  | 7 => .object "CaseWheel$State"
  | 8 => .object "CaseWheel$State"
  | 9 => .object "CaseWheel$History"
  | 10 => .array (.object "CaseWheel$State")
  | _ => .array .boolean
theorem nmX4 : ∀ a, a < 12 → ∀ b, b < 12 → a ≠ b → (TX4 a).2.1 ≠ (TX4 b).2.1 := by decide +kernel
theorem tyX4_ok : ∀ k, k < 12 → parseFieldDescriptor (TX4 k).2.2.1 = some (tyX4 k) := by decide +kernel
abbrev cX4_init : ByteArray := prog_1_method_1_code
def yX4_init : MethodName := ⟨RX4, "<init>", "()V"⟩
abbrev cX4_write : ByteArray := prog_1_method_2_code
def yX4_write : MethodName := ⟨RX4, "write", "(I)I"⟩
abbrev cX4_erase : ByteArray := prog_1_method_3_code
def yX4_erase : MethodName := ⟨RX4, "erase", "()I"⟩
abbrev cX4_fault : ByteArray := prog_1_method_4_code
def yX4_fault : MethodName := ⟨RX4, "fault", "()I"⟩
abbrev cX4_wheel : ByteArray := prog_1_method_5_code
def yX4_wheel : MethodName := ⟨RX4, "wheel", "()I"⟩
abbrev cX4_judge : ByteArray := prog_1_method_6_code
def yX4_judge : MethodName := ⟨RX4, "judge", "(II)I"⟩
abbrev cX4_caseOf : ByteArray := prog_1_method_7_code
def yX4_caseOf : MethodName := ⟨RX4, "caseOf", "(II)I"⟩
abbrev cX4_seal : ByteArray := prog_1_method_8_code
def yX4_seal : MethodName := ⟨RX4, "seal", "(I)I"⟩
abbrev cX4_assign : ByteArray := prog_1_method_9_code
def yX4_assign : MethodName := ⟨RX4, "assign", "(II)I"⟩
abbrev cX4_refuse : ByteArray := prog_1_method_10_code
def yX4_refuse : MethodName := ⟨RX4, "refuse", "(I)I"⟩
abbrev cX4_away : ByteArray := prog_1_method_11_code
def yX4_away : MethodName := ⟨RX4, "away", "(II)I"⟩
abbrev cX4_undo : ByteArray := prog_1_method_12_code
def yX4_undo : MethodName := ⟨RX4, "undo", "()I"⟩
abbrev cX4_keep : ByteArray := prog_1_method_13_code
def yX4_keep : MethodName := ⟨RX4, "keep", "(I)I"⟩
abbrev cX4_back : ByteArray := prog_1_method_14_code
def yX4_back : MethodName := ⟨RX4, "back", "(I)I"⟩
abbrev cX4_writing : ByteArray := prog_1_method_15_code
def yX4_writing : MethodName := ⟨RX4, "writing", "(I)I"⟩
abbrev cX4_sealOf : ByteArray := prog_1_method_16_code
def yX4_sealOf : MethodName := ⟨RX4, "sealOf", "(II)I"⟩
abbrev cX4_weight : ByteArray := prog_1_method_17_code
def yX4_weight : MethodName := ⟨RX4, "weight", "(II)I"⟩
abbrev cX4_odds : ByteArray := prog_1_method_18_code
def yX4_odds : MethodName := ⟨RX4, "odds", "(IIII)I"⟩
abbrev cX4_next : ByteArray := prog_1_method_19_code
def yX4_next : MethodName := ⟨RX4, "next", "(II)I"⟩
abbrev cX4_count : ByteArray := prog_1_method_20_code
def yX4_count : MethodName := ⟨RX4, "count", "(II)I"⟩
abbrev cX4_like : ByteArray := prog_1_method_21_code
def yX4_like : MethodName := ⟨RX4, "like", "(I)I"⟩
abbrev cX4_slip : ByteArray := prog_1_method_22_code
def yX4_slip : MethodName := ⟨RX4, "slip", "(I)I"⟩
abbrev cX4_insert : ByteArray := prog_1_method_23_code
def yX4_insert : MethodName := ⟨RX4, "insert", "(III)I"⟩
abbrev cX4_cut : ByteArray := prog_1_method_24_code
def yX4_cut : MethodName := ⟨RX4, "cut", "(III)I"⟩
abbrev cX4_join : ByteArray := prog_1_method_25_code
def yX4_join : MethodName := ⟨RX4, "join", "(II)I"⟩
abbrev cX4_letter : ByteArray := prog_1_method_26_code
def yX4_letter : MethodName := ⟨RX4, "letter", "(II)I"⟩
abbrev cX4_find : ByteArray := prog_1_method_27_code
def yX4_find : MethodName := ⟨RX4, "find", "(II)I"⟩
abbrev cX4_value : ByteArray := prog_1_method_28_code
def yX4_value : MethodName := ⟨RX4, "value", "(I)I"⟩
abbrev cX4_named : ByteArray := prog_1_method_29_code
def yX4_named : MethodName := ⟨RX4, "named", "(I)I"⟩
abbrev cX4_drop : ByteArray := prog_1_method_30_code
def yX4_drop : MethodName := ⟨RX4, "drop", "(I)I"⟩
abbrev cX4_told : ByteArray := prog_1_method_31_code
def yX4_told : MethodName := ⟨RX4, "told", "(I)I"⟩
abbrev cX4_isSeed : ByteArray := prog_1_method_32_code
def yX4_isSeed : MethodName := ⟨RX4, "isSeed", "(I)Z"⟩
abbrev cX4_isSubject : ByteArray := prog_1_method_33_code
def yX4_isSubject : MethodName := ⟨RX4, "isSubject", "(I)Z"⟩
abbrev cX4_isParty : ByteArray := prog_1_method_34_code
def yX4_isParty : MethodName := ⟨RX4, "isParty", "(I)Z"⟩
abbrev cX4_isSlip : ByteArray := prog_1_method_35_code
def yX4_isSlip : MethodName := ⟨RX4, "isSlip", "(I)Z"⟩
abbrev cX4_isDigit : ByteArray := prog_1_method_36_code
def yX4_isDigit : MethodName := ⟨RX4, "isDigit", "(I)Z"⟩
abbrev cX4_isSmallLetter : ByteArray := prog_1_method_37_code
def yX4_isSmallLetter : MethodName := ⟨RX4, "isSmallLetter", "(I)Z"⟩
abbrev cX4_isSlipLetter : ByteArray := prog_1_method_38_code
def yX4_isSlipLetter : MethodName := ⟨RX4, "isSlipLetter", "(I)Z"⟩
abbrev cX4_turned : ByteArray := prog_1_method_39_code
def yX4_turned : MethodName := ⟨RX4, "turned", "(I)I"⟩
abbrev cX4_ruleName : ByteArray := prog_1_method_40_code
def yX4_ruleName : MethodName := ⟨RX4, "ruleName", "(I)Ljava/lang/String;"⟩
abbrev cX4_commonDivisor : ByteArray := prog_1_method_41_code
def yX4_commonDivisor : MethodName := ⟨RX4, "commonDivisor", "(II)I"⟩
abbrev cX4_readText : ByteArray := prog_1_method_42_code
def yX4_readText : MethodName := ⟨RX4, "readText", "()I"⟩
abbrev cX4_forgetKept : ByteArray := prog_1_method_43_code
def yX4_forgetKept : MethodName := ⟨RX4, "forgetKept", "()V"⟩
abbrev cX4_dropAllSlips : ByteArray := prog_1_method_44_code
def yX4_dropAllSlips : MethodName := ⟨RX4, "dropAllSlips", "()V"⟩
abbrev cX4_recountBy : ByteArray := prog_1_method_45_code
def yX4_recountBy : MethodName := ⟨RX4, "recountBy", "(II)I"⟩
abbrev cX4_writeDocket : ByteArray := prog_1_method_46_code
def yX4_writeDocket : MethodName := ⟨RX4, "writeDocket", "()V"⟩
abbrev cX4_lettersOfWriting : ByteArray := prog_1_method_47_code
def yX4_lettersOfWriting : MethodName := ⟨RX4, "lettersOfWriting", "()I"⟩
abbrev cX4_lettersOfSlips : ByteArray := prog_1_method_48_code
def yX4_lettersOfSlips : MethodName := ⟨RX4, "lettersOfSlips", "()I"⟩
def RX5 : String := "CaseWheelModel"
def TX5 : u_T := fun k => match k with
  | 0 => ("CaseWheelModel", "row", "[I", true)
  | 1 => ("CaseWheelModel", "judges", "I", false)
  | 2 => ("CaseWheelModel", "rule", "I", false)
  | 3 => ("CaseWheelModel", "strengths", "[I", true)
  | 4 => ("CaseWheelModel", "versed", "[I", true)
  | 5 => ("CaseWheelModel", "undos", "I", false)
  | 6 => ("CaseWheelModel", "isKept", "[Z", true)
  | 7 => ("CaseWheelModel", "text", "[I", true)
  | 8 => ("CaseWheelModel", "length", "I", false)
  | 9 => ("CaseWheelModel", "sizes", "[I", true)
  | 10 => ("CaseWheelModel", "letters", "[I", true)
  | 11 => ("CaseWheelModel", "first", "I", false)
  | 12 => ("CaseWheelModel", "behind", "I", false)
  | 13 => ("CaseWheelModel", "readJudges", "I", false)
  | 14 => ("CaseWheelModel", "clauses", "I", false)
  | 15 => ("CaseWheelModel", "doing", "Z", false)
  | 16 => ("CaseWheelModel", "numbers", "[I", true)
  | 17 => ("CaseWheelModel", "words", "[I", true)
  | 18 => ("CaseWheelModel", "written", "[I", true)
  | _ => ("CaseWheelModel", "writtenMany", "I", false)
def tyX5 : Nat → FieldType := fun k => match k with
  | 0 => .array .int
  | 1 => .int
  | 2 => .int
  | 3 => .array .int
  | 4 => .array .int
  | 5 => .int
  | 6 => .array .boolean
  | 7 => .array .int
  | 8 => .int
  | 9 => .array .int
  | 10 => .array .int
  | 11 => .int
  | 12 => .int
  | 13 => .int
  | 14 => .int
  | 15 => .boolean
  | 16 => .array .int
  | 17 => .array .int
  | 18 => .array .int
  | _ => .int
theorem nmX5 : ∀ a, a < 20 → ∀ b, b < 20 → a ≠ b → (TX5 a).2.1 ≠ (TX5 b).2.1 := by decide +kernel
theorem tyX5_ok : ∀ k, k < 20 → parseFieldDescriptor (TX5 k).2.2.1 = some (tyX5 k) := by decide +kernel
abbrev cX5_init : ByteArray := prog_7_method_1_code
def yX5_init : MethodName := ⟨RX5, "<init>", "()V"⟩
abbrev cX5_in : ByteArray := prog_7_method_2_code
def yX5_in : MethodName := ⟨RX5, "in", "(JJJ)Z"⟩
abbrev cX5_has : ByteArray := prog_7_method_3_code
def yX5_has : MethodName := ⟨RX5, "has", "(II)Z"⟩
abbrev cX5_copyRow : ByteArray := prog_7_method_4_code
def yX5_copyRow : MethodName := ⟨RX5, "copyRow", "(II)V"⟩
abbrev cX5_anew : ByteArray := prog_7_method_5_code
def yX5_anew : MethodName := ⟨RX5, "anew", "()V"⟩
abbrev cX5_write : ByteArray := prog_7_method_6_code
def yX5_write : MethodName := ⟨RX5, "write", "(I)I"⟩
abbrev cX5_erase : ByteArray := prog_7_method_7_code
def yX5_erase : MethodName := ⟨RX5, "erase", "()I"⟩
abbrev cX5_isSmall : ByteArray := prog_7_method_8_code
def yX5_isSmall : MethodName := ⟨RX5, "isSmall", "(I)Z"⟩
abbrev cX5_isDigit : ByteArray := prog_7_method_9_code
def yX5_isDigit : MethodName := ⟨RX5, "isDigit", "(I)Z"⟩
abbrev cX5_nextToken : ByteArray := prog_7_method_10_code
def yX5_nextToken : MethodName := ⟨RX5, "nextToken", "()V"⟩
abbrev cX5_isWord : ByteArray := prog_7_method_11_code
def yX5_isWord : MethodName := ⟨RX5, "isWord", "(I)Z"⟩
abbrev cX5_wordOf : ByteArray := prog_7_method_12_code
def yX5_wordOf : MethodName := ⟨RX5, "wordOf", "(II)I"⟩
abbrev cX5_number : ByteArray := prog_7_method_13_code
def yX5_number : MethodName := ⟨RX5, "number", "(III)Z"⟩
abbrev cX5_readsVersed : ByteArray := prog_7_method_14_code
def yX5_readsVersed : MethodName := ⟨RX5, "readsVersed", "()Z"⟩
abbrev cX5_readsRule : ByteArray := prog_7_method_15_code
def yX5_readsRule : MethodName := ⟨RX5, "readsRule", "()Z"⟩
abbrev cX5_readsRest : ByteArray := prog_7_method_16_code
def yX5_readsRest : MethodName := ⟨RX5, "readsRest", "(I)Z"⟩
abbrev cX5_does : ByteArray := prog_7_method_17_code
def yX5_does : MethodName := ⟨RX5, "does", "(I)V"⟩
abbrev cX5_readsClause : ByteArray := prog_7_method_18_code
def yX5_readsClause : MethodName := ⟨RX5, "readsClause", "()Z"⟩
abbrev cX5_reads : ByteArray := prog_7_method_19_code
def yX5_reads : MethodName := ⟨RX5, "reads", "(Z)Z"⟩
abbrev cX5_fault : ByteArray := prog_7_method_20_code
def yX5_fault : MethodName := ⟨RX5, "fault", "()I"⟩
abbrev cX5_wheel : ByteArray := prog_7_method_21_code
def yX5_wheel : MethodName := ⟨RX5, "wheel", "()I"⟩
abbrev cX5_isJudge : ByteArray := prog_7_method_22_code
def yX5_isJudge : MethodName := ⟨RX5, "isJudge", "(I)Z"⟩
abbrev cX5_isCase : ByteArray := prog_7_method_23_code
def yX5_isCase : MethodName := ⟨RX5, "isCase", "(I)Z"⟩
abbrev cX5_judge : ByteArray := prog_7_method_24_code
def yX5_judge : MethodName := ⟨RX5, "judge", "(II)I"⟩
abbrev cX5_caseOf : ByteArray := prog_7_method_25_code
def yX5_caseOf : MethodName := ⟨RX5, "caseOf", "(II)I"⟩
abbrev cX5_turned : ByteArray := prog_7_method_26_code
def yX5_turned : MethodName := ⟨RX5, "turned", "(I)I"⟩
abbrev cX5_drawFor : ByteArray := prog_7_method_27_code
def yX5_drawFor : MethodName := ⟨RX5, "drawFor", "(II)I"⟩
abbrev cX5_weightOf : ByteArray := prog_7_method_28_code
def yX5_weightOf : MethodName := ⟨RX5, "weightOf", "(III)I"⟩
abbrev cX5_isBarred : ByteArray := prog_7_method_29_code
def yX5_isBarred : MethodName := ⟨RX5, "isBarred", "(III)Z"⟩
abbrev cX5_isAnyone : ByteArray := prog_7_method_30_code
def yX5_isAnyone : MethodName := ⟨RX5, "isAnyone", "(III)Z"⟩
abbrev cX5_drawOnce : ByteArray := prog_7_method_31_code
def yX5_drawOnce : MethodName := ⟨RX5, "drawOnce", "(II)I"⟩
abbrev cX5_owe : ByteArray := prog_7_method_32_code
def yX5_owe : MethodName := ⟨RX5, "owe", "(II)V"⟩
abbrev cX5_assigned : ByteArray := prog_7_method_33_code
def yX5_assigned : MethodName := ⟨RX5, "assigned", "(III)I"⟩
abbrev cX5_keepPast : ByteArray := prog_7_method_34_code
def yX5_keepPast : MethodName := ⟨RX5, "keepPast", "()V"⟩
abbrev cX5_sealAt : ByteArray := prog_7_method_35_code
def yX5_sealAt : MethodName := ⟨RX5, "sealAt", "(II)V"⟩
abbrev cX5_seal : ByteArray := prog_7_method_36_code
def yX5_seal : MethodName := ⟨RX5, "seal", "(I)I"⟩
abbrev cX5_isSubject : ByteArray := prog_7_method_37_code
def yX5_isSubject : MethodName := ⟨RX5, "isSubject", "(I)Z"⟩
abbrev cX5_isParty : ByteArray := prog_7_method_38_code
def yX5_isParty : MethodName := ⟨RX5, "isParty", "(I)Z"⟩
abbrev cX5_assign : ByteArray := prog_7_method_39_code
def yX5_assign : MethodName := ⟨RX5, "assign", "(II)I"⟩
abbrev cX5_refuse : ByteArray := prog_7_method_40_code
def yX5_refuse : MethodName := ⟨RX5, "refuse", "(I)I"⟩
abbrev cX5_away : ByteArray := prog_7_method_41_code
def yX5_away : MethodName := ⟨RX5, "away", "(II)I"⟩
abbrev cX5_undo : ByteArray := prog_7_method_42_code
def yX5_undo : MethodName := ⟨RX5, "undo", "()I"⟩
abbrev cX5_keep : ByteArray := prog_7_method_43_code
def yX5_keep : MethodName := ⟨RX5, "keep", "(I)I"⟩
abbrev cX5_back : ByteArray := prog_7_method_44_code
def yX5_back : MethodName := ⟨RX5, "back", "(I)I"⟩
abbrev cX5_put : ByteArray := prog_7_method_45_code
def yX5_put : MethodName := ⟨RX5, "put", "(I)V"⟩
abbrev cX5_layWriting : ByteArray := prog_7_method_46_code
def yX5_layWriting : MethodName := ⟨RX5, "layWriting", "()V"⟩
abbrev cX5_writing : ByteArray := prog_7_method_47_code
def yX5_writing : MethodName := ⟨RX5, "writing", "(I)I"⟩
abbrev cX5_sealOf : ByteArray := prog_7_method_48_code
def yX5_sealOf : MethodName := ⟨RX5, "sealOf", "(II)I"⟩
abbrev cX5_weight : ByteArray := prog_7_method_49_code
def yX5_weight : MethodName := ⟨RX5, "weight", "(II)I"⟩
abbrev cX5_odds : ByteArray := prog_7_method_50_code
def yX5_odds : MethodName := ⟨RX5, "odds", "(IIII)I"⟩
abbrev cX5_next : ByteArray := prog_7_method_51_code
def yX5_next : MethodName := ⟨RX5, "next", "(II)I"⟩
abbrev cX5_canCount : ByteArray := prog_7_method_52_code
def yX5_canCount : MethodName := ⟨RX5, "canCount", "()Z"⟩
abbrev cX5_sameBy : ByteArray := prog_7_method_53_code
def yX5_sameBy : MethodName := ⟨RX5, "sameBy", "(I)I"⟩
abbrev cX5_count : ByteArray := prog_7_method_54_code
def yX5_count : MethodName := ⟨RX5, "count", "(II)I"⟩
abbrev cX5_like : ByteArray := prog_7_method_55_code
def yX5_like : MethodName := ⟨RX5, "like", "(I)I"⟩
abbrev cX5_isSlip : ByteArray := prog_7_method_56_code
def yX5_isSlip : MethodName := ⟨RX5, "isSlip", "(I)Z"⟩
abbrev cX5_slip : ByteArray := prog_7_method_57_code
def yX5_slip : MethodName := ⟨RX5, "slip", "(I)I"⟩
abbrev cX5_insert : ByteArray := prog_7_method_58_code
def yX5_insert : MethodName := ⟨RX5, "insert", "(III)I"⟩
abbrev cX5_cut : ByteArray := prog_7_method_59_code
def yX5_cut : MethodName := ⟨RX5, "cut", "(III)I"⟩
abbrev cX5_join : ByteArray := prog_7_method_60_code
def yX5_join : MethodName := ⟨RX5, "join", "(II)I"⟩
abbrev cX5_letter : ByteArray := prog_7_method_61_code
def yX5_letter : MethodName := ⟨RX5, "letter", "(II)I"⟩
abbrev cX5_standsAt : ByteArray := prog_7_method_62_code
def yX5_standsAt : MethodName := ⟨RX5, "standsAt", "(III)Z"⟩
abbrev cX5_find : ByteArray := prog_7_method_63_code
def yX5_find : MethodName := ⟨RX5, "find", "(II)I"⟩
abbrev cX5_value : ByteArray := prog_7_method_64_code
def yX5_value : MethodName := ⟨RX5, "value", "(I)I"⟩
abbrev cX5_named : ByteArray := prog_7_method_65_code
def yX5_named : MethodName := ⟨RX5, "named", "(I)I"⟩
abbrev cX5_drop : ByteArray := prog_7_method_66_code
def yX5_drop : MethodName := ⟨RX5, "drop", "(I)I"⟩
abbrev cX5_allLetters : ByteArray := prog_7_method_67_code
def yX5_allLetters : MethodName := ⟨RX5, "allLetters", "()I"⟩
abbrev cX5_told : ByteArray := prog_7_method_68_code
def yX5_told : MethodName := ⟨RX5, "told", "(I)I"⟩
def RJ9 : String := "java/lang/Math"
abbrev cJ9_max_7cf53 : ByteArray := prog_8_method_65_code
def yJ9_max_7cf53 : MethodName := ⟨RJ9, "max", "(II)I"⟩
abbrev cJ9_min_7cf53 : ByteArray := prog_8_method_69_code
def yJ9_min_7cf53 : MethodName := ⟨RJ9, "min", "(II)I"⟩
def RJ0 : String := "java/lang/String"
abbrev cJ0_length_8abf5 : ByteArray := prog_9_method_54_code
def yJ0_length_8abf5 : MethodName := ⟨RJ0, "length", "()I"⟩
abbrev cJ0_charAt_5068e : ByteArray := prog_9_method_56_code
def yJ0_charAt_5068e : MethodName := ⟨RJ0, "charAt", "(I)C"⟩
abbrev cJ0_coder_7d493 : ByteArray := prog_9_method_152_code
def yJ0_coder_7d493 : MethodName := ⟨RJ0, "coder", "()B"⟩
abbrev cJ0_isLatin1_aae02 : ByteArray := prog_9_method_154_code
def yJ0_isLatin1_aae02 : MethodName := ⟨RJ0, "isLatin1", "()Z"⟩
abbrev cJ0_checkIndex_df160 : ByteArray := prog_9_method_155_code
def yJ0_checkIndex_df160 : MethodName := ⟨RJ0, "checkIndex", "(II)V"⟩
def RJ1 : String := "java/lang/StringLatin1"
abbrev cJ1_charAt_3b067 : ByteArray := prog_10_method_2_code
def yJ1_charAt_3b067 : MethodName := ⟨RJ1, "charAt", "([BI)C"⟩
def RJ2 : String := "java/lang/StringUTF16"
abbrev cJ2_getChar_3b067 : ByteArray := prog_11_method_5_code
def yJ2_getChar_3b067 : MethodName := ⟨RJ2, "getChar", "([BI)C"⟩
abbrev cJ2_length_9d52b : ByteArray := prog_11_method_6_code
def yJ2_length_9d52b : MethodName := ⟨RJ2, "length", "([B)I"⟩
abbrev cJ2_charAt_3b067 : ByteArray := prog_11_method_83_code
def yJ2_charAt_3b067 : MethodName := ⟨RJ2, "charAt", "([BI)C"⟩
abbrev cJ2_checkIndex_2214a : ByteArray := prog_11_method_91_code
def yJ2_checkIndex_2214a : MethodName := ⟨RJ2, "checkIndex", "(I[B)V"⟩
def RJ10 : String := "java/lang/System"
def RJ7 : String := "java/util/Arrays"
abbrev cJ7_fill_53178 : ByteArray := prog_13_method_103_code
def yJ7_fill_53178 : MethodName := ⟨RJ7, "fill", "([II)V"⟩
def RJ3 : String := "jdk/internal/util/Preconditions"
abbrev cJ3_checkIndex_8e157 : ByteArray := prog_14_method_11_code
def yJ3_checkIndex_8e157 : MethodName := ⟨RJ3, "checkIndex", "(IILjava/util/function/BiFunction;)I"⟩
def RL : String := "CaseWheelLaw"
end
section
/-! THE LOGIC OF THIS PROOF: a method that makes no cell, over a world of cells that are numbered: 'EV G μ args hh Q' (it returns r, the cells hh become hh', and Q r hh'), 'RR' (the same from a place inside it) -/
abbrev GG : Type := Launch × va_G × (ClassId × ClassId × ClassId × ClassId) × (Nat → Nat) × Nat × (Nat → Nat) × (Nat → Nat)
def gl (G : GG) : Launch := G.1
def gD (G : GG) : va_G := G.2.1
def gI (G : GG) : ClassId := G.2.2.1.1
def gZ (G : GG) : ClassId := G.2.2.1.2.1
def gS (G : GG) : ClassId := G.2.2.1.2.2.1
def gL (G : GG) : ClassId := G.2.2.1.2.2.2
def ad (G : GG) : Nat → Nat := G.2.2.2.1
def gn (G : GG) : Nat := G.2.2.2.2.1
def kK (G : GG) : Nat → Nat := G.2.2.2.2.2.1
def kV (G : GG) : Nat → Nat := G.2.2.2.2.2.2
abbrev HH : Type := Nat → va_E
def clsX : List vw_C := [(RX0, TX0, 3), (RX1, TX1, 2), (RX2, TX2, 15), (RX3, TX3, 5), (RX4, TX4, 12), (RX5, TX5, 20)]
def gty (G : GG) : List (ClassId × FieldType) := [(gI G, .int), (gZ G, .boolean), (gS G, .object "CaseWheel$State"), (gL G, .object "CaseWheel$Letters")]
def wd (G : GG) (hh : HH) : va_W := (List.range (gn G)).map (fun i => (ad G i, hh i))
def gA (G : GG) : Nat → Prop := fun q => ∃ i, i < gn G ∧ q = ad G i
def XW : List Cond := lw_tbl.filter goodWord
def nestW : List Cond := [.methodLinkNest "CaseWheel$TextReader" 48 yX4_isSmallLetter "CaseWheel", .methodLinkNest "CaseWheel$TextReader" 51 yX4_isDigit "CaseWheel", .methodLinkNest "CaseWheel$TextReader" 108 yX4_isSubject "CaseWheel", .methodLinkNest "CaseWheel$Letters" 52 yX4_ruleName "CaseWheel", .methodLinkNest "CaseWheel$State" 110 yX4_turned "CaseWheel"]
def strW : List (String × Nat × String) := [("CaseWheel$TextReader", 62, "wheel"), ("CaseWheel$TextReader", 73, "judge"), ("CaseWheel$TextReader", 78, "bar"), ("CaseWheel$TextReader", 83, "away"), ("CaseWheel$TextReader", 88, "rule"), ("CaseWheel", 252, "plain"), ("CaseWheel", 254, "versed"), ("CaseWheel", 255, "owing"), ("CaseWheel", 257, "both")]
def lenS : List Nat := [5, 5, 3, 4, 4, 5, 6, 5, 4]
def bytS : List (List Int32) := [[119, 104, 101, 101, 108], [106, 117, 100, 103, 101], [98, 97, 114], [97, 119, 97, 121], [114, 117, 108, 101], [112, 108, 97, 105, 110], [118, 101, 114, 115, 101, 100], [111, 119, 105, 110, 103], [98, 111, 116, 104]]
/-- what holds of every state that a method of the world begins in, its cells apart -/
def GF (G : GG) (U : State) : Prop := va_K (gD G) clsX (gty G) U ∧ (∀ i j, i < gn G → j < gn G → ad G i = ad G j → i = j) ∧ (∀ w ∈ nestW, va_Nw w U) ∧
  (∀ i q, strW[i]? = some q → vk_R q.1 q.2.1 q.2.2 (kK G i) U) ∧ vk_S 9 lenS bytS (kK G) (kV G) (gA G) U U.heap ∧
  va_Z "java/lang/String" "COMPACT_STRINGS" "Z" (.int 1) (gA G) U U.heap ∧ va_Zq "jdk/internal/util/Preconditions" "SIOOBE_FORMATTER" "Ljava/util/function/BiFunction;" (gA G) U U.heap
abbrev MI : Type := MethodName × ByteArray × Nat × Option FieldType × Nat
def rmH (h : Nat) : Room := { frames := h, cells := 0, slots := 0, locals := 40 * h }
def mcd (μ : MI) : Cond := .code μ.1 μ.2.1 μ.2.2.1 μ.2.2.2.1
abbrev QQ : Type := Option Value → HH → Prop
def QV (G : GG) (Q : QQ) : Array Value → State → Outcome → State → Prop := fun _ st oc t => (∃ r hh', oc = .returned r ∧ Q r hh' ∧ va_P (gD G) clsX (wd G hh') t.heap) ∧ va_F (gA G) st t
def PV (G : GG) (args : List Value) (hh : HH) : Array Value → State → Prop := fun v U => v = args.toArray ∧ va_P (gD G) clsX (wd G hh) U.heap ∧ GF G U
def EV (G : GG) (μ : MI) (args : List Value) (hh : HH) (Q : QQ) : Prop := Met (gl G) μ.1 (mcd μ :: XW) (rmH μ.2.2.2.2) (PV G args hh) (QV G Q) 0 0 (gA G)
def EVi (G : GG) (μ : MI) (args : List Value) (hh : HH) (P : Int32 → HH → Prop) : Prop := EV G μ args hh (fun r h => ∃ v, r = some (.int v) ∧ P v h)
def EVp (G : GG) (μ : MI) (args : List Value) (hh : HH) (w : Int32) : Prop := EVi G μ args hh (fun v h => v = w ∧ h = hh)
def EVr (G : GG) (μ : MI) (args : List Value) (hh : HH) (P : Nat → HH → Prop) : Prop := EV G μ args hh (fun r h => ∃ v, r = some (.ref v) ∧ P v h)
def EVv (G : GG) (μ : MI) (args : List Value) (hh : HH) (P : HH → Prop) : Prop := EV G μ args hh (fun r h => r = none ∧ P h)
def CX (G : GG) (μ : MI) (p : Program) (s : State) (m : MethodId) (args : Array Value) (meth : Method) (c : Code) : Prop := p.tables.exec = Jvm.exec ∧ c.code = μ.2.1 ∧ meth.sig.returnType = μ.2.2.2.1 ∧ c.maxLocals = μ.2.2.1 ∧ s.vm.findClass μ.1.cls = some m.cls ∧ meth.locks = false ∧ (∀ w ∈ mcd μ :: XW, w.before args s = true) ∧ GF G s
def RR (G : GG) (μ : MI) (pc : Nat) (lv : List (Nat × Value)) (st : List Value) (hh : HH) (Q : QQ) : Prop :=
  ∀ (p : Program) (e : Env) (s : State) (m : MethodId) (args : Array Value) (below : List Frame) (meth : Method) (c : Code), CX G μ p s m args meth c → ∀ (H : Heap) (locs : List Loc) (ls : Array Slot), va_P (gD G) clsX (wd G hh) H → va_S (gA G) s.heap H locs → lv_has ls μ.2.2.1 lv →
    W p (gl G) e (rmH μ.2.2.2.2) s m args below meth c H locs 0 0 (MQ below (QV G Q) args s 0 0 (gA G)) (F0 m pc ls st)
theorem GF.warm {G : GG} {s U : State} {H : Heap} {locs : List Loc} (h : GF G s) (hU : U.heap = H) (hW : s.WarmedH U.vm) (hS : va_S (gA G) s.heap H locs) : GF G U := by
  obtain ⟨h1, h2, h3, h4, h5, h6, h7⟩ := h
  have hal := hW.alike
  refine ⟨va_K.moved hal h1, h2, fun w hw => ?_, fun i q hq => (h4 i q hq).warm hW, ?_, ?_, ?_⟩
  · have hz := h3 w hw
    simp only [nestW, List.mem_cons, List.not_mem_nil, or_false] at hw
    rcases hw with rfl | rfl | rfl | rfl | rfl <;> exact hz.warmM hW
  · rw [hU]; exact (h5.moved hal).kept hS.2.1
  · rw [hU]; exact (h6.moved hal).kept hS.2.1
  · rw [hU]; exact (h7.moved hal).kept hS.2.1
theorem GF.calling {G : GG} {U : State} {g : JFrame} {mk : MethodId} {a : Array Value} (h : GF G U) : GF G (U.calling g mk a) := by
  obtain ⟨h1, h2, h3, h4, h5, h6, h7⟩ := h
  have hal : U.vm.Alike (U.calling g mk a).vm := Vm.Alike.refl U.vm
  refine ⟨va_K.moved hal h1, h2, fun w hw => ?_, fun i q hq => vk_R.same rfl (h4 i q hq), h5.moved hal, h6.moved hal, h7.moved hal⟩
  have hz := h3 w hw
  simp only [nestW, List.mem_cons, List.not_mem_nil, or_false] at hw
  rcases hw with rfl | rfl | rfl | rfl | rfl <;> exact va_Nw.same rfl rfl hz
theorem PV.blind {G : GG} {args : List Value} {hh : HH} : FrameBlind (PV G args hh) := fun _ _ _ _ h => ⟨h.1, h.2.1, h.2.2.calling⟩
theorem wd_get {G : GG} {hh : HH} {k : Nat} (hk : k < gn G) : (wd G hh)[k]? = some (ad G k, hh k) := by simp [wd, hk]
theorem wd_set {G : GG} {hh : HH} {k : Nat} (hk : k < gn G) (e : va_E) : (wd G hh).set k (ad G k, e) = wd G (va_up hh k e) := by
  apply List.ext_getElem?
  intro i
  by_cases hi : i = k
  · subst hi
    rw [wd_get hk]
    simp [wd, hk, va_up]
  · rw [List.getElem?_set_ne (fun h => hi h.symm)]
    by_cases hn : i < gn G
    · rw [wd_get hn, wd_get hn]
      simp [va_up, hi]
    · simp [wd, hn]
theorem GF.D {G : GG} {s : State} (h : GF G s) (hh : HH) : va_D (gA G) (wd G hh) := by
  refine ⟨fun i j x y hi hj hxy => ?_, fun k q hq => ?_⟩
  · have hi' : i < gn G := by
      have := (List.getElem?_eq_some_iff.mp hi).1
      simpa [wd] using this
    have hj' : j < gn G := by
      have := (List.getElem?_eq_some_iff.mp hj).1
      simpa [wd] using this
    rw [wd_get hi'] at hi
    rw [wd_get hj'] at hj
    cases hi; cases hj
    exact h.2.1 i j hi' hj' hxy
  · have hk' : k < gn G := by
      have := (List.getElem?_eq_some_iff.mp hq).1
      simpa [wd] using this
    rw [wd_get hk'] at hq
    cases hq
    exact ⟨k, hk', rfl⟩
/-- the cell k -/
def hAt (G : GG) (hh : HH) (k : Nat) (e : va_E) : Prop := k < gn G ∧ hh k = e
theorem hAt.get {G : GG} {hh : HH} {k : Nat} {e : va_E} (h : hAt G hh k e) : (wd G hh)[k]? = some (ad G k, e) := by rw [← h.2]; exact wd_get h.1
theorem hAt.up {G : GG} {hh : HH} {k : Nat} {e : va_E} (h : k < gn G) : hAt G (va_up hh k e) k e := ⟨h, by simp [va_up]⟩
theorem hAt.ne {G : GG} {hh : HH} {k j : Nat} {e e' : va_E} (h : hAt G hh k e) (hn : k ≠ j) : hAt G (va_up hh j e') k e := ⟨h.1, by simp [va_up, hn, h.2]⟩
/-- a method out of its body -/
theorem EV.of {G : GG} {μ : MI} {args : List Value} {hh : HH} {Q : QQ} (lv : List (Nat × Value)) (hy : plainName μ.1.cls = true) (hn : (lg_sl args).length ≤ μ.2.2.1) (hl : lv_args 0 args = lv) (k : RR G μ 0 lv [] hh Q) : EV G μ args hh Q := by
  subst hl
  refine Met.ofW (cc := μ.2.1) (maxL := μ.2.2.1) (ret := μ.2.2.2.1) hy rfl ?_
  intro p e s m args' below meth c s₁ B hml hv
  obtain ⟨rfl, hP, hG⟩ := hv
  have hts := atoms_spec (ws := mcd μ :: XW) B.pre
  have hown : s.vm.findClass μ.1.cls = some m.cls := findClass_of_methodNamed B.named
  rw [lg_entry_eq]
  exact k p e s m _ below meth c ⟨B.exec, B.bytes, B.returns, hml, hown, B.notSynchronized, hts, hG⟩ s.heap [] _ hP va_S.rf (lv_entry args hn)
/-! locals -/
def lvGet (lv : List (Nat × Value)) (i : Nat) : Option Value := (lv.find? (fun q => q.1 == i)).map (fun q => q.2)
def lvPut (lv : List (Nat × Value)) (i : Nat) (v : Value) : List (Nat × Value) := (i, v) :: lv.filter (fun q => !(q.1 == i) && !(q.1 + 1 == i && q.2.category == 2))
def lvPutL (lv : List (Nat × Value)) (i : Nat) (v : Value) : List (Nat × Value) := (i, v) :: lv.filter (fun q => !(q.1 == i) && (!(q.1 == i + 1) && !(q.1 + 1 == i && q.2.category == 2)))
theorem lvGet_has {ls : Array Slot} {nL : Nat} {lv : List (Nat × Value)} {i : Nat} {v : Value} (h : lv_has ls nL lv) (hg : lvGet lv i = some v) : ls[i]? = some (.val v) := by
  unfold lvGet at hg
  cases hf : lv.find? (fun q => q.1 == i) with
  | none => rw [hf] at hg; cases hg
  | some q =>
    rw [hf] at hg
    have h1 := List.find?_some hf
    have h2 := List.mem_of_find?_eq_some hf
    have h3 := h.2.2 q h2
    have e1 : q.1 = i := by simpa using h1
    have e2 : q.2 = v := by simpa using hg
    rw [e1, e2] at h3
    exact h3
theorem lvGet_mem {lv : List (Nat × Value)} {i : Nat} {v : Value} (hg : lvGet lv i = some v) : ∃ k : Nat, lv[k]? = some (i, v) := by
  unfold lvGet at hg
  cases hf : lv.find? (fun q => q.1 == i) with
  | none => rw [hf] at hg; cases hg
  | some q =>
    rw [hf] at hg
    have h1 := List.find?_some hf
    have h2 := List.mem_of_find?_eq_some hf
    have e1 : q.1 = i := by simpa using h1
    have e2 : q.2 = v := by simpa using hg
    obtain ⟨k, hk⟩ := List.getElem?_of_mem h2
    refine ⟨k, ?_⟩
    rw [hk, ← e1, ← e2]
end
section
section Rules
variable {G : GG} {μ : MI} {pc : Nat} {lv : List (Nat × Value)} {st : List Value} {hh : HH} {Q : QQ}
theorem R_iconst {n : Int} {v : Int32} (hd : decode μ.2.1 pc = .ok (.iconst n, 1)) (hv : Int32.ofInt n = v) (k : RR G μ (pc + 1) lv (.int v :: st) hh Q) : RR G μ pc lv (st) hh Q := fun p e s m args below meth c C H locs ls hP hS hl => lv_iconst C.1 C.2.1 hd hv (k p e s m args below meth c C H locs ls hP hS hl)
theorem R_bipush {n : Int} {v : Int32} (hd : decode μ.2.1 pc = .ok (.bipush n, 2)) (hv : (Int8.ofInt n).toInt32 = v) (k : RR G μ (pc + 2) lv (.int v :: st) hh Q) : RR G μ pc lv (st) hh Q := fun p e s m args below meth c C H locs ls hP hS hl => lv_bipush C.1 C.2.1 hd hv (k p e s m args below meth c C H locs ls hP hS hl)
theorem R_sipush {n : Int} {v : Int32} (hd : decode μ.2.1 pc = .ok (.sipush n, 3)) (hv : (Int16.ofInt n).toInt32 = v) (k : RR G μ (pc + 3) lv (.int v :: st) hh Q) : RR G μ pc lv (st) hh Q := fun p e s m args below meth c C H locs ls hP hS hl => lv_sipush C.1 C.2.1 hd hv (k p e s m args below meth c C H locs ls hP hS hl)
theorem R_lconst {n : Fin 2} {v : Int64} (hd : decode μ.2.1 pc = .ok (.lconst n, 1)) (hv : Int64.ofNat (n : Nat) = v) (k : RR G μ (pc + 1) lv (.long v :: st) hh Q) : RR G μ pc lv (st) hh Q := fun p e s m args below meth c C H locs ls hP hS hl => lv_lconst C.1 C.2.1 hd hv (k p e s m args below meth c C H locs ls hP hS hl)
theorem R_iload_n {i : Fin 4} {x : Int32} (hd : decode μ.2.1 pc = .ok (.iload_n i, 1)) (hg : lvGet lv (i : Nat) = some (.int x)) (k : RR G μ (pc + 1) lv (.int x :: st) hh Q) : RR G μ pc lv (st) hh Q := fun p e s m args below meth c C H locs ls hP hS hl => lv_iload_n C.1 C.2.1 hd rfl (lvGet_has hl hg) (k p e s m args below meth c C H locs ls hP hS hl)
theorem R_iload {i : Nat} {x : Int32} (hd : decode μ.2.1 pc = .ok (.iload i, 2)) (hg : lvGet lv i = some (.int x)) (k : RR G μ (pc + 2) lv (.int x :: st) hh Q) : RR G μ pc lv (st) hh Q := fun p e s m args below meth c C H locs ls hP hS hl => lv_iload C.1 C.2.1 hd (lvGet_has hl hg) (k p e s m args below meth c C H locs ls hP hS hl)
theorem R_lload_n {i : Fin 4} {x : Int64} (hd : decode μ.2.1 pc = .ok (.lload_n i, 1)) (hg : lvGet lv (i : Nat) = some (.long x)) (k : RR G μ (pc + 1) lv (.long x :: st) hh Q) : RR G μ pc lv (st) hh Q := fun p e s m args below meth c C H locs ls hP hS hl => lv_lload_n C.1 C.2.1 hd rfl (lvGet_has hl hg) (k p e s m args below meth c C H locs ls hP hS hl)
theorem R_lload {i : Nat} {x : Int64} (hd : decode μ.2.1 pc = .ok (.lload i, 2)) (hg : lvGet lv i = some (.long x)) (k : RR G μ (pc + 2) lv (.long x :: st) hh Q) : RR G μ pc lv (st) hh Q := fun p e s m args below meth c C H locs ls hP hS hl => lv_lload C.1 C.2.1 hd (lvGet_has hl hg) (k p e s m args below meth c C H locs ls hP hS hl)
theorem R_aload_n {i : Fin 4} {x : Nat} (hd : decode μ.2.1 pc = .ok (.aload_n i, 1)) (hg : lvGet lv (i : Nat) = some (.ref x)) (k : RR G μ (pc + 1) lv (.ref x :: st) hh Q) : RR G μ pc lv (st) hh Q := fun p e s m args below meth c C H locs ls hP hS hl => lv_aload_n C.1 C.2.1 hd rfl (lvGet_has hl hg) (k p e s m args below meth c C H locs ls hP hS hl)
theorem R_aload {i : Nat} {x : Nat} (hd : decode μ.2.1 pc = .ok (.aload i, 2)) (hg : lvGet lv i = some (.ref x)) (k : RR G μ (pc + 2) lv (.ref x :: st) hh Q) : RR G μ pc lv (st) hh Q := fun p e s m args below meth c C H locs ls hP hS hl => lv_aload C.1 C.2.1 hd (lvGet_has hl hg) (k p e s m args below meth c C H locs ls hP hS hl)
theorem R_iadd {x y : Int32} (hd : decode μ.2.1 pc = .ok (.iadd, 1)) (k : RR G μ (pc + 1) lv (.int (x + y) :: st) hh Q) : RR G μ pc lv (.int y :: .int x :: st) hh Q := fun p e s m args below meth c C H locs ls hP hS hl => lv_iadd C.1 C.2.1 hd (k p e s m args below meth c C H locs ls hP hS hl)
theorem R_isub {x y : Int32} (hd : decode μ.2.1 pc = .ok (.isub, 1)) (k : RR G μ (pc + 1) lv (.int (x - y) :: st) hh Q) : RR G μ pc lv (.int y :: .int x :: st) hh Q := fun p e s m args below meth c C H locs ls hP hS hl => lv_isub C.1 C.2.1 hd (k p e s m args below meth c C H locs ls hP hS hl)
theorem R_imul {x y : Int32} (hd : decode μ.2.1 pc = .ok (.imul, 1)) (k : RR G μ (pc + 1) lv (.int (x * y) :: st) hh Q) : RR G μ pc lv (.int y :: .int x :: st) hh Q := fun p e s m args below meth c C H locs ls hP hS hl => lv_imul C.1 C.2.1 hd (k p e s m args below meth c C H locs ls hP hS hl)
theorem R_iand {x y : Int32} (hd : decode μ.2.1 pc = .ok (.iand, 1)) (k : RR G μ (pc + 1) lv (.int (x &&& y) :: st) hh Q) : RR G μ pc lv (.int y :: .int x :: st) hh Q := fun p e s m args below meth c C H locs ls hP hS hl => lv_iand C.1 C.2.1 hd (k p e s m args below meth c C H locs ls hP hS hl)
theorem R_ior {x y : Int32} (hd : decode μ.2.1 pc = .ok (.ior, 1)) (k : RR G μ (pc + 1) lv (.int (x ||| y) :: st) hh Q) : RR G μ pc lv (.int y :: .int x :: st) hh Q := fun p e s m args below meth c C H locs ls hP hS hl => lv_ior C.1 C.2.1 hd (k p e s m args below meth c C H locs ls hP hS hl)
theorem R_ixor {x y : Int32} (hd : decode μ.2.1 pc = .ok (.ixor, 1)) (k : RR G μ (pc + 1) lv (.int (x ^^^ y) :: st) hh Q) : RR G μ pc lv (.int y :: .int x :: st) hh Q := fun p e s m args below meth c C H locs ls hP hS hl => lv_ixor C.1 C.2.1 hd (k p e s m args below meth c C H locs ls hP hS hl)
theorem R_ishl {x y : Int32} (hd : decode μ.2.1 pc = .ok (.ishl, 1)) (k : RR G μ (pc + 1) lv (.int (x <<< (y &&& 31)) :: st) hh Q) : RR G μ pc lv (.int y :: .int x :: st) hh Q := fun p e s m args below meth c C H locs ls hP hS hl => lv_ishl C.1 C.2.1 hd (k p e s m args below meth c C H locs ls hP hS hl)
theorem R_ishr {x y : Int32} (hd : decode μ.2.1 pc = .ok (.ishr, 1)) (k : RR G μ (pc + 1) lv (.int (x >>> (y &&& 31)) :: st) hh Q) : RR G μ pc lv (.int y :: .int x :: st) hh Q := fun p e s m args below meth c C H locs ls hP hS hl => lv_ishr C.1 C.2.1 hd (k p e s m args below meth c C H locs ls hP hS hl)
theorem R_idiv {x y : Int32} (hd : decode μ.2.1 pc = .ok (.idiv, 1)) (hne : ¬ y = 0) (k : RR G μ (pc + 1) lv (.int (x / y) :: st) hh Q) : RR G μ pc lv (.int y :: .int x :: st) hh Q := fun p e s m args below meth c C H locs ls hP hS hl => lv_idiv C.1 C.2.1 hd hne (k p e s m args below meth c C H locs ls hP hS hl)
theorem R_irem {x y : Int32} (hd : decode μ.2.1 pc = .ok (.irem, 1)) (hne : ¬ y = 0) (k : RR G μ (pc + 1) lv (.int (x - x / y * y) :: st) hh Q) : RR G μ pc lv (.int y :: .int x :: st) hh Q := fun p e s m args below meth c C H locs ls hP hS hl => lv_irem C.1 C.2.1 hd hne (k p e s m args below meth c C H locs ls hP hS hl)
theorem R_iushr {x y : Int32} (hd : decode μ.2.1 pc = .ok (.iushr, 1)) (k : RR G μ (pc + 1) lv (.int ((x.toUInt32 >>> (y.toUInt32 &&& Int32.toUInt32 31)).toInt32) :: st) hh Q) : RR G μ pc lv (.int y :: .int x :: st) hh Q := fun p e s m args below meth c C H locs ls hP hS hl => lv_iushr C.1 C.2.1 hd rfl (k p e s m args below meth c C H locs ls hP hS hl)
theorem R_i2l {x : Int32} (hd : decode μ.2.1 pc = .ok (.i2l, 1)) (k : RR G μ (pc + 1) lv (.long x.toInt64 :: st) hh Q) : RR G μ pc lv (.int x :: st) hh Q := fun p e s m args below meth c C H locs ls hP hS hl => lv_i2l C.1 C.2.1 hd rfl (k p e s m args below meth c C H locs ls hP hS hl)
theorem R_lmul {x y : Int64} (hd : decode μ.2.1 pc = .ok (.lmul, 1)) (k : RR G μ (pc + 1) lv (.long (x * y) :: st) hh Q) : RR G μ pc lv (.long y :: .long x :: st) hh Q := fun p e s m args below meth c C H locs ls hP hS hl => lv_lmul C.1 C.2.1 hd (k p e s m args below meth c C H locs ls hP hS hl)
theorem R_ldiv {x y : Int64} (hd : decode μ.2.1 pc = .ok (.ldiv, 1)) (hne : ¬ y = 0) (k : RR G μ (pc + 1) lv (.long (x / y) :: st) hh Q) : RR G μ pc lv (.long y :: .long x :: st) hh Q := fun p e s m args below meth c C H locs ls hP hS hl => lv_ldiv C.1 C.2.1 hd hne (k p e s m args below meth c C H locs ls hP hS hl)
theorem R_lcmp {x y : Int64} (hd : decode μ.2.1 pc = .ok (.lcmp, 1)) (k : RR G μ (pc + 1) lv (.int (lg_cmp x y) :: st) hh Q) : RR G μ pc lv (.long y :: .long x :: st) hh Q := fun p e s m args below meth c C H locs ls hP hS hl => W.lcmp C.1 C.2.1 hd (k p e s m args below meth c C H locs ls hP hS hl)
theorem R_dup {v : Value} (hd : decode μ.2.1 pc = .ok (.dup, 1)) (hc : v.category = 1) (k : RR G μ (pc + 1) lv (v :: v :: st) hh Q) : RR G μ pc lv (v :: st) hh Q := fun p e s m args below meth c C H locs ls hP hS hl => lv_dup C.1 C.2.1 hd hc (k p e s m args below meth c C H locs ls hP hS hl)
theorem R_dup2 {v w : Value} (hd : decode μ.2.1 pc = .ok (.dup2, 1)) (hc : v.category = 1) (hc2 : w.category = 1) (k : RR G μ (pc + 1) lv (v :: w :: v :: w :: st) hh Q) : RR G μ pc lv (v :: w :: st) hh Q := fun p e s m args below meth c C H locs ls hP hS hl => lv_dup2_11 C.1 C.2.1 hd hc hc2 (k p e s m args below meth c C H locs ls hP hS hl)
theorem R_pop {v : Value} (hd : decode μ.2.1 pc = .ok (.pop, 1)) (hc : v.category = 1) (k : RR G μ (pc + 1) lv (st) hh Q) : RR G μ pc lv (v :: st) hh Q := fun p e s m args below meth c C H locs ls hP hS hl => lv_pop C.1 C.2.1 hd hc (k p e s m args below meth c C H locs ls hP hS hl)
theorem R_istore_n {i : Fin 4} {x : Int32} (hd : decode μ.2.1 pc = .ok (.istore_n i, 1)) (hi : (i : Nat) < μ.2.2.1) (k : RR G μ (pc + 1) (lvPut lv (i : Nat) (.int x)) st hh Q) : RR G μ pc lv (.int x :: st) hh Q := fun p e s m args below meth c C H locs ls hP hS hl => lv_istore_n C.1 C.2.1 hd rfl hl hi rfl (fun ls' hl' => k p e s m args below meth c C H locs ls' hP hS hl')
theorem R_astore_n {i : Fin 4} {x : Nat} (hd : decode μ.2.1 pc = .ok (.astore_n i, 1)) (hi : (i : Nat) < μ.2.2.1) (k : RR G μ (pc + 1) (lvPut lv (i : Nat) (.ref x)) st hh Q) : RR G μ pc lv (.ref x :: st) hh Q := fun p e s m args below meth c C H locs ls hP hS hl => lv_astore_n C.1 C.2.1 hd rfl hl hi rfl (fun ls' hl' => k p e s m args below meth c C H locs ls' hP hS hl')
theorem R_istore {i : Nat} {x : Int32} (hd : decode μ.2.1 pc = .ok (.istore i, 2)) (hi : i < μ.2.2.1) (k : RR G μ (pc + 2) (lvPut lv i (.int x)) st hh Q) : RR G μ pc lv (.int x :: st) hh Q := fun p e s m args below meth c C H locs ls hP hS hl => lv_istore C.1 C.2.1 hd hl hi rfl (fun ls' hl' => k p e s m args below meth c C H locs ls' hP hS hl')
theorem R_lstore_n {i : Fin 4} {x : Int64} (hd : decode μ.2.1 pc = .ok (.lstore_n i, 1)) (hi : (i : Nat) + 1 < μ.2.2.1) (k : RR G μ (pc + 1) (lvPutL lv (i : Nat) (.long x)) st hh Q) : RR G μ pc lv (.long x :: st) hh Q := fun p e s m args below meth c C H locs ls hP hS hl => lv_lstore_n C.1 C.2.1 hd rfl hl hi rfl (fun ls' hl' => k p e s m args below meth c C H locs ls' hP hS hl')
theorem R_iinc {i : Nat} {n : Int} {x y : Int32} (hd : decode μ.2.1 pc = .ok (.iinc i n, 3)) (hg : lvGet lv i = some (.int x)) (hi : i < μ.2.2.1) (hy : x + Int32.ofInt n = y) (k : RR G μ (pc + 3) (lvPut lv i (.int y)) st hh Q) : RR G μ pc lv st hh Q := fun p e s m args below meth c C H locs ls hP hS hl => by
  obtain ⟨j, hj⟩ := lvGet_mem hg
  exact lv_iinc C.1 C.2.1 hd hl hj hy hi rfl (fun ls' hl' => k p e s m args below meth c C H locs ls' hP hS hl')
theorem RR.pick {lv' : List (Nat × Value)} (ks : List Nat) (h : lv_pick lv ks = lv') (k : RR G μ pc lv' st hh Q) : RR G μ pc lv st hh Q := fun p e s m args below meth c C H locs ls hP hS hl => k p e s m args below meth c C H locs ls hP hS (lv_sub hl ks h)
theorem RR.top {x y : Int32} (h : x = y) (k : RR G μ pc lv (.int y :: st) hh Q) : RR G μ pc lv (.int x :: st) hh Q := by subst h; exact k
theorem RR.topl {x y : Int64} (h : x = y) (k : RR G μ pc lv (.long y :: st) hh Q) : RR G μ pc lv (.long x :: st) hh Q := by subst h; exact k
theorem nI_s (i : Nat) : nI i + Int32.ofInt 1 = nI (i + 1) := nI_1 i
theorem R_if_eq {x : Int32} {off : Int} {tgt : Nat} (hd : decode μ.2.1 pc = .ok (.ifCond .eq off, 3)) (ht : (pc : Int) + off = (tgt : Int)) (kt : x = 0 → RR G μ tgt lv st hh Q) (kf : ¬ (x = 0) → RR G μ (pc + 3) lv st hh Q) : RR G μ pc lv (.int x :: st) hh Q := fun p e s m args below meth c C H locs ls hP hS hl => lv_if_eq C.1 C.2.1 hd ht (fun q => kt q p e s m args below meth c C H locs ls hP hS hl) (fun q => kf q p e s m args below meth c C H locs ls hP hS hl)
theorem R_if_ne {x : Int32} {off : Int} {tgt : Nat} (hd : decode μ.2.1 pc = .ok (.ifCond .ne off, 3)) (ht : (pc : Int) + off = (tgt : Int)) (kt : ¬ x = 0 → RR G μ tgt lv st hh Q) (kf : ¬ (¬ x = 0) → RR G μ (pc + 3) lv st hh Q) : RR G μ pc lv (.int x :: st) hh Q := fun p e s m args below meth c C H locs ls hP hS hl => lv_if_ne C.1 C.2.1 hd ht (fun q => kt q p e s m args below meth c C H locs ls hP hS hl) (fun q => kf (fun z => z q) p e s m args below meth c C H locs ls hP hS hl)
theorem R_if_lt {x : Int32} {off : Int} {tgt : Nat} (hd : decode μ.2.1 pc = .ok (.ifCond .lt off, 3)) (ht : (pc : Int) + off = (tgt : Int)) (kt : x < 0 → RR G μ tgt lv st hh Q) (kf : ¬ (x < 0) → RR G μ (pc + 3) lv st hh Q) : RR G μ pc lv (.int x :: st) hh Q := fun p e s m args below meth c C H locs ls hP hS hl => lv_if_lt C.1 C.2.1 hd ht (fun q => kt q p e s m args below meth c C H locs ls hP hS hl) (fun q => kf q p e s m args below meth c C H locs ls hP hS hl)
theorem R_if_ge {x : Int32} {off : Int} {tgt : Nat} (hd : decode μ.2.1 pc = .ok (.ifCond .ge off, 3)) (ht : (pc : Int) + off = (tgt : Int)) (kt : 0 ≤ x → RR G μ tgt lv st hh Q) (kf : ¬ (0 ≤ x) → RR G μ (pc + 3) lv st hh Q) : RR G μ pc lv (.int x :: st) hh Q := fun p e s m args below meth c C H locs ls hP hS hl => lv_if_ge C.1 C.2.1 hd ht (fun q => kt q p e s m args below meth c C H locs ls hP hS hl) (fun q => kf q p e s m args below meth c C H locs ls hP hS hl)
theorem R_if_gt {x : Int32} {off : Int} {tgt : Nat} (hd : decode μ.2.1 pc = .ok (.ifCond .gt off, 3)) (ht : (pc : Int) + off = (tgt : Int)) (kt : 0 < x → RR G μ tgt lv st hh Q) (kf : ¬ (0 < x) → RR G μ (pc + 3) lv st hh Q) : RR G μ pc lv (.int x :: st) hh Q := fun p e s m args below meth c C H locs ls hP hS hl => lv_if_gt C.1 C.2.1 hd ht (fun q => kt q p e s m args below meth c C H locs ls hP hS hl) (fun q => kf q p e s m args below meth c C H locs ls hP hS hl)
theorem R_if_le {x : Int32} {off : Int} {tgt : Nat} (hd : decode μ.2.1 pc = .ok (.ifCond .le off, 3)) (ht : (pc : Int) + off = (tgt : Int)) (kt : x ≤ 0 → RR G μ tgt lv st hh Q) (kf : ¬ (x ≤ 0) → RR G μ (pc + 3) lv st hh Q) : RR G μ pc lv (.int x :: st) hh Q := fun p e s m args below meth c C H locs ls hP hS hl => lv_if_le C.1 C.2.1 hd ht (fun q => kt q p e s m args below meth c C H locs ls hP hS hl) (fun q => kf q p e s m args below meth c C H locs ls hP hS hl)
theorem R_icmp_eq {x y : Int32} {off : Int} {tgt : Nat} (hd : decode μ.2.1 pc = .ok (.if_icmp .eq off, 3)) (ht : (pc : Int) + off = (tgt : Int)) (kt : x = y → RR G μ tgt lv st hh Q) (kf : ¬ (x = y) → RR G μ (pc + 3) lv st hh Q) : RR G μ pc lv (.int y :: .int x :: st) hh Q := fun p e s m args below meth c C H locs ls hP hS hl => lv_icmp_eq C.1 C.2.1 hd ht (fun q => kt q p e s m args below meth c C H locs ls hP hS hl) (fun q => kf q p e s m args below meth c C H locs ls hP hS hl)
theorem R_icmp_ne {x y : Int32} {off : Int} {tgt : Nat} (hd : decode μ.2.1 pc = .ok (.if_icmp .ne off, 3)) (ht : (pc : Int) + off = (tgt : Int)) (kt : ¬ x = y → RR G μ tgt lv st hh Q) (kf : ¬ (¬ x = y) → RR G μ (pc + 3) lv st hh Q) : RR G μ pc lv (.int y :: .int x :: st) hh Q := fun p e s m args below meth c C H locs ls hP hS hl => lv_icmp_ne C.1 C.2.1 hd ht (fun q => kt q p e s m args below meth c C H locs ls hP hS hl) (fun q => kf (fun z => z q) p e s m args below meth c C H locs ls hP hS hl)
theorem R_icmp_lt {x y : Int32} {off : Int} {tgt : Nat} (hd : decode μ.2.1 pc = .ok (.if_icmp .lt off, 3)) (ht : (pc : Int) + off = (tgt : Int)) (kt : x < y → RR G μ tgt lv st hh Q) (kf : ¬ (x < y) → RR G μ (pc + 3) lv st hh Q) : RR G μ pc lv (.int y :: .int x :: st) hh Q := fun p e s m args below meth c C H locs ls hP hS hl => lv_icmp_lt C.1 C.2.1 hd ht (fun q => kt q p e s m args below meth c C H locs ls hP hS hl) (fun q => kf q p e s m args below meth c C H locs ls hP hS hl)
theorem R_icmp_ge {x y : Int32} {off : Int} {tgt : Nat} (hd : decode μ.2.1 pc = .ok (.if_icmp .ge off, 3)) (ht : (pc : Int) + off = (tgt : Int)) (kt : y ≤ x → RR G μ tgt lv st hh Q) (kf : ¬ (y ≤ x) → RR G μ (pc + 3) lv st hh Q) : RR G μ pc lv (.int y :: .int x :: st) hh Q := fun p e s m args below meth c C H locs ls hP hS hl => lv_icmp_ge C.1 C.2.1 hd ht (fun q => kt q p e s m args below meth c C H locs ls hP hS hl) (fun q => kf q p e s m args below meth c C H locs ls hP hS hl)
theorem R_icmp_gt {x y : Int32} {off : Int} {tgt : Nat} (hd : decode μ.2.1 pc = .ok (.if_icmp .gt off, 3)) (ht : (pc : Int) + off = (tgt : Int)) (kt : y < x → RR G μ tgt lv st hh Q) (kf : ¬ (y < x) → RR G μ (pc + 3) lv st hh Q) : RR G μ pc lv (.int y :: .int x :: st) hh Q := fun p e s m args below meth c C H locs ls hP hS hl => lv_icmp_gt C.1 C.2.1 hd ht (fun q => kt q p e s m args below meth c C H locs ls hP hS hl) (fun q => kf q p e s m args below meth c C H locs ls hP hS hl)
theorem R_icmp_le {x y : Int32} {off : Int} {tgt : Nat} (hd : decode μ.2.1 pc = .ok (.if_icmp .le off, 3)) (ht : (pc : Int) + off = (tgt : Int)) (kt : x ≤ y → RR G μ tgt lv st hh Q) (kf : ¬ (x ≤ y) → RR G μ (pc + 3) lv st hh Q) : RR G μ pc lv (.int y :: .int x :: st) hh Q := fun p e s m args below meth c C H locs ls hP hS hl => lv_icmp_le C.1 C.2.1 hd ht (fun q => kt q p e s m args below meth c C H locs ls hP hS hl) (fun q => kf q p e s m args below meth c C H locs ls hP hS hl)
theorem R_goto {off : Int} {tgt : Nat} (hd : decode μ.2.1 pc = .ok (.goto off, 3)) (ht : (pc : Int) + off = (tgt : Int)) (k : RR G μ tgt lv st hh Q) : RR G μ pc lv st hh Q := fun p e s m args below meth c C H locs ls hP hS hl => lv_goto C.1 C.2.1 hd ht (k p e s m args below meth c C H locs ls hP hS hl)
theorem R_tabOut {dflt lo hi : Int} {offs : Array Int} {len : Nat} {x : Int32} {tgt : Nat} (hd : decode μ.2.1 pc = .ok (.tableswitch dflt lo hi offs, len)) (h : x.toInt < lo ∨ hi < x.toInt) (ht : (pc : Int) + dflt = (tgt : Int)) (k : RR G μ tgt lv st hh Q) : RR G μ pc lv (.int x :: st) hh Q := fun p e s m args below meth c C H locs ls hP hS hl => lv_tableOut C.1 C.2.1 hd h ht (k p e s m args below meth c C H locs ls hP hS hl)
theorem R_tabIn {dflt lo hi : Int} {offs : Array Int} {len : Nat} {x : Int32} {off : Int} {tgt : Nat} (hd : decode μ.2.1 pc = .ok (.tableswitch dflt lo hi offs, len)) (h1 : ¬ x.toInt < lo) (h2 : ¬ hi < x.toInt) (ho : offs[(x.toInt - lo).toNat]? = some off) (ht : (pc : Int) + off = (tgt : Int)) (k : RR G μ tgt lv st hh Q) : RR G μ pc lv (.int x :: st) hh Q := fun p e s m args below meth c C H locs ls hP hS hl => lv_tableIn C.1 C.2.1 hd h1 h2 ho ht (k p e s m args below meth c C H locs ls hP hS hl)
theorem R_ldc {index : Nat} {v : Int32} (hd : decode μ.2.1 pc = .ok (.ldc index, 2)) (hw : Cond.constant μ.1.cls index v ∈ XW) (k : RR G μ (pc + 2) lv (.int v :: st) hh Q) : RR G μ pc lv st hh Q := fun p e s m args below meth c C H locs ls hP hS hl => lv_ldc C.1 C.2.1 C.2.2.2.2.1 (C.2.2.2.2.2.2.1 _ (List.mem_cons_of_mem _ hw)) hd (k p e s m args below meth c C H locs ls hP hS hl)
theorem R_ldc2 {index : Nat} {v : Int64} (hd : decode μ.2.1 pc = .ok (.ldc2_w index, 3)) (hw : Cond.constantLong μ.1.cls index v ∈ XW) (k : RR G μ (pc + 3) lv (.long v :: st) hh Q) : RR G μ pc lv st hh Q := fun p e s m args below meth c C H locs ls hP hS hl => lv_ldc2 C.1 C.2.1 C.2.2.2.2.1 (C.2.2.2.2.2.2.1 _ (List.mem_cons_of_mem _ hw)) hd (k p e s m args below meth c C H locs ls hP hS hl)
theorem R_ldcS {index i : Nat} {tx : String} (hd : decode μ.2.1 pc = .ok (.ldc index, 2)) (hw : strW[i]? = some (μ.1.cls, index, tx)) (k : RR G μ (pc + 2) lv (.ref (kK G i) :: st) hh Q) : RR G μ pc lv st hh Q := fun p e s m args below meth c C H locs ls hP hS hl => va_ldcS C.1 C.2.1 C.2.2.2.2.1 (C.2.2.2.2.2.2.2.2.2.2.1 i _ hw) hd (k p e s m args below meth c C H locs ls hP hS hl)
/-- a field of a class of the world, as own's entry idx names it -/
def gfOK (own : String) (idx ci f : Nat) : Prop := ∃ q : vw_C, clsX[ci]? = some q ∧ (∀ w ∈ u_ws q.1 q.2.1 q.2.2, w ∈ XW) ∧ f < q.2.2 ∧ Cond.fieldLink own idx (q.2.1 f).1 (q.2.1 f).2.1 (q.2.1 f).2.2.1 ∈ XW
def pfOK (own : String) (idx ci f : Nat) (ty : FieldType) : Prop := ∃ q : vw_C, clsX[ci]? = some q ∧ (∀ w ∈ u_ws q.1 q.2.1 q.2.2, w ∈ XW) ∧ f < q.2.2 ∧ Cond.fieldLink own idx (q.2.1 f).1 (q.2.1 f).2.1 (q.2.1 f).2.2.1 ∈ XW ∧ (q.2.1 f).2.2.2 = false ∧ parseFieldDescriptor (q.2.1 f).2.2.1 = some ty ∧ (∀ a, a < q.2.2 → ∀ b, b < q.2.2 → a ≠ b → (q.2.1 a).2.1 ≠ (q.2.1 b).2.1) ∧ ∃ ty0 : Nat → FieldType, ∀ k, k < q.2.2 → parseFieldDescriptor (q.2.1 k).2.2.1 = some (ty0 k)
theorem R_get {idx ci f k : Nat} {fs : List Value} {v : Value} (hd : decode μ.2.1 pc = .ok (.getfield idx, 3)) (hw : gfOK μ.1.cls idx ci f) (ha : hAt G hh k (.inr (ci, fs))) (hv : fs[f]? = some v) (k1 : RR G μ (pc + 3) lv (v :: st) hh Q) : RR G μ pc lv (.ref (ad G k) :: st) hh Q := fun p e s m args below meth c C H locs ls hP hS hl => by
  obtain ⟨⟨Cn, T, N⟩, hc, hin, hf, hlk⟩ := hw
  obtain ⟨hx, hb, hr, hml, hown, hlocks, hts, hG⟩ := id C
  exact va_get (Ts := mcd μ :: XW) hx hb hts (fun w h => List.mem_cons_of_mem _ (hin w h)) hown hG.1 hP k ha.get hc f hf (hts _ (List.mem_cons_of_mem _ hlk)) (fun _ h => h) hv hd (k1 p e s m args below meth c C H locs ls hP hS hl)
theorem R_put {idx ci f k : Nat} {fs : List Value} {v : Value} {ty : FieldType} (hd : decode μ.2.1 pc = .ok (.putfield idx, 3)) (hw : pfOK μ.1.cls idx ci f ty) (ha : hAt G hh k (.inr (ci, fs))) (hn : narrow ty v = v) (hfit : fits ty v = true) (hlen : f < fs.length) (k1 : RR G μ (pc + 3) lv st (va_up hh k (.inr (ci, fs.set f v))) Q) : RR G μ pc lv (v :: .ref (ad G k) :: st) hh Q := fun p e s m args below meth c C H locs ls hP hS hl => by
  obtain ⟨⟨Cn, T, N⟩, hc, hin, hf, hlk, hfin, hty, hnm, ty0, hty0⟩ := hw
  obtain ⟨hx, hb, hr, hml, hown, hlocks, hts, hG⟩ := id C
  refine va_put (Ts := mcd μ :: XW) hx hb hts (fun w h => List.mem_cons_of_mem _ (hin w h)) ty0 hty0 hnm hown hG.1 hP (hG.D hh) hS k ha.get hc f hf (hts _ (List.mem_cons_of_mem _ hlk)) (fun _ h => h) hfin hty hn hfit hlen hd (fun H1 locs1 hP1 hD1 hS1 => ?_)
  rw [wd_set ha.1] at hP1
  exact k1 p e s m args below meth c C H1 locs1 ls hP1 hS1 hl
theorem R_iald {k n : Nat} {f : Nat → Int32} {i : Int32} (hd : decode μ.2.1 pc = .ok (.iaload, 1)) (ha : hAt G hh k (.inl (gI G, n, .inl f))) (hin : vp_in i n) (k1 : RR G μ (pc + 1) lv (.int (f i.toNatClampNeg) :: st) hh Q) : RR G μ pc lv (.int i :: .ref (ad G k) :: st) hh Q := fun p e s m args below meth c C H locs ls hP hS hl => va_iald C.1 C.2.1 C.2.2.2.2.2.2.2.1 hP k 0 ha.get rfl hin hd (k1 p e s m args below meth c C H locs ls hP hS hl)
theorem R_zald {k n : Nat} {f : Nat → Int32} {i : Int32} (hd : decode μ.2.1 pc = .ok (.baload, 1)) (ha : hAt G hh k (.inl (gZ G, n, .inl f))) (hin : vp_in i n) (k1 : RR G μ (pc + 1) lv (.int (f i.toNatClampNeg) :: st) hh Q) : RR G μ pc lv (.int i :: .ref (ad G k) :: st) hh Q := fun p e s m args below meth c C H locs ls hP hS hl => va_zald C.1 C.2.1 C.2.2.2.2.2.2.2.1 hP k 1 ha.get rfl hin hd (k1 p e s m args below meth c C H locs ls hP hS hl)
theorem R_iast {k n : Nat} {f : Nat → Int32} {i x : Int32} (hd : decode μ.2.1 pc = .ok (.iastore, 1)) (ha : hAt G hh k (.inl (gI G, n, .inl f))) (hin : vp_in i n) (k1 : RR G μ (pc + 1) lv st (va_up hh k (.inl (gI G, n, .inl (upd f i.toNatClampNeg x)))) Q) : RR G μ pc lv (.int x :: .int i :: .ref (ad G k) :: st) hh Q := fun p e s m args below meth c C H locs ls hP hS hl => by
  obtain ⟨hx, hb, hr, hml, hown, hlocks, hts, hG⟩ := id C
  refine va_iast hx hb hG.1 hP (hG.D hh) hS k 0 ha.get rfl hin hd (fun H1 locs1 hP1 hD1 hS1 => ?_)
  rw [wd_set ha.1] at hP1
  exact k1 p e s m args below meth c C H1 locs1 ls hP1 hS1 hl
theorem R_zast {k n : Nat} {f : Nat → Int32} {i x : Int32} (hd : decode μ.2.1 pc = .ok (.bastore, 1)) (ha : hAt G hh k (.inl (gZ G, n, .inl f))) (hin : vp_in i n) (k1 : RR G μ (pc + 1) lv st (va_up hh k (.inl (gZ G, n, .inl (upd f i.toNatClampNeg (vp_nar .boolean x))))) Q) : RR G μ pc lv (.int x :: .int i :: .ref (ad G k) :: st) hh Q := fun p e s m args below meth c C H locs ls hP hS hl => by
  obtain ⟨hx, hb, hr, hml, hown, hlocks, hts, hG⟩ := id C
  refine va_zast hx hb hG.1 hP (hG.D hh) hS k 1 ha.get rfl hin hd (fun H1 locs1 hP1 hD1 hS1 => ?_)
  rw [wd_set ha.1] at hP1
  exact k1 p e s m args below meth c C H1 locs1 ls hP1 hS1 hl
theorem R_aldS {k n : Nat} {f : Nat → Option Nat} {i : Int32} {q : Nat} (hd : decode μ.2.1 pc = .ok (.aaload, 1)) (ha : hAt G hh k (.inl (gS G, n, .inr (.inr (.inr (.inr f)))))) (hin : vp_in i n) (hq : f i.toNatClampNeg = some q) (k1 : RR G μ (pc + 1) lv (.ref q :: st) hh Q) : RR G μ pc lv (.int i :: .ref (ad G k) :: st) hh Q := fun p e s m args below meth c C H locs ls hP hS hl => by
  refine va_aldq C.1 C.2.1 C.2.2.2.2.2.2.2.1 hP k 2 ha.get rfl hin hd ?_
  rw [hq]
  exact k1 p e s m args below meth c C H locs ls hP hS hl
theorem R_aldL {k n : Nat} {f : Nat → Option Nat} {i : Int32} {q : Nat} (hd : decode μ.2.1 pc = .ok (.aaload, 1)) (ha : hAt G hh k (.inl (gL G, n, .inr (.inr (.inr (.inr f)))))) (hin : vp_in i n) (hq : f i.toNatClampNeg = some q) (k1 : RR G μ (pc + 1) lv (.ref q :: st) hh Q) : RR G μ pc lv (.int i :: .ref (ad G k) :: st) hh Q := fun p e s m args below meth c C H locs ls hP hS hl => by
  refine va_aldq C.1 C.2.1 C.2.2.2.2.2.2.2.1 hP k 3 ha.get rfl hin hd ?_
  rw [hq]
  exact k1 p e s m args below meth c C H locs ls hP hS hl
theorem R_alenI {k n : Nat} {f : Nat → Int32} (hd : decode μ.2.1 pc = .ok (.arraylength, 1)) (ha : hAt G hh k (.inl (gI G, n, .inl f))) (k1 : RR G μ (pc + 1) lv (.int (nI n) :: st) hh Q) : RR G μ pc lv (.ref (ad G k) :: st) hh Q := fun p e s m args below meth c C H locs ls hP hS hl => va_alen C.1 C.2.1 C.2.2.2.2.2.2.2.1 hP k 0 ha.get rfl rfl hd (k1 p e s m args below meth c C H locs ls hP hS hl)
theorem XW_good {μ μ' : MI} (hc : mcd μ' ∈ XW) : GoodIn (mcd μ :: XW) (mcd μ' :: XW) := by
  have hg : ∀ w ∈ XW, w ∈ mcd μ :: XW ∧ ((w.onTables && w.keeps) = true ∨ ∃ ty, w = .arrayClass ty) := fun w hw => ⟨List.mem_cons_of_mem _ hw, good_of_word (List.mem_filter.mp hw).2⟩
  intro w hw
  rcases List.mem_cons.mp hw with rfl | hw
  · exact hg _ hc
  · exact hg w hw
theorem XW_w {μ : MI} {w : Cond} (hw : w ∈ XW) : w ∈ mcd μ :: XW ∧ ((w.onTables && w.keeps) = true ∨ ∃ ty, w = .arrayClass ty) := ⟨List.mem_cons_of_mem _ hw, good_of_word (List.mem_filter.mp hw).2⟩
/-- behind a call -/
theorem q_call {p : Program} {e : Env} {R : Room} {s : State} {m : MethodId} {args : Array Value} {below : List Frame} {meth : Method} {c : Code} {H : Heap} {locs : List Loc} {Qw : State → Prop} {ls : Array Slot} {st0 rest : List Value} {a : Array Value} {Q1 : QQ} (hr : va_Run p (gl G) e R s m args below meth c H locs 0 0 0 0 (F0 m pc ls st0) rest (QV G Q1 a) (gA G)) (hS : va_S (gA G) s.heap H locs)
    (kk : ∀ (r1 : Option Value) (hh1 : HH) (H1 : Heap) (locs1 : List Loc), Q1 r1 hh1 → va_P (gD G) clsX (wd G hh1) H1 → va_S (gA G) s.heap H1 locs1 → W p (gl G) e R s m args below meth c H1 locs1 0 0 Qw (F0 m (pc + 3) ls (r1.toList ++ rest))) : W p (gl G) e R s m args below meth c H locs 0 0 Qw (F0 m pc ls st0) := by
  intro T hT X
  obtain ⟨v, st₀, t, T', L, h0, X', hL, e1, e2, ⟨⟨r1, hh1, hv, hq, hp⟩, hz, hk⟩, st⟩ := hr T hT X
  cases hv
  rw [h0] at hz hk
  obtain ⟨t2, a1, b1⟩ := kk _ hh1 T'.heap (locs ++ L) hq (by rw [e1]; exact hp)
    ⟨Nat.le_trans hS.1 (by rw [e1]; exact hz), fun q h1 h2 => by rw [e1, hk q (Nat.lt_of_lt_of_le h1 hS.1) h2]; exact hS.2.1 q h1 h2, fun q hq => by
      rcases List.mem_append.mp hq with h | h
      · exact hS.2.2 q h
      · exact hL q h⟩ T' rfl X'
  exact ⟨t2, st t2 a1, b1⟩
def ckOK (y : MethodName) (n : Nat) : Prop := y.cls ≠ "java/lang/invoke/MethodHandle" ∧ y.cls ≠ "java/lang/invoke/VarHandle" ∧ (parseMethodDescriptor y.desc).map (fun d => d.parameters.length) = some n
/-- an own entry idx names the method of μ', n arguments; virtual, static, static of a nest mate -/
def cvOK (own : String) (μ' : MI) (idx n : Nat) : Prop := Cond.methodLink own idx μ'.1 ∈ XW ∧ Cond.instanceMethod μ'.1 ∈ XW ∧ Cond.selects μ'.1.cls μ'.1 μ'.1 ∈ XW ∧ Cond.initialized μ'.1.cls ∈ XW ∧ mcd μ' ∈ XW ∧ ckOK μ'.1 n
def csOK (own : String) (μ' : MI) (idx n : Nat) : Prop := Cond.methodLink own idx μ'.1 ∈ XW ∧ Cond.static μ'.1 ∈ XW ∧ Cond.initialized μ'.1.cls ∈ XW ∧ mcd μ' ∈ XW ∧ ckOK μ'.1 n
def cnOK (own : String) (μ' : MI) (idx n : Nat) : Prop := Cond.methodLinkNest own idx μ'.1 "CaseWheel" ∈ nestW ∧ Cond.static μ'.1 ∈ XW ∧ Cond.initialized μ'.1.cls ∈ XW ∧ mcd μ' ∈ XW ∧ ckOK μ'.1 n
/-- room for a callee -/
def rmOK (μ μ' : MI) : Prop := μ'.2.2.2.2 + 1 ≤ μ.2.2.2.2 ∧ μ'.2.2.1 ≤ 21
theorem rmOK.use {μ μ' : MI} (h : rmOK μ μ') : (rmH μ'.2.2.2.2).frames + 1 ≤ (rmH μ.2.2.2.2).frames ∧ 8 + (μ'.2.2.1 + 11) + (rmH μ'.2.2.2.2).locals ≤ (rmH μ.2.2.2.2).locals := by
  obtain ⟨h1, h2⟩ := h
  exact ⟨h1, by show 8 + (μ'.2.2.1 + 11) + 40 * μ'.2.2.2.2 ≤ 40 * μ.2.2.2.2; omega⟩
theorem R_callV {μ' : MI} {idx n ci k : Nat} {fs As rest st0 : List Value} {Q1 : QQ} (hd : decode μ.2.1 pc = .ok (.invokevirtual idx, 3)) (hw : cvOK μ.1.cls μ' idx n) (hrm : rmOK μ μ') (hE : EV G μ' (.ref (ad G k) :: As) hh Q1) (ha : hAt G hh k (.inr (ci, fs))) (hc : (clsX[ci]?).map (fun q => q.1) = some μ'.1.cls) (hn : As.length = n) (hst : st0 = As.reverse ++ .ref (ad G k) :: rest) (hcat : (rest.map fun v => v.category).sum ≤ 8) (k1 : ∀ r1 hh1, Q1 r1 hh1 → RR G μ (pc + 3) lv (r1.toList ++ rest) hh1 Q) : RR G μ pc lv st0 hh Q := fun p e s m args below meth c C H locs ls hP hS hl => by
  subst hst
  obtain ⟨hx, hb, hr, hml, hown, hlocks, hts, hG⟩ := id C
  obtain ⟨w1, w2, w3, w4, w5, w6⟩ := hw
  obtain ⟨q, hq, hq1⟩ := Option.map_eq_some_iff.mp hc
  have hT : GoodIn (mcd μ :: XW) (wsV μ.1.cls idx μ'.1.cls μ'.1 (mcd μ' :: XW)) := by
    intro w h
    rcases List.mem_append.mp h with h | h
    · simp only [List.mem_cons, List.not_mem_nil, or_false] at h
      rcases h with rfl | rfl | rfl | rfl
      · exact XW_w w1
      · exact XW_w w2
      · exact XW_w w3
      · exact XW_w w4
    · exact XW_good w5 w h
  have hrecv := va_recv hG.1 hP hq ha.get
  rw [hq1] at hrecv
  refine q_call (va_runV (C := μ'.1.cls) (bytes := μ'.2.1) (maxL := μ'.2.2.1) (ret := μ'.2.2.2.1) (As := As) (rest := rest) ⟨hx, hb, hml, hown, hts⟩ hE (cwV n hts hT rfl rfl rfl ⟨rfl, w6⟩ hrm.use) ⟨PV.blind, hrecv, (fun U hU hW => ⟨rfl, by rw [hU]; exact hP, hG.warm hU hW hS⟩)⟩ rfl hn hl.1 rfl (lv_room hcat) hd ⟨Nat.le_refl 0, Nat.le_refl 0⟩) hS (fun r1 hh1 H1 locs1 hq hP1 hS1 => k1 r1 hh1 hq p e s m args below meth c C H1 locs1 ls hP1 hS1 hl)
theorem R_callS {μ' : MI} {idx n : Nat} {As rest st0 : List Value} {Q1 : QQ} (hd : decode μ.2.1 pc = .ok (.invokestatic idx, 3)) (hw : csOK μ.1.cls μ' idx n) (hrm : rmOK μ μ') (hE : EV G μ' As hh Q1) (hn : As.length = n) (hst : st0 = As.reverse ++ rest) (hcat : (rest.map fun v => v.category).sum ≤ 8) (k1 : ∀ r1 hh1, Q1 r1 hh1 → RR G μ (pc + 3) lv (r1.toList ++ rest) hh1 Q) : RR G μ pc lv st0 hh Q := fun p e s m args below meth c C H locs ls hP hS hl => by
  subst hst
  obtain ⟨hx, hb, hr, hml, hown, hlocks, hts, hG⟩ := id C
  obtain ⟨w1, w2, w3, w4, w5⟩ := hw
  refine q_call (va_runS (bytes := μ'.2.1) (maxL := μ'.2.2.1) (ret := μ'.2.2.2.1) (As := As) (rest := rest) ⟨hx, hb, hml, hown, hts⟩ hE ⟨callB_of n hts (XW_good w4) rfl rfl rfl (hts _ (List.mem_cons_of_mem _ w3)) (hts _ (List.mem_cons_of_mem _ w1)) w5 hrm.use, hts _ (List.mem_cons_of_mem _ w2)⟩ ⟨PV.blind, (fun U hU hW => ⟨rfl, by rw [hU]; exact hP, hG.warm hU hW hS⟩)⟩ rfl hn hl.1 rfl (lv_room hcat) hd ⟨Nat.le_refl 0, Nat.le_refl 0⟩) hS (fun r1 hh1 H1 locs1 hq hP1 hS1 => k1 r1 hh1 hq p e s m args below meth c C H1 locs1 ls hP1 hS1 hl)
theorem R_callSN {μ' : MI} {idx n : Nat} {As rest st0 : List Value} {Q1 : QQ} (hd : decode μ.2.1 pc = .ok (.invokestatic idx, 3)) (hw : cnOK μ.1.cls μ' idx n) (hrm : rmOK μ μ') (hE : EV G μ' As hh Q1) (hn : As.length = n) (hst : st0 = As.reverse ++ rest) (hcat : (rest.map fun v => v.category).sum ≤ 8) (k1 : ∀ r1 hh1, Q1 r1 hh1 → RR G μ (pc + 3) lv (r1.toList ++ rest) hh1 Q) : RR G μ pc lv st0 hh Q := fun p e s m args below meth c C H locs ls hP hS hl => by
  subst hst
  obtain ⟨hx, hb, hr, hml, hown, hlocks, hts, hG⟩ := id C
  obtain ⟨w1, w2, w3, w4, w5⟩ := hw
  refine q_call (va_runSN (bytes := μ'.2.1) (maxL := μ'.2.2.1) (ret := μ'.2.2.2.1) (As := As) (rest := rest) ⟨hx, hb, hml, hown, hts⟩ hE ⟨va_cnB n hts (XW_good w4) rfl rfl rfl (hG.2.2.1 _ w1) (hts _ (List.mem_cons_of_mem _ w3)) w5 hrm.use, hts _ (List.mem_cons_of_mem _ w2), trivial⟩ ⟨PV.blind, (fun U hU hW => ⟨rfl, by rw [hU]; exact hP, hG.warm hU hW hS⟩)⟩ rfl hn hl.1 rfl (lv_room hcat) hd ⟨Nat.le_refl 0, Nat.le_refl 0⟩) hS (fun r1 hh1 H1 locs1 hq hP1 hS1 => k1 r1 hh1 hq p e s m args below meth c C H1 locs1 ls hP1 hS1 hl)
theorem R_mmax {idx : Nat} {x y : Int32} (hd : decode μ.2.1 pc = .ok (.invokestatic idx, 3)) (w1 : Cond.methodLink μ.1.cls idx Lib.Math.max.name ∈ XW) (w2 : Cond.static Lib.Math.max.name ∈ XW) (w3 : Cond.initialized "java/lang/Math" ∈ XW) (w4 : Cond.code Lib.Math.max.name Lib.Math.max.code 2 (some .int) ∈ XW) (hh0 : 1 ≤ μ.2.2.2.2) (hcat : (st.map fun v => v.category).sum ≤ 8) (k : RR G μ (pc + 3) lv (.int (if x < y then y else x) :: st) hh Q) : RR G μ pc lv (.int y :: .int x :: st) hh Q := fun p e s m args below meth c C H locs ls hP hS hl => by
  obtain ⟨hx, hb, hr, hml, hown, hlocks, hts, hG⟩ := id C
  have t : ∀ w ∈ XW, w.before args s = true := fun w h => hts w (List.mem_cons_of_mem _ h)
  exact va_mmax hx hb (hml.trans hl.1.symm) hown (t _ w1) (t _ w2) (t _ w3) (t _ w4) hh0 (by show _ + 13 ≤ 40 * μ.2.2.2.2; omega) (Nat.zero_le _) (Nat.zero_le _) hd (k p e s m args below meth c C H locs ls hP hS hl)
theorem R_mmin {idx : Nat} {x y : Int32} (hd : decode μ.2.1 pc = .ok (.invokestatic idx, 3)) (w1 : Cond.methodLink μ.1.cls idx Lib.Math.min.name ∈ XW) (w2 : Cond.static Lib.Math.min.name ∈ XW) (w3 : Cond.initialized "java/lang/Math" ∈ XW) (w4 : Cond.code Lib.Math.min.name Lib.Math.min.code 2 (some .int) ∈ XW) (hh0 : 1 ≤ μ.2.2.2.2) (hcat : (st.map fun v => v.category).sum ≤ 8) (k : RR G μ (pc + 3) lv (.int (if y < x then y else x) :: st) hh Q) : RR G μ pc lv (.int y :: .int x :: st) hh Q := fun p e s m args below meth c C H locs ls hP hS hl => by
  obtain ⟨hx, hb, hr, hml, hown, hlocks, hts, hG⟩ := id C
  have t : ∀ w ∈ XW, w.before args s = true := fun w h => hts w (List.mem_cons_of_mem _ h)
  exact va_mmin hx hb (hml.trans hl.1.symm) hown (t _ w1) (t _ w2) (t _ w3) (t _ w4) hh0 (by show _ + 13 ≤ 40 * μ.2.2.2.2; omega) (Nat.zero_le _) (Nat.zero_le _) hd (k p e s m args below meth c C H locs ls hP hS hl)
theorem R_copyi {idx k0 k1 n0 n1 : Nat} {f g : Nat → Int32} {sp dp n : Int32} (hd : decode μ.2.1 pc = .ok (.invokestatic idx, 3)) (w1 : Cond.methodLink μ.1.cls idx arraycopyName ∈ XW) (w2 : Cond.native arraycopyName ∈ XW) (w3 : Cond.static arraycopyName ∈ XW) (w4 : Cond.initialized "java/lang/System" ∈ XW) (hh0 : 1 ≤ μ.2.2.2.2) (ha0 : hAt G hh k0 (.inl (gI G, n0, .inl f))) (ha1 : hAt G hh k1 (.inl (gI G, n1, .inl g))) (h1 : ¬ sp < 0) (h2 : ¬ dp < 0) (h3 : ¬ n < 0) (h4 : sp.toNatClampNeg + n.toNatClampNeg ≤ n0) (h5 : dp.toNatClampNeg + n.toNatClampNeg ≤ n1) (hcat : (st.map fun v => v.category).sum ≤ 8) (kk : RR G μ (pc + 3) lv st (va_up hh k1 (.inl (gI G, n1, .inl (va_cpy f g sp.toNatClampNeg dp.toNatClampNeg n.toNatClampNeg)))) Q) : RR G μ pc lv (.int n :: .int dp :: .ref (ad G k1) :: .int sp :: .ref (ad G k0) :: st) hh Q := fun p e s m args below meth c C H locs ls hP hS hl => by
  obtain ⟨hx, hb, hr, hml, hown, hlocks, hts, hG⟩ := id C
  have t : ∀ w ∈ XW, w.before args s = true := fun w h => hts w (List.mem_cons_of_mem _ h)
  refine va_copyi hx hb (hml.trans hl.1.symm) hown (t _ w1) (t _ w2) (t _ w3) (t _ w4) hG.1 hP (hG.D hh) hS k0 k1 0 0 ha0.get ha1.get rfl rfl rfl h1 h2 h3 h4 h5 (fun _ _ => rfl) hh0 ?_ hd (fun H1 locs1 hP1 hD1 hS1 => ?_)
  · have e1 : nativeFrameWords "java/lang/System" "arraycopy" 5 + 11 ≤ 30 := by decide +kernel
    show _ + _ ≤ 40 * μ.2.2.2.2
    omega
  · rw [wd_set ha1.1] at hP1
    exact kk p e s m args below meth c C H1 locs1 ls hP1 hS1 hl
theorem R_iret {v : Int32} (hd : decode μ.2.1 pc = .ok (.ireturn, 1)) (hr : μ.2.2.2.1 = some .int) (h : Q (some (.int v)) hh) : RR G μ pc lv [.int v] hh Q := fun p e s m args below meth c C H locs ls hP hS hl => by
  exact W.iret C.1 C.2.1 (C.2.2.1.trans hr) (fun t ht hW => ⟨⟨_, _, rfl, h, by rw [ht]; exact hP⟩, hS.F ht⟩) hS.2.2 hd C.2.2.2.2.2.1
theorem R_zret {v : Int32} (hd : decode μ.2.1 pc = .ok (.ireturn, 1)) (hr : μ.2.2.2.1 = some .boolean) (hv : v = 0 ∨ v = 1) (h : Q (some (.int v)) hh) : RR G μ pc lv [.int v] hh Q := fun p e s m args below meth c C H locs ls hP hS hl => by
  exact W.zret C.1 C.2.1 (C.2.2.1.trans hr) (by rcases hv with rfl | rfl <;> rfl) (fun t ht hW => ⟨⟨_, _, rfl, h, by rw [ht]; exact hP⟩, hS.F ht⟩) hS.2.2 hd C.2.2.2.2.2.1
theorem R_vret (hd : decode μ.2.1 pc = .ok (.return_, 1)) (hr : μ.2.2.2.1 = none) (h : Q none hh) : RR G μ pc lv [] hh Q := fun p e s m args below meth c C H locs ls hP hS hl => by
  exact W.vret C.1 C.2.1 (C.2.2.1.trans hr) (fun t ht hW => ⟨⟨_, _, rfl, h, by rw [ht]; exact hP⟩, hS.F ht⟩) hS.2.2 hd C.2.2.2.2.2.1
theorem R_aret {v : Nat} {cn : String} (hd : decode μ.2.1 pc = .ok (.areturn, 1)) (hr : μ.2.2.2.1 = some (.object cn)) (h : Q (some (.ref v)) hh) : RR G μ pc lv [.ref v] hh Q := fun p e s m args below meth c C H locs ls hP hS hl => by
  exact W.aret C.1 C.2.1 (C.2.2.1.trans hr) (Or.inl ⟨_, rfl⟩) (Or.inr ⟨_, rfl⟩) (fun t ht hW => ⟨⟨_, _, rfl, h, by rw [ht]; exact hP⟩, hS.F ht⟩) hS.2.2 hd C.2.2.2.2.2.1
theorem R_callVi {μ' : MI} {idx n ci k : Nat} {fs As rest st0 : List Value} {P : Int32 → HH → Prop} (hd : decode μ.2.1 pc = .ok (.invokevirtual idx, 3)) (hw : cvOK μ.1.cls μ' idx n) (hrm : rmOK μ μ') (hE : EVi G μ' (.ref (ad G k) :: As) hh P) (ha : hAt G hh k (.inr (ci, fs))) (hc : (clsX[ci]?).map (fun q => q.1) = some μ'.1.cls) (hn : As.length = n) (hst : st0 = As.reverse ++ .ref (ad G k) :: rest) (hcat : (rest.map fun v => v.category).sum ≤ 8) (k1 : ∀ v h, P v h → RR G μ (pc + 3) lv (.int v :: rest) h Q) : RR G μ pc lv st0 hh Q := R_callV hd hw hrm hE ha hc hn hst hcat (fun r1 h ⟨v, e, hp⟩ => by subst e; exact k1 v h hp)
theorem R_callVp {μ' : MI} {idx n ci k : Nat} {fs As rest st0 : List Value} {w : Int32} (hd : decode μ.2.1 pc = .ok (.invokevirtual idx, 3)) (hw : cvOK μ.1.cls μ' idx n) (hrm : rmOK μ μ') (hE : EVp G μ' (.ref (ad G k) :: As) hh w) (ha : hAt G hh k (.inr (ci, fs))) (hc : (clsX[ci]?).map (fun q => q.1) = some μ'.1.cls) (hn : As.length = n) (hst : st0 = As.reverse ++ .ref (ad G k) :: rest) (hcat : (rest.map fun v => v.category).sum ≤ 8) (k1 : RR G μ (pc + 3) lv (.int w :: rest) hh Q) : RR G μ pc lv st0 hh Q := R_callVi hd hw hrm hE ha hc hn hst hcat (fun v h ⟨e1, e2⟩ => by subst e1; subst e2; exact k1)
theorem R_callVv {μ' : MI} {idx n ci k : Nat} {fs As rest st0 : List Value} {P : HH → Prop} (hd : decode μ.2.1 pc = .ok (.invokevirtual idx, 3)) (hw : cvOK μ.1.cls μ' idx n) (hrm : rmOK μ μ') (hE : EVv G μ' (.ref (ad G k) :: As) hh P) (ha : hAt G hh k (.inr (ci, fs))) (hc : (clsX[ci]?).map (fun q => q.1) = some μ'.1.cls) (hn : As.length = n) (hst : st0 = As.reverse ++ .ref (ad G k) :: rest) (hcat : (rest.map fun v => v.category).sum ≤ 8) (k1 : ∀ h, P h → RR G μ (pc + 3) lv rest h Q) : RR G μ pc lv st0 hh Q := R_callV hd hw hrm hE ha hc hn hst hcat (fun r1 h ⟨e, hp⟩ => by subst e; exact k1 h hp)
theorem R_callVr {μ' : MI} {idx n ci k : Nat} {fs As rest st0 : List Value} {P : Nat → HH → Prop} (hd : decode μ.2.1 pc = .ok (.invokevirtual idx, 3)) (hw : cvOK μ.1.cls μ' idx n) (hrm : rmOK μ μ') (hE : EVr G μ' (.ref (ad G k) :: As) hh P) (ha : hAt G hh k (.inr (ci, fs))) (hc : (clsX[ci]?).map (fun q => q.1) = some μ'.1.cls) (hn : As.length = n) (hst : st0 = As.reverse ++ .ref (ad G k) :: rest) (hcat : (rest.map fun v => v.category).sum ≤ 8) (k1 : ∀ v h, P v h → RR G μ (pc + 3) lv (.ref v :: rest) h Q) : RR G μ pc lv st0 hh Q := R_callV hd hw hrm hE ha hc hn hst hcat (fun r1 h ⟨v, e, hp⟩ => by subst e; exact k1 v h hp)
theorem R_callSi {μ' : MI} {idx n : Nat} {As rest st0 : List Value} {P : Int32 → HH → Prop} (hd : decode μ.2.1 pc = .ok (.invokestatic idx, 3)) (hw : csOK μ.1.cls μ' idx n) (hrm : rmOK μ μ') (hE : EVi G μ' As hh P) (hn : As.length = n) (hst : st0 = As.reverse ++ rest) (hcat : (rest.map fun v => v.category).sum ≤ 8) (k1 : ∀ v h, P v h → RR G μ (pc + 3) lv (.int v :: rest) h Q) : RR G μ pc lv st0 hh Q := R_callS hd hw hrm hE hn hst hcat (fun r1 h ⟨v, e, hp⟩ => by subst e; exact k1 v h hp)
theorem R_callSp {μ' : MI} {idx n : Nat} {As rest st0 : List Value} {w : Int32} (hd : decode μ.2.1 pc = .ok (.invokestatic idx, 3)) (hw : csOK μ.1.cls μ' idx n) (hrm : rmOK μ μ') (hE : EVp G μ' As hh w) (hn : As.length = n) (hst : st0 = As.reverse ++ rest) (hcat : (rest.map fun v => v.category).sum ≤ 8) (k1 : RR G μ (pc + 3) lv (.int w :: rest) hh Q) : RR G μ pc lv st0 hh Q := R_callSi hd hw hrm hE hn hst hcat (fun v h ⟨e1, e2⟩ => by subst e1; subst e2; exact k1)
theorem R_callSv {μ' : MI} {idx n : Nat} {As rest st0 : List Value} {P : HH → Prop} (hd : decode μ.2.1 pc = .ok (.invokestatic idx, 3)) (hw : csOK μ.1.cls μ' idx n) (hrm : rmOK μ μ') (hE : EVv G μ' As hh P) (hn : As.length = n) (hst : st0 = As.reverse ++ rest) (hcat : (rest.map fun v => v.category).sum ≤ 8) (k1 : ∀ h, P h → RR G μ (pc + 3) lv rest h Q) : RR G μ pc lv st0 hh Q := R_callS hd hw hrm hE hn hst hcat (fun r1 h ⟨e, hp⟩ => by subst e; exact k1 h hp)
theorem R_callSr {μ' : MI} {idx n : Nat} {As rest st0 : List Value} {P : Nat → HH → Prop} (hd : decode μ.2.1 pc = .ok (.invokestatic idx, 3)) (hw : csOK μ.1.cls μ' idx n) (hrm : rmOK μ μ') (hE : EVr G μ' As hh P) (hn : As.length = n) (hst : st0 = As.reverse ++ rest) (hcat : (rest.map fun v => v.category).sum ≤ 8) (k1 : ∀ v h, P v h → RR G μ (pc + 3) lv (.ref v :: rest) h Q) : RR G μ pc lv st0 hh Q := R_callS hd hw hrm hE hn hst hcat (fun r1 h ⟨v, e, hp⟩ => by subst e; exact k1 v h hp)
theorem R_callSNi {μ' : MI} {idx n : Nat} {As rest st0 : List Value} {P : Int32 → HH → Prop} (hd : decode μ.2.1 pc = .ok (.invokestatic idx, 3)) (hw : cnOK μ.1.cls μ' idx n) (hrm : rmOK μ μ') (hE : EVi G μ' As hh P) (hn : As.length = n) (hst : st0 = As.reverse ++ rest) (hcat : (rest.map fun v => v.category).sum ≤ 8) (k1 : ∀ v h, P v h → RR G μ (pc + 3) lv (.int v :: rest) h Q) : RR G μ pc lv st0 hh Q := R_callSN hd hw hrm hE hn hst hcat (fun r1 h ⟨v, e, hp⟩ => by subst e; exact k1 v h hp)
theorem R_callSNp {μ' : MI} {idx n : Nat} {As rest st0 : List Value} {w : Int32} (hd : decode μ.2.1 pc = .ok (.invokestatic idx, 3)) (hw : cnOK μ.1.cls μ' idx n) (hrm : rmOK μ μ') (hE : EVp G μ' As hh w) (hn : As.length = n) (hst : st0 = As.reverse ++ rest) (hcat : (rest.map fun v => v.category).sum ≤ 8) (k1 : RR G μ (pc + 3) lv (.int w :: rest) hh Q) : RR G μ pc lv st0 hh Q := R_callSNi hd hw hrm hE hn hst hcat (fun v h ⟨e1, e2⟩ => by subst e1; subst e2; exact k1)
theorem R_callSNv {μ' : MI} {idx n : Nat} {As rest st0 : List Value} {P : HH → Prop} (hd : decode μ.2.1 pc = .ok (.invokestatic idx, 3)) (hw : cnOK μ.1.cls μ' idx n) (hrm : rmOK μ μ') (hE : EVv G μ' As hh P) (hn : As.length = n) (hst : st0 = As.reverse ++ rest) (hcat : (rest.map fun v => v.category).sum ≤ 8) (k1 : ∀ h, P h → RR G μ (pc + 3) lv rest h Q) : RR G μ pc lv st0 hh Q := R_callSN hd hw hrm hE hn hst hcat (fun r1 h ⟨e, hp⟩ => by subst e; exact k1 h hp)
theorem R_callSNr {μ' : MI} {idx n : Nat} {As rest st0 : List Value} {P : Nat → HH → Prop} (hd : decode μ.2.1 pc = .ok (.invokestatic idx, 3)) (hw : cnOK μ.1.cls μ' idx n) (hrm : rmOK μ μ') (hE : EVr G μ' As hh P) (hn : As.length = n) (hst : st0 = As.reverse ++ rest) (hcat : (rest.map fun v => v.category).sum ≤ 8) (k1 : ∀ v h, P v h → RR G μ (pc + 3) lv (.ref v :: rest) h Q) : RR G μ pc lv st0 hh Q := R_callSN hd hw hrm hE hn hst hcat (fun r1 h ⟨v, e, hp⟩ => by subst e; exact k1 v h hp)
theorem EV.mono {args : List Value} {Q1 Q2 : QQ} (h : EV G μ args hh Q1) (hq : ∀ r h, Q1 r h → Q2 r h) : EV G μ args hh Q2 := by
  intro p e ha hc hk s m args' below hf happ hpre hf2
  obtain ⟨k, o, h1, h2, h3, ⟨⟨⟨r, hh', hr, hq1, hp⟩, hF⟩, hL⟩⟩ := h p e ha hc hk s m args' below hf happ hpre hf2
  exact ⟨k, o, h1, h2, h3, ⟨⟨r, hh', hr, hq r hh' hq1, hp⟩, hF⟩, hL⟩
end Rules
end
section
def mJ0_charAt_5068e : MI := (yJ0_charAt_5068e, cJ0_charAt_5068e, 2, (some .char), 5)
def mJ0_checkIndex_df160 : MI := (yJ0_checkIndex_df160, cJ0_checkIndex_df160, 2, none, 2)
def mJ0_coder_7d493 : MI := (yJ0_coder_7d493, cJ0_coder_7d493, 1, (some .byte), 0)
def mJ0_isLatin1_aae02 : MI := (yJ0_isLatin1_aae02, cJ0_isLatin1_aae02, 1, (some .boolean), 0)
def mJ0_length_8abf5 : MI := (yJ0_length_8abf5, cJ0_length_8abf5, 1, (some .int), 1)
def mJ1_charAt_3b067 : MI := (yJ1_charAt_3b067, cJ1_charAt_3b067, 2, (some .char), 3)
def mJ2_charAt_3b067 : MI := (yJ2_charAt_3b067, cJ2_charAt_3b067, 2, (some .char), 4)
def mJ2_checkIndex_2214a : MI := (yJ2_checkIndex_2214a, cJ2_checkIndex_2214a, 2, none, 3)
def mJ2_getChar_3b067 : MI := (yJ2_getChar_3b067, cJ2_getChar_3b067, 2, (some .char), 1)
def mJ2_length_9d52b : MI := (yJ2_length_9d52b, cJ2_length_9d52b, 1, (some .int), 0)
def mJ3_checkIndex_8e157 : MI := (yJ3_checkIndex_8e157, cJ3_checkIndex_8e157, 3, (some .int), 1)
def mJ7_fill_53178 : MI := (yJ7_fill_53178, cJ7_fill_53178, 4, none, 0)
def mJ9_max_7cf53 : MI := (yJ9_max_7cf53, cJ9_max_7cf53, 2, (some .int), 0)
def mJ9_min_7cf53 : MI := (yJ9_min_7cf53, cJ9_min_7cf53, 2, (some .int), 0)
def mX0_forget : MI := (yX0_forget, cX0_forget, 1, none, 0)
def mX0_init : MI := (yX0_init, cX0_init, 2, none, 2)
def mX0_remember : MI := (yX0_remember, cX0_remember, 2, none, 2)
def mX0_takeBack : MI := (yX0_takeBack, cX0_takeBack, 2, none, 2)
def mX1_append : MI := (yX1_append, cX1_append, 2, none, 2)
def mX1_appendAll : MI := (yX1_appendAll, cX1_appendAll, 3, none, 1)
def mX1_hasRoomFor : MI := (yX1_hasRoomFor, cX1_hasRoomFor, 2, (some .boolean), 0)
def mX1_init : MI := (yX1_init, cX1_init, 2, none, 1)
def mX1_isWordAt : MI := (yX1_isWordAt, cX1_isWordAt, 5, (some .boolean), 6)
def mX1_numberAt : MI := (yX1_numberAt, cX1_numberAt, 7, (some .int), 0)
def mX1_placeOf : MI := (yX1_placeOf, cX1_placeOf, 3, (some .int), 1)
def mX1_putAt : MI := (yX1_putAt, cX1_putAt, 3, none, 1)
def mX1_removeSpan : MI := (yX1_removeSpan, cX1_removeSpan, 3, none, 1)
def mX1_ruleAt : MI := (yX1_ruleAt, cX1_ruleAt, 4, (some .int), 7)
def mX1_standsAt : MI := (yX1_standsAt, cX1_standsAt, 4, (some .boolean), 0)
def mX2_addCase : MI := (yX2_addCase, cX2_addCase, 4, (some .int), 4)
def mX2_addJudge : MI := (yX2_addJudge, cX2_addJudge, 3, none, 0)
def mX2_casesOf : MI := (yX2_casesOf, cX2_casesOf, 4, (some .int), 0)
def mX2_clearAll : MI := (yX2_clearAll, cX2_clearAll, 1, none, 2)
def mX2_copyFrom : MI := (yX2_copyFrom, cX2_copyFrom, 2, none, 1)
def mX2_drawBelow : MI := (yX2_drawBelow, cX2_drawBelow, 6, (some .int), 1)
def mX2_drawCaseAgain : MI := (yX2_drawCaseAgain, cX2_drawCaseAgain, 3, (some .int), 4)
def mX2_drawJudge : MI := (yX2_drawJudge, cX2_drawJudge, 6, (some .int), 3)
def mX2_everyCaseHasSomeone : MI := (yX2_everyCaseHasSomeone, cX2_everyCaseHasSomeone, 2, (some .boolean), 3)
def mX2_hasCase : MI := (yX2_hasCase, cX2_hasCase, 2, (some .boolean), 0)
def mX2_hasJudge : MI := (yX2_hasJudge, cX2_hasJudge, 2, (some .boolean), 0)
def mX2_hasSomeoneFor : MI := (yX2_hasSomeoneFor, cX2_hasSomeoneFor, 4, (some .boolean), 2)
def mX2_init : MI := (yX2_init, cX2_init, 1, none, 1)
def mX2_isAway : MI := (yX2_isAway, cX2_isAway, 2, (some .boolean), 0)
def mX2_isBarred : MI := (yX2_isBarred, cX2_isBarred, 3, (some .boolean), 0)
def mX2_isFreeFor : MI := (yX2_isFreeFor, cX2_isFreeFor, 3, (some .boolean), 1)
def mX2_judgeReaching : MI := (yX2_judgeReaching, cX2_judgeReaching, 3, (some .int), 0)
def mX2_settleDebts : MI := (yX2_settleDebts, cX2_settleDebts, 5, none, 1)
def mX2_startAnew : MI := (yX2_startAnew, cX2_startAnew, 2, none, 1)
def mX2_weighAll : MI := (yX2_weighAll, cX2_weighAll, 4, (some .int), 2)
def mX2_weightOf : MI := (yX2_weightOf, cX2_weightOf, 4, (some .int), 1)
def mX2_weightsFreeFor : MI := (yX2_weightsFreeFor, cX2_weightsFreeFor, 5, (some .int), 2)
def mX3_init : MI := (yX3_init, cX3_init, 2, none, 1)
def mX3_isOther : MI := (yX3_isOther, cX3_isOther, 2, (some .boolean), 0)
def mX3_isWord : MI := (yX3_isWord, cX3_isWord, 2, (some .boolean), 7)
def mX3_numberWithin : MI := (yX3_numberWithin, cX3_numberWithin, 4, (some .int), 1)
def mX3_readAway : MI := (yX3_readAway, cX3_readAway, 3, (some .boolean), 2)
def mX3_readBar : MI := (yX3_readBar, cX3_readBar, 4, (some .boolean), 2)
def mX3_readClause : MI := (yX3_readClause, cX3_readClause, 2, (some .boolean), 9)
def mX3_readInto : MI := (yX3_readInto, cX3_readInto, 3, (some .int), 10)
def mX3_readJudge : MI := (yX3_readJudge, cX3_readJudge, 4, (some .boolean), 2)
def mX3_readRule : MI := (yX3_readRule, cX3_readRule, 3, (some .boolean), 8)
def mX3_step : MI := (yX3_step, cX3_step, 1, none, 1)
def mX3_versedTold : MI := (yX3_versedTold, cX3_versedTold, 4, (some .int), 1)
def mX4_assign : MI := (yX4_assign, cX4_assign, 3, (some .int), 5)
def mX4_away : MI := (yX4_away, cX4_away, 3, (some .int), 3)
def mX4_back : MI := (yX4_back, cX4_back, 2, (some .int), 2)
def mX4_caseOf : MI := (yX4_caseOf, cX4_caseOf, 3, (some .int), 1)
def mX4_commonDivisor : MI := (yX4_commonDivisor, cX4_commonDivisor, 6, (some .int), 1)
def mX4_count : MI := (yX4_count, cX4_count, 4, (some .int), 6)
def mX4_cut : MI := (yX4_cut, cX4_cut, 4, (some .int), 2)
def mX4_drop : MI := (yX4_drop, cX4_drop, 2, (some .int), 1)
def mX4_dropAllSlips : MI := (yX4_dropAllSlips, cX4_dropAllSlips, 2, none, 0)
def mX4_erase : MI := (yX4_erase, cX4_erase, 2, (some .int), 0)
def mX4_fault : MI := (yX4_fault, cX4_fault, 1, (some .int), 12)
def mX4_find : MI := (yX4_find, cX4_find, 3, (some .int), 4)
def mX4_forgetKept : MI := (yX4_forgetKept, cX4_forgetKept, 2, none, 0)
def mX4_init : MI := (yX4_init, cX4_init, 2, none, 3)
def mX4_insert : MI := (yX4_insert, cX4_insert, 4, (some .int), 2)
def mX4_isDigit : MI := (yX4_isDigit, cX4_isDigit, 1, (some .boolean), 0)
def mX4_isParty : MI := (yX4_isParty, cX4_isParty, 1, (some .boolean), 0)
def mX4_isSeed : MI := (yX4_isSeed, cX4_isSeed, 1, (some .boolean), 0)
def mX4_isSlip : MI := (yX4_isSlip, cX4_isSlip, 1, (some .boolean), 0)
def mX4_isSlipLetter : MI := (yX4_isSlipLetter, cX4_isSlipLetter, 1, (some .boolean), 1)
def mX4_isSmallLetter : MI := (yX4_isSmallLetter, cX4_isSmallLetter, 1, (some .boolean), 0)
def mX4_isSubject : MI := (yX4_isSubject, cX4_isSubject, 1, (some .boolean), 0)
def mX4_join : MI := (yX4_join, cX4_join, 3, (some .int), 2)
def mX4_judge : MI := (yX4_judge, cX4_judge, 3, (some .int), 1)
def mX4_keep : MI := (yX4_keep, cX4_keep, 2, (some .int), 2)
def mX4_letter : MI := (yX4_letter, cX4_letter, 3, (some .int), 1)
def mX4_lettersOfSlips : MI := (yX4_lettersOfSlips, cX4_lettersOfSlips, 3, (some .int), 0)
def mX4_lettersOfWriting : MI := (yX4_lettersOfWriting, cX4_lettersOfWriting, 1, (some .int), 4)
def mX4_like : MI := (yX4_like, cX4_like, 3, (some .int), 6)
def mX4_named : MI := (yX4_named, cX4_named, 2, (some .int), 8)
def mX4_next : MI := (yX4_next, cX4_next, 3, (some .int), 4)
def mX4_odds : MI := (yX4_odds, cX4_odds, 8, (some .int), 3)
def mX4_readText : MI := (yX4_readText, cX4_readText, 1, (some .int), 11)
def mX4_recountBy : MI := (yX4_recountBy, cX4_recountBy, 5, (some .int), 5)
def mX4_refuse : MI := (yX4_refuse, cX4_refuse, 2, (some .int), 5)
def mX4_ruleName : MI := (yX4_ruleName, cX4_ruleName, 1, (some (.object "java/lang/String")), 0)
def mX4_seal : MI := (yX4_seal, cX4_seal, 3, (some .int), 2)
def mX4_sealOf : MI := (yX4_sealOf, cX4_sealOf, 5, (some .int), 1)
def mX4_slip : MI := (yX4_slip, cX4_slip, 2, (some .int), 1)
def mX4_told : MI := (yX4_told, cX4_told, 2, (some .int), 5)
def mX4_turned : MI := (yX4_turned, cX4_turned, 2, (some .int), 0)
def mX4_undo : MI := (yX4_undo, cX4_undo, 1, (some .int), 3)
def mX4_value : MI := (yX4_value, cX4_value, 3, (some .int), 1)
def mX4_weight : MI := (yX4_weight, cX4_weight, 3, (some .int), 2)
def mX4_wheel : MI := (yX4_wheel, cX4_wheel, 1, (some .int), 12)
def mX4_write : MI := (yX4_write, cX4_write, 2, (some .int), 2)
def mX4_writeDocket : MI := (yX4_writeDocket, cX4_writeDocket, 2, none, 3)
def mX4_writing : MI := (yX4_writing, cX4_writing, 2, (some .int), 4)
def mX5_allLetters : MI := (yX5_allLetters, cX5_allLetters, 3, (some .int), 0)
def mX5_anew : MI := (yX5_anew, cX5_anew, 2, none, 0)
def mX5_assign : MI := (yX5_assign, cX5_assign, 4, (some .int), 4)
def mX5_assigned : MI := (yX5_assigned, cX5_assigned, 5, (some .int), 3)
def mX5_away : MI := (yX5_away, cX5_away, 3, (some .int), 2)
def mX5_back : MI := (yX5_back, cX5_back, 2, (some .int), 1)
def mX5_canCount : MI := (yX5_canCount, cX5_canCount, 3, (some .boolean), 3)
def mX5_caseOf : MI := (yX5_caseOf, cX5_caseOf, 3, (some .int), 2)
def mX5_copyRow : MI := (yX5_copyRow, cX5_copyRow, 4, none, 0)
def mX5_count : MI := (yX5_count, cX5_count, 4, (some .int), 5)
def mX5_cut : MI := (yX5_cut, cX5_cut, 5, (some .int), 2)
def mX5_does : MI := (yX5_does, cX5_does, 2, none, 1)
def mX5_drawFor : MI := (yX5_drawFor, cX5_drawFor, 7, (some .int), 1)
def mX5_drawOnce : MI := (yX5_drawOnce, cX5_drawOnce, 7, (some .int), 2)
def mX5_drop : MI := (yX5_drop, cX5_drop, 3, (some .int), 2)
def mX5_erase : MI := (yX5_erase, cX5_erase, 2, (some .int), 0)
def mX5_fault : MI := (yX5_fault, cX5_fault, 1, (some .int), 7)
def mX5_find : MI := (yX5_find, cX5_find, 5, (some .int), 2)
def mX5_has : MI := (yX5_has, cX5_has, 2, (some .boolean), 0)
def mX5_in : MI := (yX5_in, cX5_in, 6, (some .boolean), 0)
def mX5_init : MI := (yX5_init, cX5_init, 1, none, 1)
def mX5_insert : MI := (yX5_insert, cX5_insert, 5, (some .int), 2)
def mX5_isAnyone : MI := (yX5_isAnyone, cX5_isAnyone, 6, (some .boolean), 2)
def mX5_isBarred : MI := (yX5_isBarred, cX5_isBarred, 4, (some .boolean), 1)
def mX5_isCase : MI := (yX5_isCase, cX5_isCase, 2, (some .boolean), 1)
def mX5_isDigit : MI := (yX5_isDigit, cX5_isDigit, 1, (some .boolean), 1)
def mX5_isJudge : MI := (yX5_isJudge, cX5_isJudge, 2, (some .boolean), 1)
def mX5_isParty : MI := (yX5_isParty, cX5_isParty, 1, (some .boolean), 1)
def mX5_isSlip : MI := (yX5_isSlip, cX5_isSlip, 1, (some .boolean), 1)
def mX5_isSmall : MI := (yX5_isSmall, cX5_isSmall, 1, (some .boolean), 1)
def mX5_isSubject : MI := (yX5_isSubject, cX5_isSubject, 1, (some .boolean), 1)
def mX5_isWord : MI := (yX5_isWord, cX5_isWord, 4, (some .boolean), 0)
def mX5_join : MI := (yX5_join, cX5_join, 5, (some .int), 2)
def mX5_judge : MI := (yX5_judge, cX5_judge, 5, (some .int), 2)
def mX5_keep : MI := (yX5_keep, cX5_keep, 2, (some .int), 1)
def mX5_keepPast : MI := (yX5_keepPast, cX5_keepPast, 2, none, 1)
def mX5_layWriting : MI := (yX5_layWriting, cX5_layWriting, 2, none, 1)
def mX5_letter : MI := (yX5_letter, cX5_letter, 3, (some .int), 2)
def mX5_like : MI := (yX5_like, cX5_like, 3, (some .int), 5)
def mX5_named : MI := (yX5_named, cX5_named, 5, (some .int), 2)
def mX5_next : MI := (yX5_next, cX5_next, 3, (some .int), 4)
def mX5_nextToken : MI := (yX5_nextToken, cX5_nextToken, 1, none, 2)
def mX5_number : MI := (yX5_number, cX5_number, 6, (some .boolean), 3)
def mX5_odds : MI := (yX5_odds, cX5_odds, 10, (some .int), 3)
def mX5_owe : MI := (yX5_owe, cX5_owe, 6, none, 1)
def mX5_put : MI := (yX5_put, cX5_put, 2, none, 0)
def mX5_reads : MI := (yX5_reads, cX5_reads, 3, (some .boolean), 6)
def mX5_readsClause : MI := (yX5_readsClause, cX5_readsClause, 2, (some .boolean), 5)
def mX5_readsRest : MI := (yX5_readsRest, cX5_readsRest, 2, (some .boolean), 4)
def mX5_readsRule : MI := (yX5_readsRule, cX5_readsRule, 2, (some .boolean), 3)
def mX5_readsVersed : MI := (yX5_readsVersed, cX5_readsVersed, 4, (some .boolean), 3)
def mX5_refuse : MI := (yX5_refuse, cX5_refuse, 4, (some .int), 4)
def mX5_sameBy : MI := (yX5_sameBy, cX5_sameBy, 4, (some .int), 4)
def mX5_seal : MI := (yX5_seal, cX5_seal, 3, (some .int), 1)
def mX5_sealAt : MI := (yX5_sealAt, cX5_sealAt, 4, none, 0)
def mX5_sealOf : MI := (yX5_sealOf, cX5_sealOf, 5, (some .int), 1)
def mX5_slip : MI := (yX5_slip, cX5_slip, 2, (some .int), 2)
def mX5_standsAt : MI := (yX5_standsAt, cX5_standsAt, 6, (some .boolean), 0)
def mX5_told : MI := (yX5_told, cX5_told, 2, (some .int), 2)
def mX5_turned : MI := (yX5_turned, cX5_turned, 2, (some .int), 0)
def mX5_undo : MI := (yX5_undo, cX5_undo, 1, (some .int), 1)
def mX5_value : MI := (yX5_value, cX5_value, 5, (some .int), 2)
def mX5_weight : MI := (yX5_weight, cX5_weight, 3, (some .int), 2)
def mX5_weightOf : MI := (yX5_weightOf, cX5_weightOf, 5, (some .int), 1)
def mX5_wheel : MI := (yX5_wheel, cX5_wheel, 2, (some .int), 7)
def mX5_wordOf : MI := (yX5_wordOf, cX5_wordOf, 4, (some .int), 1)
def mX5_write : MI := (yX5_write, cX5_write, 2, (some .int), 1)
def mX5_writing : MI := (yX5_writing, cX5_writing, 2, (some .int), 2)
theorem xw_208 : (.fieldLink RX4 14 "CaseWheel" "text" "LCaseWheel$Letters;" : Cond) ∈ XW := (List.mem_filter.mpr ⟨List.mem_of_getElem? (i := 208) (by decide +kernel), by decide +kernel⟩)
theorem xw_209 : (.fieldLink RX4 18 "CaseWheel" "docket" "LCaseWheel$Letters;" : Cond) ∈ XW := (List.mem_filter.mpr ⟨List.mem_of_getElem? (i := 209) (by decide +kernel), by decide +kernel⟩)
theorem xw_210 : (.fieldLink RX4 21 "CaseWheel" "slips" "[LCaseWheel$Letters;" : Cond) ∈ XW := (List.mem_filter.mpr ⟨List.mem_of_getElem? (i := 210) (by decide +kernel), by decide +kernel⟩)
theorem xw_211 : (.fieldLink RX4 25 "CaseWheel" "isThere" "[Z" : Cond) ∈ XW := (List.mem_filter.mpr ⟨List.mem_of_getElem? (i := 211) (by decide +kernel), by decide +kernel⟩)
theorem xw_212 : (.fieldLink RX4 34 "CaseWheel" "reader" "LCaseWheel$TextReader;" : Cond) ∈ XW := (List.mem_filter.mpr ⟨List.mem_of_getElem? (i := 212) (by decide +kernel), by decide +kernel⟩)
theorem xw_213 : (.fieldLink RX4 41 "CaseWheel" "asTold" "LCaseWheel$State;" : Cond) ∈ XW := (List.mem_filter.mpr ⟨List.mem_of_getElem? (i := 213) (by decide +kernel), by decide +kernel⟩)
theorem xw_214 : (.fieldLink RX4 45 "CaseWheel" "asRead" "LCaseWheel$State;" : Cond) ∈ XW := (List.mem_filter.mpr ⟨List.mem_of_getElem? (i := 214) (by decide +kernel), by decide +kernel⟩)
theorem xw_215 : (.fieldLink RX4 48 "CaseWheel" "now" "LCaseWheel$State;" : Cond) ∈ XW := (List.mem_filter.mpr ⟨List.mem_of_getElem? (i := 215) (by decide +kernel), by decide +kernel⟩)
theorem xw_216 : (.fieldLink RX4 51 "CaseWheel" "foretold" "LCaseWheel$State;" : Cond) ∈ XW := (List.mem_filter.mpr ⟨List.mem_of_getElem? (i := 216) (by decide +kernel), by decide +kernel⟩)
theorem xw_217 : (.fieldLink RX4 57 "CaseWheel" "history" "LCaseWheel$History;" : Cond) ∈ XW := (List.mem_filter.mpr ⟨List.mem_of_getElem? (i := 217) (by decide +kernel), by decide +kernel⟩)
theorem xw_218 : (.fieldLink RX4 61 "CaseWheel" "kept" "[LCaseWheel$State;" : Cond) ∈ XW := (List.mem_filter.mpr ⟨List.mem_of_getElem? (i := 218) (by decide +kernel), by decide +kernel⟩)
theorem xw_219 : (.fieldLink RX4 65 "CaseWheel" "isKept" "[Z" : Cond) ∈ XW := (List.mem_filter.mpr ⟨List.mem_of_getElem? (i := 219) (by decide +kernel), by decide +kernel⟩)
theorem xw_86 : (.fieldLink RX4 72 "CaseWheel$Letters" "length" "I" : Cond) ∈ XW := (List.mem_filter.mpr ⟨List.mem_of_getElem? (i := 86) (by decide +kernel), by decide +kernel⟩)
theorem xw_106 : (.fieldLink RX4 97 "CaseWheel$TextReader" "clauses" "I" : Cond) ∈ XW := (List.mem_filter.mpr ⟨List.mem_of_getElem? (i := 106) (by decide +kernel), by decide +kernel⟩)
theorem xw_126 : (.fieldLink RX4 103 "CaseWheel$State" "strength" "[I" : Cond) ∈ XW := (List.mem_filter.mpr ⟨List.mem_of_getElem? (i := 126) (by decide +kernel), by decide +kernel⟩)
theorem xw_128 : (.fieldLink RX4 107 "CaseWheel$State" "versed" "[I" : Cond) ∈ XW := (List.mem_filter.mpr ⟨List.mem_of_getElem? (i := 128) (by decide +kernel), by decide +kernel⟩)
theorem xw_130 : (.fieldLink RX4 110 "CaseWheel$State" "barred" "[I" : Cond) ∈ XW := (List.mem_filter.mpr ⟨List.mem_of_getElem? (i := 130) (by decide +kernel), by decide +kernel⟩)
theorem xw_133 : (.fieldLink RX4 116 "CaseWheel$State" "debt" "[I" : Cond) ∈ XW := (List.mem_filter.mpr ⟨List.mem_of_getElem? (i := 133) (by decide +kernel), by decide +kernel⟩)
theorem xw_135 : (.fieldLink RX4 126 "CaseWheel$State" "subjectOf" "[I" : Cond) ∈ XW := (List.mem_filter.mpr ⟨List.mem_of_getElem? (i := 135) (by decide +kernel), by decide +kernel⟩)
theorem xw_137 : (.fieldLink RX4 129 "CaseWheel$State" "partyOf" "[I" : Cond) ∈ XW := (List.mem_filter.mpr ⟨List.mem_of_getElem? (i := 137) (by decide +kernel), by decide +kernel⟩)
theorem xw_139 : (.fieldLink RX4 132 "CaseWheel$State" "judgeOf" "[I" : Cond) ∈ XW := (List.mem_filter.mpr ⟨List.mem_of_getElem? (i := 139) (by decide +kernel), by decide +kernel⟩)
theorem xw_156 : (.fieldLink RX4 138 "CaseWheel$State" "cases" "I" : Cond) ∈ XW := (List.mem_filter.mpr ⟨List.mem_of_getElem? (i := 156) (by decide +kernel), by decide +kernel⟩)
theorem xw_146 : (.fieldLink RX4 164 "CaseWheel$State" "away" "I" : Cond) ∈ XW := (List.mem_filter.mpr ⟨List.mem_of_getElem? (i := 146) (by decide +kernel), by decide +kernel⟩)
theorem xw_200 : (.fieldLink RX4 167 "CaseWheel$History" "size" "I" : Cond) ∈ XW := (List.mem_filter.mpr ⟨List.mem_of_getElem? (i := 200) (by decide +kernel), by decide +kernel⟩)
theorem xw_84 : (.fieldLink RX4 176 "CaseWheel$Letters" "row" "[I" : Cond) ∈ XW := (List.mem_filter.mpr ⟨List.mem_of_getElem? (i := 84) (by decide +kernel), by decide +kernel⟩)
theorem xw_154 : (.fieldLink RX4 205 "CaseWheel$State" "turns" "I" : Cond) ∈ XW := (List.mem_filter.mpr ⟨List.mem_of_getElem? (i := 154) (by decide +kernel), by decide +kernel⟩)
theorem xw_143 : (.fieldLink RX4 231 "CaseWheel$State" "judges" "I" : Cond) ∈ XW := (List.mem_filter.mpr ⟨List.mem_of_getElem? (i := 143) (by decide +kernel), by decide +kernel⟩)
theorem xw_149 : (.fieldLink RX4 234 "CaseWheel$State" "rule" "I" : Cond) ∈ XW := (List.mem_filter.mpr ⟨List.mem_of_getElem? (i := 149) (by decide +kernel), by decide +kernel⟩)
theorem xw_151 : (.fieldLink RX4 243 "CaseWheel$State" "seed" "I" : Cond) ∈ XW := (List.mem_filter.mpr ⟨List.mem_of_getElem? (i := 151) (by decide +kernel), by decide +kernel⟩)
theorem xw_197 : (.fieldLink RX0 11 "CaseWheel$History" "before" "[LCaseWheel$State;" : Cond) ∈ XW := (List.mem_filter.mpr ⟨List.mem_of_getElem? (i := 197) (by decide +kernel), by decide +kernel⟩)
theorem xw_199 : (.fieldLink RX0 18 "CaseWheel$History" "size" "I" : Cond) ∈ XW := (List.mem_filter.mpr ⟨List.mem_of_getElem? (i := 199) (by decide +kernel), by decide +kernel⟩)
theorem xw_198 : (.fieldLink RX0 22 "CaseWheel$History" "oldest" "I" : Cond) ∈ XW := (List.mem_filter.mpr ⟨List.mem_of_getElem? (i := 198) (by decide +kernel), by decide +kernel⟩)
theorem xw_82 : (.fieldLink RX1 15 "CaseWheel$Letters" "row" "[I" : Cond) ∈ XW := (List.mem_filter.mpr ⟨List.mem_of_getElem? (i := 82) (by decide +kernel), by decide +kernel⟩)
theorem xw_85 : (.fieldLink RX1 21 "CaseWheel$Letters" "length" "I" : Cond) ∈ XW := (List.mem_filter.mpr ⟨List.mem_of_getElem? (i := 85) (by decide +kernel), by decide +kernel⟩)
theorem xw_125 : (.fieldLink RX2 9 "CaseWheel$State" "strength" "[I" : Cond) ∈ XW := (List.mem_filter.mpr ⟨List.mem_of_getElem? (i := 125) (by decide +kernel), by decide +kernel⟩)
theorem xw_127 : (.fieldLink RX2 15 "CaseWheel$State" "versed" "[I" : Cond) ∈ XW := (List.mem_filter.mpr ⟨List.mem_of_getElem? (i := 127) (by decide +kernel), by decide +kernel⟩)
theorem xw_129 : (.fieldLink RX2 18 "CaseWheel$State" "barred" "[I" : Cond) ∈ XW := (List.mem_filter.mpr ⟨List.mem_of_getElem? (i := 129) (by decide +kernel), by decide +kernel⟩)
theorem xw_132 : (.fieldLink RX2 21 "CaseWheel$State" "debt" "[I" : Cond) ∈ XW := (List.mem_filter.mpr ⟨List.mem_of_getElem? (i := 132) (by decide +kernel), by decide +kernel⟩)
theorem xw_134 : (.fieldLink RX2 24 "CaseWheel$State" "subjectOf" "[I" : Cond) ∈ XW := (List.mem_filter.mpr ⟨List.mem_of_getElem? (i := 134) (by decide +kernel), by decide +kernel⟩)
theorem xw_136 : (.fieldLink RX2 27 "CaseWheel$State" "partyOf" "[I" : Cond) ∈ XW := (List.mem_filter.mpr ⟨List.mem_of_getElem? (i := 136) (by decide +kernel), by decide +kernel⟩)
theorem xw_138 : (.fieldLink RX2 30 "CaseWheel$State" "judgeOf" "[I" : Cond) ∈ XW := (List.mem_filter.mpr ⟨List.mem_of_getElem? (i := 138) (by decide +kernel), by decide +kernel⟩)
theorem xw_140 : (.fieldLink RX2 33 "CaseWheel$State" "weightsUpTo" "[I" : Cond) ∈ XW := (List.mem_filter.mpr ⟨List.mem_of_getElem? (i := 140) (by decide +kernel), by decide +kernel⟩)
theorem xw_147 : (.fieldLink RX2 36 "CaseWheel$State" "rule" "I" : Cond) ∈ XW := (List.mem_filter.mpr ⟨List.mem_of_getElem? (i := 147) (by decide +kernel), by decide +kernel⟩)
theorem xw_150 : (.fieldLink RX2 40 "CaseWheel$State" "seed" "I" : Cond) ∈ XW := (List.mem_filter.mpr ⟨List.mem_of_getElem? (i := 150) (by decide +kernel), by decide +kernel⟩)
theorem xw_152 : (.fieldLink RX2 43 "CaseWheel$State" "chain" "I" : Cond) ∈ XW := (List.mem_filter.mpr ⟨List.mem_of_getElem? (i := 152) (by decide +kernel), by decide +kernel⟩)
theorem xw_141 : (.fieldLink RX2 52 "CaseWheel$State" "judges" "I" : Cond) ∈ XW := (List.mem_filter.mpr ⟨List.mem_of_getElem? (i := 141) (by decide +kernel), by decide +kernel⟩)
theorem xw_144 : (.fieldLink RX2 55 "CaseWheel$State" "away" "I" : Cond) ∈ XW := (List.mem_filter.mpr ⟨List.mem_of_getElem? (i := 144) (by decide +kernel), by decide +kernel⟩)
theorem xw_153 : (.fieldLink RX2 58 "CaseWheel$State" "turns" "I" : Cond) ∈ XW := (List.mem_filter.mpr ⟨List.mem_of_getElem? (i := 153) (by decide +kernel), by decide +kernel⟩)
theorem xw_155 : (.fieldLink RX2 61 "CaseWheel$State" "cases" "I" : Cond) ∈ XW := (List.mem_filter.mpr ⟨List.mem_of_getElem? (i := 155) (by decide +kernel), by decide +kernel⟩)
theorem xw_101 : (.fieldLink RX3 9 "CaseWheel$TextReader" "text" "LCaseWheel$Letters;" : Cond) ∈ XW := (List.mem_filter.mpr ⟨List.mem_of_getElem? (i := 101) (by decide +kernel), by decide +kernel⟩)
theorem xw_104 : (.fieldLink RX3 15 "CaseWheel$TextReader" "end" "I" : Cond) ∈ XW := (List.mem_filter.mpr ⟨List.mem_of_getElem? (i := 104) (by decide +kernel), by decide +kernel⟩)
theorem xw_105 : (.fieldLink RX3 19 "CaseWheel$TextReader" "clauses" "I" : Cond) ∈ XW := (List.mem_filter.mpr ⟨List.mem_of_getElem? (i := 105) (by decide +kernel), by decide +kernel⟩)
theorem xw_103 : (.fieldLink RX3 29 "CaseWheel$TextReader" "start" "I" : Cond) ∈ XW := (List.mem_filter.mpr ⟨List.mem_of_getElem? (i := 103) (by decide +kernel), by decide +kernel⟩)
theorem xw_102 : (.fieldLink RX3 32 "CaseWheel$TextReader" "kind" "I" : Cond) ∈ XW := (List.mem_filter.mpr ⟨List.mem_of_getElem? (i := 102) (by decide +kernel), by decide +kernel⟩)
theorem xw_87 : (.fieldLink RX3 39 "CaseWheel$Letters" "length" "I" : Cond) ∈ XW := (List.mem_filter.mpr ⟨List.mem_of_getElem? (i := 87) (by decide +kernel), by decide +kernel⟩)
theorem xw_83 : (.fieldLink RX3 44 "CaseWheel$Letters" "row" "[I" : Cond) ∈ XW := (List.mem_filter.mpr ⟨List.mem_of_getElem? (i := 83) (by decide +kernel), by decide +kernel⟩)
theorem xw_142 : (.fieldLink RX3 93 "CaseWheel$State" "judges" "I" : Cond) ∈ XW := (List.mem_filter.mpr ⟨List.mem_of_getElem? (i := 142) (by decide +kernel), by decide +kernel⟩)
theorem xw_131 : (.fieldLink RX3 111 "CaseWheel$State" "barred" "[I" : Cond) ∈ XW := (List.mem_filter.mpr ⟨List.mem_of_getElem? (i := 131) (by decide +kernel), by decide +kernel⟩)
theorem xw_145 : (.fieldLink RX3 114 "CaseWheel$State" "away" "I" : Cond) ∈ XW := (List.mem_filter.mpr ⟨List.mem_of_getElem? (i := 145) (by decide +kernel), by decide +kernel⟩)
theorem xw_148 : (.fieldLink RX3 119 "CaseWheel$State" "rule" "I" : Cond) ∈ XW := (List.mem_filter.mpr ⟨List.mem_of_getElem? (i := 148) (by decide +kernel), by decide +kernel⟩)
theorem xw_707 : (.fieldLink RX5 7 "CaseWheelModel" "row" "[I" : Cond) ∈ XW := (List.mem_filter.mpr ⟨List.mem_of_getElem? (i := 707) (by decide +kernel), by decide +kernel⟩)
theorem xw_710 : (.fieldLink RX5 13 "CaseWheelModel" "strengths" "[I" : Cond) ∈ XW := (List.mem_filter.mpr ⟨List.mem_of_getElem? (i := 710) (by decide +kernel), by decide +kernel⟩)
theorem xw_711 : (.fieldLink RX5 16 "CaseWheelModel" "versed" "[I" : Cond) ∈ XW := (List.mem_filter.mpr ⟨List.mem_of_getElem? (i := 711) (by decide +kernel), by decide +kernel⟩)
theorem xw_713 : (.fieldLink RX5 19 "CaseWheelModel" "isKept" "[Z" : Cond) ∈ XW := (List.mem_filter.mpr ⟨List.mem_of_getElem? (i := 713) (by decide +kernel), by decide +kernel⟩)
theorem xw_714 : (.fieldLink RX5 23 "CaseWheelModel" "text" "[I" : Cond) ∈ XW := (List.mem_filter.mpr ⟨List.mem_of_getElem? (i := 714) (by decide +kernel), by decide +kernel⟩)
theorem xw_716 : (.fieldLink RX5 26 "CaseWheelModel" "sizes" "[I" : Cond) ∈ XW := (List.mem_filter.mpr ⟨List.mem_of_getElem? (i := 716) (by decide +kernel), by decide +kernel⟩)
theorem xw_717 : (.fieldLink RX5 29 "CaseWheelModel" "letters" "[I" : Cond) ∈ XW := (List.mem_filter.mpr ⟨List.mem_of_getElem? (i := 717) (by decide +kernel), by decide +kernel⟩)
theorem xw_723 : (.fieldLink RX5 32 "CaseWheelModel" "numbers" "[I" : Cond) ∈ XW := (List.mem_filter.mpr ⟨List.mem_of_getElem? (i := 723) (by decide +kernel), by decide +kernel⟩)
theorem xw_724 : (.fieldLink RX5 35 "CaseWheelModel" "words" "[I" : Cond) ∈ XW := (List.mem_filter.mpr ⟨List.mem_of_getElem? (i := 724) (by decide +kernel), by decide +kernel⟩)
theorem xw_725 : (.fieldLink RX5 38 "CaseWheelModel" "written" "[I" : Cond) ∈ XW := (List.mem_filter.mpr ⟨List.mem_of_getElem? (i := 725) (by decide +kernel), by decide +kernel⟩)
theorem xw_708 : (.fieldLink RX5 48 "CaseWheelModel" "judges" "I" : Cond) ∈ XW := (List.mem_filter.mpr ⟨List.mem_of_getElem? (i := 708) (by decide +kernel), by decide +kernel⟩)
theorem xw_709 : (.fieldLink RX5 52 "CaseWheelModel" "rule" "I" : Cond) ∈ XW := (List.mem_filter.mpr ⟨List.mem_of_getElem? (i := 709) (by decide +kernel), by decide +kernel⟩)
theorem xw_715 : (.fieldLink RX5 61 "CaseWheelModel" "length" "I" : Cond) ∈ XW := (List.mem_filter.mpr ⟨List.mem_of_getElem? (i := 715) (by decide +kernel), by decide +kernel⟩)
theorem xw_719 : (.fieldLink RX5 72 "CaseWheelModel" "behind" "I" : Cond) ∈ XW := (List.mem_filter.mpr ⟨List.mem_of_getElem? (i := 719) (by decide +kernel), by decide +kernel⟩)
theorem xw_718 : (.fieldLink RX5 75 "CaseWheelModel" "first" "I" : Cond) ∈ XW := (List.mem_filter.mpr ⟨List.mem_of_getElem? (i := 718) (by decide +kernel), by decide +kernel⟩)
theorem xw_720 : (.fieldLink RX5 109 "CaseWheelModel" "readJudges" "I" : Cond) ∈ XW := (List.mem_filter.mpr ⟨List.mem_of_getElem? (i := 720) (by decide +kernel), by decide +kernel⟩)
theorem xw_722 : (.fieldLink RX5 118 "CaseWheelModel" "doing" "Z" : Cond) ∈ XW := (List.mem_filter.mpr ⟨List.mem_of_getElem? (i := 722) (by decide +kernel), by decide +kernel⟩)
theorem xw_721 : (.fieldLink RX5 126 "CaseWheelModel" "clauses" "I" : Cond) ∈ XW := (List.mem_filter.mpr ⟨List.mem_of_getElem? (i := 721) (by decide +kernel), by decide +kernel⟩)
theorem xw_712 : (.fieldLink RX5 136 "CaseWheelModel" "undos" "I" : Cond) ∈ XW := (List.mem_filter.mpr ⟨List.mem_of_getElem? (i := 712) (by decide +kernel), by decide +kernel⟩)
theorem xw_726 : (.fieldLink RX5 188 "CaseWheelModel" "writtenMany" "I" : Cond) ∈ XW := (List.mem_filter.mpr ⟨List.mem_of_getElem? (i := 726) (by decide +kernel), by decide +kernel⟩)
theorem xw_252 : (mcd mX1_hasRoomFor : Cond) ∈ XW := (List.mem_filter.mpr ⟨List.mem_of_getElem? (i := 252) (by decide +kernel), by decide +kernel⟩)
theorem xw_53 : (.initialized RX1 : Cond) ∈ XW := (List.mem_filter.mpr ⟨List.mem_of_getElem? (i := 53) (by decide +kernel), by decide +kernel⟩)
theorem xw_249 : (.methodLink RX4 68 yX1_hasRoomFor : Cond) ∈ XW := (List.mem_filter.mpr ⟨List.mem_of_getElem? (i := 249) (by decide +kernel), by decide +kernel⟩)
theorem xw_250 : (.instanceMethod yX1_hasRoomFor : Cond) ∈ XW := (List.mem_filter.mpr ⟨List.mem_of_getElem? (i := 250) (by decide +kernel), by decide +kernel⟩)
theorem xw_251 : (.selects RX1 yX1_hasRoomFor yX1_hasRoomFor : Cond) ∈ XW := (List.mem_filter.mpr ⟨List.mem_of_getElem? (i := 251) (by decide +kernel), by decide +kernel⟩)
theorem xw_256 : (mcd mX1_putAt : Cond) ∈ XW := (List.mem_filter.mpr ⟨List.mem_of_getElem? (i := 256) (by decide +kernel), by decide +kernel⟩)
theorem xw_253 : (.methodLink RX4 76 yX1_putAt : Cond) ∈ XW := (List.mem_filter.mpr ⟨List.mem_of_getElem? (i := 253) (by decide +kernel), by decide +kernel⟩)
theorem xw_254 : (.instanceMethod yX1_putAt : Cond) ∈ XW := (List.mem_filter.mpr ⟨List.mem_of_getElem? (i := 254) (by decide +kernel), by decide +kernel⟩)
theorem xw_255 : (.selects RX1 yX1_putAt yX1_putAt : Cond) ∈ XW := (List.mem_filter.mpr ⟨List.mem_of_getElem? (i := 255) (by decide +kernel), by decide +kernel⟩)
theorem xw_272 : (mcd mX4_readText : Cond) ∈ XW := (List.mem_filter.mpr ⟨List.mem_of_getElem? (i := 272) (by decide +kernel), by decide +kernel⟩)
theorem xw_52 : (.initialized RX4 : Cond) ∈ XW := (List.mem_filter.mpr ⟨List.mem_of_getElem? (i := 52) (by decide +kernel), by decide +kernel⟩)
theorem xw_269 : (.methodLink RX4 80 yX4_readText : Cond) ∈ XW := (List.mem_filter.mpr ⟨List.mem_of_getElem? (i := 269) (by decide +kernel), by decide +kernel⟩)
theorem xw_271 : (.instanceMethod yX4_readText : Cond) ∈ XW := (List.mem_filter.mpr ⟨List.mem_of_getElem? (i := 271) (by decide +kernel), by decide +kernel⟩)
theorem xw_0 : (.selects RX4 yX4_readText yX4_readText : Cond) ∈ XW := (List.mem_filter.mpr ⟨List.mem_of_getElem? (i := 0) (by decide +kernel), by decide +kernel⟩)
theorem xw_276 : (mcd mX2_copyFrom : Cond) ∈ XW := (List.mem_filter.mpr ⟨List.mem_of_getElem? (i := 276) (by decide +kernel), by decide +kernel⟩)
theorem xw_56 : (.initialized RX2 : Cond) ∈ XW := (List.mem_filter.mpr ⟨List.mem_of_getElem? (i := 56) (by decide +kernel), by decide +kernel⟩)
theorem xw_273 : (.methodLink RX4 84 yX2_copyFrom : Cond) ∈ XW := (List.mem_filter.mpr ⟨List.mem_of_getElem? (i := 273) (by decide +kernel), by decide +kernel⟩)
theorem xw_274 : (.instanceMethod yX2_copyFrom : Cond) ∈ XW := (List.mem_filter.mpr ⟨List.mem_of_getElem? (i := 274) (by decide +kernel), by decide +kernel⟩)
theorem xw_275 : (.selects RX2 yX2_copyFrom yX2_copyFrom : Cond) ∈ XW := (List.mem_filter.mpr ⟨List.mem_of_getElem? (i := 275) (by decide +kernel), by decide +kernel⟩)
theorem xw_427 : (mcd mX0_forget : Cond) ∈ XW := (List.mem_filter.mpr ⟨List.mem_of_getElem? (i := 427) (by decide +kernel), by decide +kernel⟩)
theorem xw_57 : (.initialized RX0 : Cond) ∈ XW := (List.mem_filter.mpr ⟨List.mem_of_getElem? (i := 57) (by decide +kernel), by decide +kernel⟩)
theorem xw_424 : (.methodLink RX4 88 yX0_forget : Cond) ∈ XW := (List.mem_filter.mpr ⟨List.mem_of_getElem? (i := 424) (by decide +kernel), by decide +kernel⟩)
theorem xw_425 : (.instanceMethod yX0_forget : Cond) ∈ XW := (List.mem_filter.mpr ⟨List.mem_of_getElem? (i := 425) (by decide +kernel), by decide +kernel⟩)
theorem xw_426 : (.selects RX0 yX0_forget yX0_forget : Cond) ∈ XW := (List.mem_filter.mpr ⟨List.mem_of_getElem? (i := 426) (by decide +kernel), by decide +kernel⟩)
theorem xw_431 : (mcd mX4_forgetKept : Cond) ∈ XW := (List.mem_filter.mpr ⟨List.mem_of_getElem? (i := 431) (by decide +kernel), by decide +kernel⟩)
theorem xw_428 : (.methodLink RX4 91 yX4_forgetKept : Cond) ∈ XW := (List.mem_filter.mpr ⟨List.mem_of_getElem? (i := 428) (by decide +kernel), by decide +kernel⟩)
theorem xw_430 : (.instanceMethod yX4_forgetKept : Cond) ∈ XW := (List.mem_filter.mpr ⟨List.mem_of_getElem? (i := 430) (by decide +kernel), by decide +kernel⟩)
theorem xw_11 : (.selects RX4 yX4_forgetKept yX4_forgetKept : Cond) ∈ XW := (List.mem_filter.mpr ⟨List.mem_of_getElem? (i := 11) (by decide +kernel), by decide +kernel⟩)
theorem xw_435 : (mcd mX4_dropAllSlips : Cond) ∈ XW := (List.mem_filter.mpr ⟨List.mem_of_getElem? (i := 435) (by decide +kernel), by decide +kernel⟩)
theorem xw_432 : (.methodLink RX4 94 yX4_dropAllSlips : Cond) ∈ XW := (List.mem_filter.mpr ⟨List.mem_of_getElem? (i := 432) (by decide +kernel), by decide +kernel⟩)
theorem xw_434 : (.instanceMethod yX4_dropAllSlips : Cond) ∈ XW := (List.mem_filter.mpr ⟨List.mem_of_getElem? (i := 434) (by decide +kernel), by decide +kernel⟩)
theorem xw_12 : (.selects RX4 yX4_dropAllSlips yX4_dropAllSlips : Cond) ∈ XW := (List.mem_filter.mpr ⟨List.mem_of_getElem? (i := 12) (by decide +kernel), by decide +kernel⟩)
theorem xw_443 : (mcd mX2_hasJudge : Cond) ∈ XW := (List.mem_filter.mpr ⟨List.mem_of_getElem? (i := 443) (by decide +kernel), by decide +kernel⟩)
theorem xw_440 : (.methodLink RX4 100 yX2_hasJudge : Cond) ∈ XW := (List.mem_filter.mpr ⟨List.mem_of_getElem? (i := 440) (by decide +kernel), by decide +kernel⟩)
theorem xw_441 : (.instanceMethod yX2_hasJudge : Cond) ∈ XW := (List.mem_filter.mpr ⟨List.mem_of_getElem? (i := 441) (by decide +kernel), by decide +kernel⟩)
theorem xw_442 : (.selects RX2 yX2_hasJudge yX2_hasJudge : Cond) ∈ XW := (List.mem_filter.mpr ⟨List.mem_of_getElem? (i := 442) (by decide +kernel), by decide +kernel⟩)
theorem xw_447 : (mcd mX2_isAway : Cond) ∈ XW := (List.mem_filter.mpr ⟨List.mem_of_getElem? (i := 447) (by decide +kernel), by decide +kernel⟩)
theorem xw_444 : (.methodLink RX4 113 yX2_isAway : Cond) ∈ XW := (List.mem_filter.mpr ⟨List.mem_of_getElem? (i := 444) (by decide +kernel), by decide +kernel⟩)
theorem xw_445 : (.instanceMethod yX2_isAway : Cond) ∈ XW := (List.mem_filter.mpr ⟨List.mem_of_getElem? (i := 445) (by decide +kernel), by decide +kernel⟩)
theorem xw_446 : (.selects RX2 yX2_isAway yX2_isAway : Cond) ∈ XW := (List.mem_filter.mpr ⟨List.mem_of_getElem? (i := 446) (by decide +kernel), by decide +kernel⟩)
theorem xw_451 : (mcd mX2_casesOf : Cond) ∈ XW := (List.mem_filter.mpr ⟨List.mem_of_getElem? (i := 451) (by decide +kernel), by decide +kernel⟩)
theorem xw_448 : (.methodLink RX4 119 yX2_casesOf : Cond) ∈ XW := (List.mem_filter.mpr ⟨List.mem_of_getElem? (i := 448) (by decide +kernel), by decide +kernel⟩)
theorem xw_449 : (.instanceMethod yX2_casesOf : Cond) ∈ XW := (List.mem_filter.mpr ⟨List.mem_of_getElem? (i := 449) (by decide +kernel), by decide +kernel⟩)
theorem xw_450 : (.selects RX2 yX2_casesOf yX2_casesOf : Cond) ∈ XW := (List.mem_filter.mpr ⟨List.mem_of_getElem? (i := 450) (by decide +kernel), by decide +kernel⟩)
theorem xw_459 : (mcd mX2_hasCase : Cond) ∈ XW := (List.mem_filter.mpr ⟨List.mem_of_getElem? (i := 459) (by decide +kernel), by decide +kernel⟩)
theorem xw_456 : (.methodLink RX4 123 yX2_hasCase : Cond) ∈ XW := (List.mem_filter.mpr ⟨List.mem_of_getElem? (i := 456) (by decide +kernel), by decide +kernel⟩)
theorem xw_457 : (.instanceMethod yX2_hasCase : Cond) ∈ XW := (List.mem_filter.mpr ⟨List.mem_of_getElem? (i := 457) (by decide +kernel), by decide +kernel⟩)
theorem xw_458 : (.selects RX2 yX2_hasCase yX2_hasCase : Cond) ∈ XW := (List.mem_filter.mpr ⟨List.mem_of_getElem? (i := 458) (by decide +kernel), by decide +kernel⟩)
theorem xw_466 : (mcd mX4_isSeed : Cond) ∈ XW := (List.mem_filter.mpr ⟨List.mem_of_getElem? (i := 466) (by decide +kernel), by decide +kernel⟩)
theorem xw_464 : (.methodLink RX4 135 yX4_isSeed : Cond) ∈ XW := (List.mem_filter.mpr ⟨List.mem_of_getElem? (i := 464) (by decide +kernel), by decide +kernel⟩)
theorem xw_465 : (.static yX4_isSeed : Cond) ∈ XW := (List.mem_filter.mpr ⟨List.mem_of_getElem? (i := 465) (by decide +kernel), by decide +kernel⟩)
theorem xw_360 : (mcd mX2_startAnew : Cond) ∈ XW := (List.mem_filter.mpr ⟨List.mem_of_getElem? (i := 360) (by decide +kernel), by decide +kernel⟩)
theorem xw_467 : (.methodLink RX4 141 yX2_startAnew : Cond) ∈ XW := (List.mem_filter.mpr ⟨List.mem_of_getElem? (i := 467) (by decide +kernel), by decide +kernel⟩)
theorem xw_358 : (.instanceMethod yX2_startAnew : Cond) ∈ XW := (List.mem_filter.mpr ⟨List.mem_of_getElem? (i := 358) (by decide +kernel), by decide +kernel⟩)
theorem xw_359 : (.selects RX2 yX2_startAnew yX2_startAnew : Cond) ∈ XW := (List.mem_filter.mpr ⟨List.mem_of_getElem? (i := 359) (by decide +kernel), by decide +kernel⟩)
theorem xw_383 : (mcd mX4_isSubject : Cond) ∈ XW := (List.mem_filter.mpr ⟨List.mem_of_getElem? (i := 383) (by decide +kernel), by decide +kernel⟩)
theorem xw_472 : (.methodLink RX4 144 yX4_isSubject : Cond) ∈ XW := (List.mem_filter.mpr ⟨List.mem_of_getElem? (i := 472) (by decide +kernel), by decide +kernel⟩)
theorem xw_382 : (.static yX4_isSubject : Cond) ∈ XW := (List.mem_filter.mpr ⟨List.mem_of_getElem? (i := 382) (by decide +kernel), by decide +kernel⟩)
theorem xw_475 : (mcd mX4_isParty : Cond) ∈ XW := (List.mem_filter.mpr ⟨List.mem_of_getElem? (i := 475) (by decide +kernel), by decide +kernel⟩)
theorem xw_473 : (.methodLink RX4 147 yX4_isParty : Cond) ∈ XW := (List.mem_filter.mpr ⟨List.mem_of_getElem? (i := 473) (by decide +kernel), by decide +kernel⟩)
theorem xw_474 : (.static yX4_isParty : Cond) ∈ XW := (List.mem_filter.mpr ⟨List.mem_of_getElem? (i := 474) (by decide +kernel), by decide +kernel⟩)
theorem xw_479 : (mcd mX2_hasSomeoneFor : Cond) ∈ XW := (List.mem_filter.mpr ⟨List.mem_of_getElem? (i := 479) (by decide +kernel), by decide +kernel⟩)
theorem xw_476 : (.methodLink RX4 150 yX2_hasSomeoneFor : Cond) ∈ XW := (List.mem_filter.mpr ⟨List.mem_of_getElem? (i := 476) (by decide +kernel), by decide +kernel⟩)
theorem xw_477 : (.instanceMethod yX2_hasSomeoneFor : Cond) ∈ XW := (List.mem_filter.mpr ⟨List.mem_of_getElem? (i := 477) (by decide +kernel), by decide +kernel⟩)
theorem xw_478 : (.selects RX2 yX2_hasSomeoneFor yX2_hasSomeoneFor : Cond) ∈ XW := (List.mem_filter.mpr ⟨List.mem_of_getElem? (i := 478) (by decide +kernel), by decide +kernel⟩)
theorem xw_492 : (mcd mX0_remember : Cond) ∈ XW := (List.mem_filter.mpr ⟨List.mem_of_getElem? (i := 492) (by decide +kernel), by decide +kernel⟩)
theorem xw_489 : (.methodLink RX4 154 yX0_remember : Cond) ∈ XW := (List.mem_filter.mpr ⟨List.mem_of_getElem? (i := 489) (by decide +kernel), by decide +kernel⟩)
theorem xw_490 : (.instanceMethod yX0_remember : Cond) ∈ XW := (List.mem_filter.mpr ⟨List.mem_of_getElem? (i := 490) (by decide +kernel), by decide +kernel⟩)
theorem xw_491 : (.selects RX0 yX0_remember yX0_remember : Cond) ∈ XW := (List.mem_filter.mpr ⟨List.mem_of_getElem? (i := 491) (by decide +kernel), by decide +kernel⟩)
theorem xw_497 : (mcd mX2_addCase : Cond) ∈ XW := (List.mem_filter.mpr ⟨List.mem_of_getElem? (i := 497) (by decide +kernel), by decide +kernel⟩)
theorem xw_494 : (.methodLink RX4 157 yX2_addCase : Cond) ∈ XW := (List.mem_filter.mpr ⟨List.mem_of_getElem? (i := 494) (by decide +kernel), by decide +kernel⟩)
theorem xw_495 : (.instanceMethod yX2_addCase : Cond) ∈ XW := (List.mem_filter.mpr ⟨List.mem_of_getElem? (i := 495) (by decide +kernel), by decide +kernel⟩)
theorem xw_496 : (.selects RX2 yX2_addCase yX2_addCase : Cond) ∈ XW := (List.mem_filter.mpr ⟨List.mem_of_getElem? (i := 496) (by decide +kernel), by decide +kernel⟩)
theorem xw_538 : (mcd mX2_drawCaseAgain : Cond) ∈ XW := (List.mem_filter.mpr ⟨List.mem_of_getElem? (i := 538) (by decide +kernel), by decide +kernel⟩)
theorem xw_535 : (.methodLink RX4 161 yX2_drawCaseAgain : Cond) ∈ XW := (List.mem_filter.mpr ⟨List.mem_of_getElem? (i := 535) (by decide +kernel), by decide +kernel⟩)
theorem xw_536 : (.instanceMethod yX2_drawCaseAgain : Cond) ∈ XW := (List.mem_filter.mpr ⟨List.mem_of_getElem? (i := 536) (by decide +kernel), by decide +kernel⟩)
theorem xw_537 : (.selects RX2 yX2_drawCaseAgain yX2_drawCaseAgain : Cond) ∈ XW := (List.mem_filter.mpr ⟨List.mem_of_getElem? (i := 537) (by decide +kernel), by decide +kernel⟩)
theorem xw_550 : (mcd mX0_takeBack : Cond) ∈ XW := (List.mem_filter.mpr ⟨List.mem_of_getElem? (i := 550) (by decide +kernel), by decide +kernel⟩)
theorem xw_547 : (.methodLink RX4 170 yX0_takeBack : Cond) ∈ XW := (List.mem_filter.mpr ⟨List.mem_of_getElem? (i := 547) (by decide +kernel), by decide +kernel⟩)
theorem xw_548 : (.instanceMethod yX0_takeBack : Cond) ∈ XW := (List.mem_filter.mpr ⟨List.mem_of_getElem? (i := 548) (by decide +kernel), by decide +kernel⟩)
theorem xw_549 : (.selects RX0 yX0_takeBack yX0_takeBack : Cond) ∈ XW := (List.mem_filter.mpr ⟨List.mem_of_getElem? (i := 549) (by decide +kernel), by decide +kernel⟩)
theorem xw_566 : (mcd mX4_writeDocket : Cond) ∈ XW := (List.mem_filter.mpr ⟨List.mem_of_getElem? (i := 566) (by decide +kernel), by decide +kernel⟩)
theorem xw_563 : (.methodLink RX4 173 yX4_writeDocket : Cond) ∈ XW := (List.mem_filter.mpr ⟨List.mem_of_getElem? (i := 563) (by decide +kernel), by decide +kernel⟩)
theorem xw_565 : (.instanceMethod yX4_writeDocket : Cond) ∈ XW := (List.mem_filter.mpr ⟨List.mem_of_getElem? (i := 565) (by decide +kernel), by decide +kernel⟩)
theorem xw_17 : (.selects RX4 yX4_writeDocket yX4_writeDocket : Cond) ∈ XW := (List.mem_filter.mpr ⟨List.mem_of_getElem? (i := 17) (by decide +kernel), by decide +kernel⟩)
theorem xw_519 : (mcd mX4_turned : Cond) ∈ XW := (List.mem_filter.mpr ⟨List.mem_of_getElem? (i := 519) (by decide +kernel), by decide +kernel⟩)
theorem xw_577 : (.methodLink RX4 180 yX4_turned : Cond) ∈ XW := (List.mem_filter.mpr ⟨List.mem_of_getElem? (i := 577) (by decide +kernel), by decide +kernel⟩)
theorem xw_518 : (.static yX4_turned : Cond) ∈ XW := (List.mem_filter.mpr ⟨List.mem_of_getElem? (i := 518) (by decide +kernel), by decide +kernel⟩)
theorem xw_509 : (mcd mX2_weightOf : Cond) ∈ XW := (List.mem_filter.mpr ⟨List.mem_of_getElem? (i := 509) (by decide +kernel), by decide +kernel⟩)
theorem xw_582 : (.methodLink RX4 183 yX2_weightOf : Cond) ∈ XW := (List.mem_filter.mpr ⟨List.mem_of_getElem? (i := 582) (by decide +kernel), by decide +kernel⟩)
theorem xw_507 : (.instanceMethod yX2_weightOf : Cond) ∈ XW := (List.mem_filter.mpr ⟨List.mem_of_getElem? (i := 507) (by decide +kernel), by decide +kernel⟩)
theorem xw_508 : (.selects RX2 yX2_weightOf yX2_weightOf : Cond) ∈ XW := (List.mem_filter.mpr ⟨List.mem_of_getElem? (i := 508) (by decide +kernel), by decide +kernel⟩)
theorem xw_483 : (mcd mX2_isFreeFor : Cond) ∈ XW := (List.mem_filter.mpr ⟨List.mem_of_getElem? (i := 483) (by decide +kernel), by decide +kernel⟩)
theorem xw_587 : (.methodLink RX4 186 yX2_isFreeFor : Cond) ∈ XW := (List.mem_filter.mpr ⟨List.mem_of_getElem? (i := 587) (by decide +kernel), by decide +kernel⟩)
theorem xw_481 : (.instanceMethod yX2_isFreeFor : Cond) ∈ XW := (List.mem_filter.mpr ⟨List.mem_of_getElem? (i := 481) (by decide +kernel), by decide +kernel⟩)
theorem xw_482 : (.selects RX2 yX2_isFreeFor yX2_isFreeFor : Cond) ∈ XW := (List.mem_filter.mpr ⟨List.mem_of_getElem? (i := 482) (by decide +kernel), by decide +kernel⟩)
theorem xw_591 : (mcd mX2_weightsFreeFor : Cond) ∈ XW := (List.mem_filter.mpr ⟨List.mem_of_getElem? (i := 591) (by decide +kernel), by decide +kernel⟩)
theorem xw_588 : (.methodLink RX4 189 yX2_weightsFreeFor : Cond) ∈ XW := (List.mem_filter.mpr ⟨List.mem_of_getElem? (i := 588) (by decide +kernel), by decide +kernel⟩)
theorem xw_589 : (.instanceMethod yX2_weightsFreeFor : Cond) ∈ XW := (List.mem_filter.mpr ⟨List.mem_of_getElem? (i := 589) (by decide +kernel), by decide +kernel⟩)
theorem xw_590 : (.selects RX2 yX2_weightsFreeFor yX2_weightsFreeFor : Cond) ∈ XW := (List.mem_filter.mpr ⟨List.mem_of_getElem? (i := 590) (by decide +kernel), by decide +kernel⟩)
theorem xw_594 : (mcd mX4_commonDivisor : Cond) ∈ XW := (List.mem_filter.mpr ⟨List.mem_of_getElem? (i := 594) (by decide +kernel), by decide +kernel⟩)
theorem xw_592 : (.methodLink RX4 192 yX4_commonDivisor : Cond) ∈ XW := (List.mem_filter.mpr ⟨List.mem_of_getElem? (i := 592) (by decide +kernel), by decide +kernel⟩)
theorem xw_593 : (.static yX4_commonDivisor : Cond) ∈ XW := (List.mem_filter.mpr ⟨List.mem_of_getElem? (i := 593) (by decide +kernel), by decide +kernel⟩)
theorem xw_501 : (mcd mX2_drawJudge : Cond) ∈ XW := (List.mem_filter.mpr ⟨List.mem_of_getElem? (i := 501) (by decide +kernel), by decide +kernel⟩)
theorem xw_601 : (.methodLink RX4 195 yX2_drawJudge : Cond) ∈ XW := (List.mem_filter.mpr ⟨List.mem_of_getElem? (i := 601) (by decide +kernel), by decide +kernel⟩)
theorem xw_499 : (.instanceMethod yX2_drawJudge : Cond) ∈ XW := (List.mem_filter.mpr ⟨List.mem_of_getElem? (i := 499) (by decide +kernel), by decide +kernel⟩)
theorem xw_500 : (.selects RX2 yX2_drawJudge yX2_drawJudge : Cond) ∈ XW := (List.mem_filter.mpr ⟨List.mem_of_getElem? (i := 500) (by decide +kernel), by decide +kernel⟩)
theorem xw_609 : (mcd mX2_everyCaseHasSomeone : Cond) ∈ XW := (List.mem_filter.mpr ⟨List.mem_of_getElem? (i := 609) (by decide +kernel), by decide +kernel⟩)
theorem xw_606 : (.methodLink RX4 198 yX2_everyCaseHasSomeone : Cond) ∈ XW := (List.mem_filter.mpr ⟨List.mem_of_getElem? (i := 606) (by decide +kernel), by decide +kernel⟩)
theorem xw_607 : (.instanceMethod yX2_everyCaseHasSomeone : Cond) ∈ XW := (List.mem_filter.mpr ⟨List.mem_of_getElem? (i := 607) (by decide +kernel), by decide +kernel⟩)
theorem xw_608 : (.selects RX2 yX2_everyCaseHasSomeone yX2_everyCaseHasSomeone : Cond) ∈ XW := (List.mem_filter.mpr ⟨List.mem_of_getElem? (i := 608) (by decide +kernel), by decide +kernel⟩)
theorem xw_614 : (mcd mX4_recountBy : Cond) ∈ XW := (List.mem_filter.mpr ⟨List.mem_of_getElem? (i := 614) (by decide +kernel), by decide +kernel⟩)
theorem xw_611 : (.methodLink RX4 202 yX4_recountBy : Cond) ∈ XW := (List.mem_filter.mpr ⟨List.mem_of_getElem? (i := 611) (by decide +kernel), by decide +kernel⟩)
theorem xw_613 : (.instanceMethod yX4_recountBy : Cond) ∈ XW := (List.mem_filter.mpr ⟨List.mem_of_getElem? (i := 613) (by decide +kernel), by decide +kernel⟩)
theorem xw_18 : (.selects RX4 yX4_recountBy yX4_recountBy : Cond) ∈ XW := (List.mem_filter.mpr ⟨List.mem_of_getElem? (i := 18) (by decide +kernel), by decide +kernel⟩)
theorem xw_625 : (mcd mX4_isSlip : Cond) ∈ XW := (List.mem_filter.mpr ⟨List.mem_of_getElem? (i := 625) (by decide +kernel), by decide +kernel⟩)
theorem xw_623 : (.methodLink RX4 208 yX4_isSlip : Cond) ∈ XW := (List.mem_filter.mpr ⟨List.mem_of_getElem? (i := 623) (by decide +kernel), by decide +kernel⟩)
theorem xw_624 : (.static yX4_isSlip : Cond) ∈ XW := (List.mem_filter.mpr ⟨List.mem_of_getElem? (i := 624) (by decide +kernel), by decide +kernel⟩)
theorem xw_632 : (mcd mX4_isSlipLetter : Cond) ∈ XW := (List.mem_filter.mpr ⟨List.mem_of_getElem? (i := 632) (by decide +kernel), by decide +kernel⟩)
theorem xw_630 : (.methodLink RX4 211 yX4_isSlipLetter : Cond) ∈ XW := (List.mem_filter.mpr ⟨List.mem_of_getElem? (i := 630) (by decide +kernel), by decide +kernel⟩)
theorem xw_631 : (.static yX4_isSlipLetter : Cond) ∈ XW := (List.mem_filter.mpr ⟨List.mem_of_getElem? (i := 631) (by decide +kernel), by decide +kernel⟩)
theorem xw_642 : (mcd mX1_removeSpan : Cond) ∈ XW := (List.mem_filter.mpr ⟨List.mem_of_getElem? (i := 642) (by decide +kernel), by decide +kernel⟩)
theorem xw_639 : (.methodLink RX4 214 yX1_removeSpan : Cond) ∈ XW := (List.mem_filter.mpr ⟨List.mem_of_getElem? (i := 639) (by decide +kernel), by decide +kernel⟩)
theorem xw_640 : (.instanceMethod yX1_removeSpan : Cond) ∈ XW := (List.mem_filter.mpr ⟨List.mem_of_getElem? (i := 640) (by decide +kernel), by decide +kernel⟩)
theorem xw_641 : (.selects RX1 yX1_removeSpan yX1_removeSpan : Cond) ∈ XW := (List.mem_filter.mpr ⟨List.mem_of_getElem? (i := 641) (by decide +kernel), by decide +kernel⟩)
theorem xw_650 : (mcd mX1_appendAll : Cond) ∈ XW := (List.mem_filter.mpr ⟨List.mem_of_getElem? (i := 650) (by decide +kernel), by decide +kernel⟩)
theorem xw_647 : (.methodLink RX4 217 yX1_appendAll : Cond) ∈ XW := (List.mem_filter.mpr ⟨List.mem_of_getElem? (i := 647) (by decide +kernel), by decide +kernel⟩)
theorem xw_648 : (.instanceMethod yX1_appendAll : Cond) ∈ XW := (List.mem_filter.mpr ⟨List.mem_of_getElem? (i := 648) (by decide +kernel), by decide +kernel⟩)
theorem xw_649 : (.selects RX1 yX1_appendAll yX1_appendAll : Cond) ∈ XW := (List.mem_filter.mpr ⟨List.mem_of_getElem? (i := 649) (by decide +kernel), by decide +kernel⟩)
theorem xw_662 : (mcd mX1_placeOf : Cond) ∈ XW := (List.mem_filter.mpr ⟨List.mem_of_getElem? (i := 662) (by decide +kernel), by decide +kernel⟩)
theorem xw_659 : (.methodLink RX4 220 yX1_placeOf : Cond) ∈ XW := (List.mem_filter.mpr ⟨List.mem_of_getElem? (i := 659) (by decide +kernel), by decide +kernel⟩)
theorem xw_660 : (.instanceMethod yX1_placeOf : Cond) ∈ XW := (List.mem_filter.mpr ⟨List.mem_of_getElem? (i := 660) (by decide +kernel), by decide +kernel⟩)
theorem xw_661 : (.selects RX1 yX1_placeOf yX1_placeOf : Cond) ∈ XW := (List.mem_filter.mpr ⟨List.mem_of_getElem? (i := 661) (by decide +kernel), by decide +kernel⟩)
theorem xw_376 : (mcd mX1_numberAt : Cond) ∈ XW := (List.mem_filter.mpr ⟨List.mem_of_getElem? (i := 376) (by decide +kernel), by decide +kernel⟩)
theorem xw_671 : (.methodLink RX4 224 yX1_numberAt : Cond) ∈ XW := (List.mem_filter.mpr ⟨List.mem_of_getElem? (i := 671) (by decide +kernel), by decide +kernel⟩)
theorem xw_374 : (.instanceMethod yX1_numberAt : Cond) ∈ XW := (List.mem_filter.mpr ⟨List.mem_of_getElem? (i := 374) (by decide +kernel), by decide +kernel⟩)
theorem xw_375 : (.selects RX1 yX1_numberAt yX1_numberAt : Cond) ∈ XW := (List.mem_filter.mpr ⟨List.mem_of_getElem? (i := 375) (by decide +kernel), by decide +kernel⟩)
theorem xw_406 : (mcd mX1_ruleAt : Cond) ∈ XW := (List.mem_filter.mpr ⟨List.mem_of_getElem? (i := 406) (by decide +kernel), by decide +kernel⟩)
theorem xw_676 : (.methodLink RX4 228 yX1_ruleAt : Cond) ∈ XW := (List.mem_filter.mpr ⟨List.mem_of_getElem? (i := 676) (by decide +kernel), by decide +kernel⟩)
theorem xw_404 : (.instanceMethod yX1_ruleAt : Cond) ∈ XW := (List.mem_filter.mpr ⟨List.mem_of_getElem? (i := 404) (by decide +kernel), by decide +kernel⟩)
theorem xw_405 : (.selects RX1 yX1_ruleAt yX1_ruleAt : Cond) ∈ XW := (List.mem_filter.mpr ⟨List.mem_of_getElem? (i := 405) (by decide +kernel), by decide +kernel⟩)
theorem xw_688 : (mcd mX4_lettersOfWriting : Cond) ∈ XW := (List.mem_filter.mpr ⟨List.mem_of_getElem? (i := 688) (by decide +kernel), by decide +kernel⟩)
theorem xw_685 : (.methodLink RX4 237 yX4_lettersOfWriting : Cond) ∈ XW := (List.mem_filter.mpr ⟨List.mem_of_getElem? (i := 685) (by decide +kernel), by decide +kernel⟩)
theorem xw_687 : (.instanceMethod yX4_lettersOfWriting : Cond) ∈ XW := (List.mem_filter.mpr ⟨List.mem_of_getElem? (i := 687) (by decide +kernel), by decide +kernel⟩)
theorem xw_20 : (.selects RX4 yX4_lettersOfWriting yX4_lettersOfWriting : Cond) ∈ XW := (List.mem_filter.mpr ⟨List.mem_of_getElem? (i := 20) (by decide +kernel), by decide +kernel⟩)
theorem xw_692 : (mcd mX4_lettersOfSlips : Cond) ∈ XW := (List.mem_filter.mpr ⟨List.mem_of_getElem? (i := 692) (by decide +kernel), by decide +kernel⟩)
theorem xw_689 : (.methodLink RX4 240 yX4_lettersOfSlips : Cond) ∈ XW := (List.mem_filter.mpr ⟨List.mem_of_getElem? (i := 689) (by decide +kernel), by decide +kernel⟩)
theorem xw_691 : (.instanceMethod yX4_lettersOfSlips : Cond) ∈ XW := (List.mem_filter.mpr ⟨List.mem_of_getElem? (i := 691) (by decide +kernel), by decide +kernel⟩)
theorem xw_21 : (.selects RX4 yX4_lettersOfSlips yX4_lettersOfSlips : Cond) ∈ XW := (List.mem_filter.mpr ⟨List.mem_of_getElem? (i := 21) (by decide +kernel), by decide +kernel⟩)
theorem xw_288 : (mcd mX4_isSmallLetter : Cond) ∈ XW := (List.mem_filter.mpr ⟨List.mem_of_getElem? (i := 288) (by decide +kernel), by decide +kernel⟩)
theorem xw_633 : (.methodLink RX4 246 yX4_isSmallLetter : Cond) ∈ XW := (List.mem_filter.mpr ⟨List.mem_of_getElem? (i := 633) (by decide +kernel), by decide +kernel⟩)
theorem xw_287 : (.static yX4_isSmallLetter : Cond) ∈ XW := (List.mem_filter.mpr ⟨List.mem_of_getElem? (i := 287) (by decide +kernel), by decide +kernel⟩)
theorem xw_291 : (mcd mX4_isDigit : Cond) ∈ XW := (List.mem_filter.mpr ⟨List.mem_of_getElem? (i := 291) (by decide +kernel), by decide +kernel⟩)
theorem xw_634 : (.methodLink RX4 249 yX4_isDigit : Cond) ∈ XW := (List.mem_filter.mpr ⟨List.mem_of_getElem? (i := 634) (by decide +kernel), by decide +kernel⟩)
theorem xw_290 : (.static yX4_isDigit : Cond) ∈ XW := (List.mem_filter.mpr ⟨List.mem_of_getElem? (i := 290) (by decide +kernel), by decide +kernel⟩)
theorem xw_81 : (mcd mJ9_max_7cf53 : Cond) ∈ XW := (List.mem_filter.mpr ⟨List.mem_of_getElem? (i := 81) (by decide +kernel), by decide +kernel⟩)
theorem xw_54 : (.initialized RJ9 : Cond) ∈ XW := (List.mem_filter.mpr ⟨List.mem_of_getElem? (i := 54) (by decide +kernel), by decide +kernel⟩)
theorem xw_595 : (.methodLink RX4 259 yJ9_max_7cf53 : Cond) ∈ XW := (List.mem_filter.mpr ⟨List.mem_of_getElem? (i := 595) (by decide +kernel), by decide +kernel⟩)
theorem xw_80 : (.static yJ9_max_7cf53 : Cond) ∈ XW := (List.mem_filter.mpr ⟨List.mem_of_getElem? (i := 80) (by decide +kernel), by decide +kernel⟩)
theorem xw_281 : (mcd mX3_readInto : Cond) ∈ XW := (List.mem_filter.mpr ⟨List.mem_of_getElem? (i := 281) (by decide +kernel), by decide +kernel⟩)
theorem xw_55 : (.initialized RX3 : Cond) ∈ XW := (List.mem_filter.mpr ⟨List.mem_of_getElem? (i := 55) (by decide +kernel), by decide +kernel⟩)
theorem xw_278 : (.methodLink RX4 265 yX3_readInto : Cond) ∈ XW := (List.mem_filter.mpr ⟨List.mem_of_getElem? (i := 278) (by decide +kernel), by decide +kernel⟩)
theorem xw_279 : (.instanceMethod yX3_readInto : Cond) ∈ XW := (List.mem_filter.mpr ⟨List.mem_of_getElem? (i := 279) (by decide +kernel), by decide +kernel⟩)
theorem xw_280 : (.selects RX3 yX3_readInto yX3_readInto : Cond) ∈ XW := (List.mem_filter.mpr ⟨List.mem_of_getElem? (i := 280) (by decide +kernel), by decide +kernel⟩)
theorem xw_570 : (mcd mX1_append : Cond) ∈ XW := (List.mem_filter.mpr ⟨List.mem_of_getElem? (i := 570) (by decide +kernel), by decide +kernel⟩)
theorem xw_567 : (.methodLink RX4 269 yX1_append : Cond) ∈ XW := (List.mem_filter.mpr ⟨List.mem_of_getElem? (i := 567) (by decide +kernel), by decide +kernel⟩)
theorem xw_568 : (.instanceMethod yX1_append : Cond) ∈ XW := (List.mem_filter.mpr ⟨List.mem_of_getElem? (i := 568) (by decide +kernel), by decide +kernel⟩)
theorem xw_569 : (.selects RX1 yX1_append yX1_append : Cond) ∈ XW := (List.mem_filter.mpr ⟨List.mem_of_getElem? (i := 569) (by decide +kernel), by decide +kernel⟩)
theorem xw_493 : (.methodLink RX0 25 yX2_copyFrom : Cond) ∈ XW := (List.mem_filter.mpr ⟨List.mem_of_getElem? (i := 493) (by decide +kernel), by decide +kernel⟩)
theorem xw_79 : (.methodLink RX1 9 yJ9_max_7cf53 : Cond) ∈ XW := (List.mem_filter.mpr ⟨List.mem_of_getElem? (i := 79) (by decide +kernel), by decide +kernel⟩)
theorem xw_571 : (.methodLink RX1 25 yX1_putAt : Cond) ∈ XW := (List.mem_filter.mpr ⟨List.mem_of_getElem? (i := 571) (by decide +kernel), by decide +kernel⟩)
theorem xw_257 : (.methodLink RX1 29 yX1_hasRoomFor : Cond) ∈ XW := (List.mem_filter.mpr ⟨List.mem_of_getElem? (i := 257) (by decide +kernel), by decide +kernel⟩)
theorem xw_666 : (mcd mX1_standsAt : Cond) ∈ XW := (List.mem_filter.mpr ⟨List.mem_of_getElem? (i := 666) (by decide +kernel), by decide +kernel⟩)
theorem xw_663 : (.methodLink RX1 39 yX1_standsAt : Cond) ∈ XW := (List.mem_filter.mpr ⟨List.mem_of_getElem? (i := 663) (by decide +kernel), by decide +kernel⟩)
theorem xw_665 : (.instanceMethod yX1_standsAt : Cond) ∈ XW := (List.mem_filter.mpr ⟨List.mem_of_getElem? (i := 665) (by decide +kernel), by decide +kernel⟩)
theorem xw_19 : (.selects RX1 yX1_standsAt yX1_standsAt : Cond) ∈ XW := (List.mem_filter.mpr ⟨List.mem_of_getElem? (i := 19) (by decide +kernel), by decide +kernel⟩)
theorem xw_308 : (mcd mJ0_length_8abf5 : Cond) ∈ XW := (List.mem_filter.mpr ⟨List.mem_of_getElem? (i := 308) (by decide +kernel), by decide +kernel⟩)
theorem xw_60 : (.initialized RJ0 : Cond) ∈ XW := (List.mem_filter.mpr ⟨List.mem_of_getElem? (i := 60) (by decide +kernel), by decide +kernel⟩)
theorem xw_305 : (.methodLink RX1 43 yJ0_length_8abf5 : Cond) ∈ XW := (List.mem_filter.mpr ⟨List.mem_of_getElem? (i := 305) (by decide +kernel), by decide +kernel⟩)
theorem xw_306 : (.instanceMethod yJ0_length_8abf5 : Cond) ∈ XW := (List.mem_filter.mpr ⟨List.mem_of_getElem? (i := 306) (by decide +kernel), by decide +kernel⟩)
theorem xw_307 : (.selects RJ0 yJ0_length_8abf5 yJ0_length_8abf5 : Cond) ∈ XW := (List.mem_filter.mpr ⟨List.mem_of_getElem? (i := 307) (by decide +kernel), by decide +kernel⟩)
theorem xw_318 : (mcd mJ0_charAt_5068e : Cond) ∈ XW := (List.mem_filter.mpr ⟨List.mem_of_getElem? (i := 318) (by decide +kernel), by decide +kernel⟩)
theorem xw_315 : (.methodLink RX1 48 yJ0_charAt_5068e : Cond) ∈ XW := (List.mem_filter.mpr ⟨List.mem_of_getElem? (i := 315) (by decide +kernel), by decide +kernel⟩)
theorem xw_316 : (.instanceMethod yJ0_charAt_5068e : Cond) ∈ XW := (List.mem_filter.mpr ⟨List.mem_of_getElem? (i := 316) (by decide +kernel), by decide +kernel⟩)
theorem xw_317 : (.selects RJ0 yJ0_charAt_5068e yJ0_charAt_5068e : Cond) ∈ XW := (List.mem_filter.mpr ⟨List.mem_of_getElem? (i := 317) (by decide +kernel), by decide +kernel⟩)
theorem xw_409 : (mcd mX4_ruleName : Cond) ∈ XW := (List.mem_filter.mpr ⟨List.mem_of_getElem? (i := 409) (by decide +kernel), by decide +kernel⟩)
theorem xw_408 : (.static yX4_ruleName : Cond) ∈ XW := (List.mem_filter.mpr ⟨List.mem_of_getElem? (i := 408) (by decide +kernel), by decide +kernel⟩)
theorem xw_304 : (mcd mX1_isWordAt : Cond) ∈ XW := (List.mem_filter.mpr ⟨List.mem_of_getElem? (i := 304) (by decide +kernel), by decide +kernel⟩)
theorem xw_414 : (.methodLink RX1 56 yX1_isWordAt : Cond) ∈ XW := (List.mem_filter.mpr ⟨List.mem_of_getElem? (i := 414) (by decide +kernel), by decide +kernel⟩)
theorem xw_302 : (.instanceMethod yX1_isWordAt : Cond) ∈ XW := (List.mem_filter.mpr ⟨List.mem_of_getElem? (i := 302) (by decide +kernel), by decide +kernel⟩)
theorem xw_303 : (.selects RX1 yX1_isWordAt yX1_isWordAt : Cond) ∈ XW := (List.mem_filter.mpr ⟨List.mem_of_getElem? (i := 303) (by decide +kernel), by decide +kernel⟩)
theorem xw_357 : (.methodLink RX2 64 yX2_startAnew : Cond) ∈ XW := (List.mem_filter.mpr ⟨List.mem_of_getElem? (i := 357) (by decide +kernel), by decide +kernel⟩)
theorem xw_363 : (mcd mJ7_fill_53178 : Cond) ∈ XW := (List.mem_filter.mpr ⟨List.mem_of_getElem? (i := 363) (by decide +kernel), by decide +kernel⟩)
theorem xw_64 : (.initialized RJ7 : Cond) ∈ XW := (List.mem_filter.mpr ⟨List.mem_of_getElem? (i := 64) (by decide +kernel), by decide +kernel⟩)
theorem xw_361 : (.methodLink RX2 68 yJ7_fill_53178 : Cond) ∈ XW := (List.mem_filter.mpr ⟨List.mem_of_getElem? (i := 361) (by decide +kernel), by decide +kernel⟩)
theorem xw_362 : (.static yJ7_fill_53178 : Cond) ∈ XW := (List.mem_filter.mpr ⟨List.mem_of_getElem? (i := 362) (by decide +kernel), by decide +kernel⟩)
theorem xw_484 : (.methodLink RX2 74 yX2_isAway : Cond) ∈ XW := (List.mem_filter.mpr ⟨List.mem_of_getElem? (i := 484) (by decide +kernel), by decide +kernel⟩)
theorem xw_488 : (mcd mX2_isBarred : Cond) ∈ XW := (List.mem_filter.mpr ⟨List.mem_of_getElem? (i := 488) (by decide +kernel), by decide +kernel⟩)
theorem xw_485 : (.methodLink RX2 78 yX2_isBarred : Cond) ∈ XW := (List.mem_filter.mpr ⟨List.mem_of_getElem? (i := 485) (by decide +kernel), by decide +kernel⟩)
theorem xw_486 : (.instanceMethod yX2_isBarred : Cond) ∈ XW := (List.mem_filter.mpr ⟨List.mem_of_getElem? (i := 486) (by decide +kernel), by decide +kernel⟩)
theorem xw_487 : (.selects RX2 yX2_isBarred yX2_isBarred : Cond) ∈ XW := (List.mem_filter.mpr ⟨List.mem_of_getElem? (i := 487) (by decide +kernel), by decide +kernel⟩)
theorem xw_480 : (.methodLink RX2 82 yX2_isFreeFor : Cond) ∈ XW := (List.mem_filter.mpr ⟨List.mem_of_getElem? (i := 480) (by decide +kernel), by decide +kernel⟩)
theorem xw_610 : (.methodLink RX2 85 yX2_hasSomeoneFor : Cond) ∈ XW := (List.mem_filter.mpr ⟨List.mem_of_getElem? (i := 610) (by decide +kernel), by decide +kernel⟩)
theorem xw_510 : (.methodLink RX2 88 yJ9_max_7cf53 : Cond) ∈ XW := (List.mem_filter.mpr ⟨List.mem_of_getElem? (i := 510) (by decide +kernel), by decide +kernel⟩)
theorem xw_506 : (.methodLink RX2 94 yX2_weightOf : Cond) ∈ XW := (List.mem_filter.mpr ⟨List.mem_of_getElem? (i := 506) (by decide +kernel), by decide +kernel⟩)
theorem xw_505 : (mcd mX2_weighAll : Cond) ∈ XW := (List.mem_filter.mpr ⟨List.mem_of_getElem? (i := 505) (by decide +kernel), by decide +kernel⟩)
theorem xw_502 : (.methodLink RX2 97 yX2_weighAll : Cond) ∈ XW := (List.mem_filter.mpr ⟨List.mem_of_getElem? (i := 502) (by decide +kernel), by decide +kernel⟩)
theorem xw_504 : (.instanceMethod yX2_weighAll : Cond) ∈ XW := (List.mem_filter.mpr ⟨List.mem_of_getElem? (i := 504) (by decide +kernel), by decide +kernel⟩)
theorem xw_13 : (.selects RX2 yX2_weighAll yX2_weighAll : Cond) ∈ XW := (List.mem_filter.mpr ⟨List.mem_of_getElem? (i := 13) (by decide +kernel), by decide +kernel⟩)
theorem xw_515 : (mcd mX2_drawBelow : Cond) ∈ XW := (List.mem_filter.mpr ⟨List.mem_of_getElem? (i := 515) (by decide +kernel), by decide +kernel⟩)
theorem xw_512 : (.methodLink RX2 102 yX2_drawBelow : Cond) ∈ XW := (List.mem_filter.mpr ⟨List.mem_of_getElem? (i := 512) (by decide +kernel), by decide +kernel⟩)
theorem xw_514 : (.instanceMethod yX2_drawBelow : Cond) ∈ XW := (List.mem_filter.mpr ⟨List.mem_of_getElem? (i := 514) (by decide +kernel), by decide +kernel⟩)
theorem xw_14 : (.selects RX2 yX2_drawBelow yX2_drawBelow : Cond) ∈ XW := (List.mem_filter.mpr ⟨List.mem_of_getElem? (i := 14) (by decide +kernel), by decide +kernel⟩)
theorem xw_523 : (mcd mX2_judgeReaching : Cond) ∈ XW := (List.mem_filter.mpr ⟨List.mem_of_getElem? (i := 523) (by decide +kernel), by decide +kernel⟩)
theorem xw_520 : (.methodLink RX2 105 yX2_judgeReaching : Cond) ∈ XW := (List.mem_filter.mpr ⟨List.mem_of_getElem? (i := 520) (by decide +kernel), by decide +kernel⟩)
theorem xw_522 : (.instanceMethod yX2_judgeReaching : Cond) ∈ XW := (List.mem_filter.mpr ⟨List.mem_of_getElem? (i := 522) (by decide +kernel), by decide +kernel⟩)
theorem xw_15 : (.selects RX2 yX2_judgeReaching yX2_judgeReaching : Cond) ∈ XW := (List.mem_filter.mpr ⟨List.mem_of_getElem? (i := 15) (by decide +kernel), by decide +kernel⟩)
theorem xw_530 : (mcd mJ9_min_7cf53 : Cond) ∈ XW := (List.mem_filter.mpr ⟨List.mem_of_getElem? (i := 530) (by decide +kernel), by decide +kernel⟩)
theorem xw_528 : (.methodLink RX2 113 yJ9_min_7cf53 : Cond) ∈ XW := (List.mem_filter.mpr ⟨List.mem_of_getElem? (i := 528) (by decide +kernel), by decide +kernel⟩)
theorem xw_529 : (.static yJ9_min_7cf53 : Cond) ∈ XW := (List.mem_filter.mpr ⟨List.mem_of_getElem? (i := 529) (by decide +kernel), by decide +kernel⟩)
theorem xw_498 : (.methodLink RX2 116 yX2_drawJudge : Cond) ∈ XW := (List.mem_filter.mpr ⟨List.mem_of_getElem? (i := 498) (by decide +kernel), by decide +kernel⟩)
theorem xw_527 : (mcd mX2_settleDebts : Cond) ∈ XW := (List.mem_filter.mpr ⟨List.mem_of_getElem? (i := 527) (by decide +kernel), by decide +kernel⟩)
theorem xw_524 : (.methodLink RX2 119 yX2_settleDebts : Cond) ∈ XW := (List.mem_filter.mpr ⟨List.mem_of_getElem? (i := 524) (by decide +kernel), by decide +kernel⟩)
theorem xw_526 : (.instanceMethod yX2_settleDebts : Cond) ∈ XW := (List.mem_filter.mpr ⟨List.mem_of_getElem? (i := 526) (by decide +kernel), by decide +kernel⟩)
theorem xw_16 : (.selects RX2 yX2_settleDebts yX2_settleDebts : Cond) ∈ XW := (List.mem_filter.mpr ⟨List.mem_of_getElem? (i := 16) (by decide +kernel), by decide +kernel⟩)
theorem xw_285 : (mcd mX3_step : Cond) ∈ XW := (List.mem_filter.mpr ⟨List.mem_of_getElem? (i := 285) (by decide +kernel), by decide +kernel⟩)
theorem xw_282 : (.methodLink RX3 22 yX3_step : Cond) ∈ XW := (List.mem_filter.mpr ⟨List.mem_of_getElem? (i := 282) (by decide +kernel), by decide +kernel⟩)
theorem xw_284 : (.instanceMethod yX3_step : Cond) ∈ XW := (List.mem_filter.mpr ⟨List.mem_of_getElem? (i := 284) (by decide +kernel), by decide +kernel⟩)
theorem xw_1 : (.selects RX3 yX3_step yX3_step : Cond) ∈ XW := (List.mem_filter.mpr ⟨List.mem_of_getElem? (i := 1) (by decide +kernel), by decide +kernel⟩)
theorem xw_295 : (mcd mX3_readClause : Cond) ∈ XW := (List.mem_filter.mpr ⟨List.mem_of_getElem? (i := 295) (by decide +kernel), by decide +kernel⟩)
theorem xw_292 : (.methodLink RX3 25 yX3_readClause : Cond) ∈ XW := (List.mem_filter.mpr ⟨List.mem_of_getElem? (i := 292) (by decide +kernel), by decide +kernel⟩)
theorem xw_294 : (.instanceMethod yX3_readClause : Cond) ∈ XW := (List.mem_filter.mpr ⟨List.mem_of_getElem? (i := 294) (by decide +kernel), by decide +kernel⟩)
theorem xw_2 : (.selects RX3 yX3_readClause yX3_readClause : Cond) ∈ XW := (List.mem_filter.mpr ⟨List.mem_of_getElem? (i := 2) (by decide +kernel), by decide +kernel⟩)
theorem xw_418 : (mcd mX3_isOther : Cond) ∈ XW := (List.mem_filter.mpr ⟨List.mem_of_getElem? (i := 418) (by decide +kernel), by decide +kernel⟩)
theorem xw_415 : (.methodLink RX3 35 yX3_isOther : Cond) ∈ XW := (List.mem_filter.mpr ⟨List.mem_of_getElem? (i := 415) (by decide +kernel), by decide +kernel⟩)
theorem xw_417 : (.instanceMethod yX3_isOther : Cond) ∈ XW := (List.mem_filter.mpr ⟨List.mem_of_getElem? (i := 417) (by decide +kernel), by decide +kernel⟩)
theorem xw_10 : (.selects RX3 yX3_isOther yX3_isOther : Cond) ∈ XW := (List.mem_filter.mpr ⟨List.mem_of_getElem? (i := 10) (by decide +kernel), by decide +kernel⟩)
theorem xw_301 : (.methodLink RX3 54 yX1_isWordAt : Cond) ∈ XW := (List.mem_filter.mpr ⟨List.mem_of_getElem? (i := 301) (by decide +kernel), by decide +kernel⟩)
theorem xw_373 : (.methodLink RX3 58 yX1_numberAt : Cond) ∈ XW := (List.mem_filter.mpr ⟨List.mem_of_getElem? (i := 373) (by decide +kernel), by decide +kernel⟩)
theorem xw_300 : (mcd mX3_isWord : Cond) ∈ XW := (List.mem_filter.mpr ⟨List.mem_of_getElem? (i := 300) (by decide +kernel), by decide +kernel⟩)
theorem xw_297 : (.methodLink RX3 64 yX3_isWord : Cond) ∈ XW := (List.mem_filter.mpr ⟨List.mem_of_getElem? (i := 297) (by decide +kernel), by decide +kernel⟩)
theorem xw_299 : (.instanceMethod yX3_isWord : Cond) ∈ XW := (List.mem_filter.mpr ⟨List.mem_of_getElem? (i := 299) (by decide +kernel), by decide +kernel⟩)
theorem xw_3 : (.selects RX3 yX3_isWord yX3_isWord : Cond) ∈ XW := (List.mem_filter.mpr ⟨List.mem_of_getElem? (i := 3) (by decide +kernel), by decide +kernel⟩)
theorem xw_356 : (mcd mX2_clearAll : Cond) ∈ XW := (List.mem_filter.mpr ⟨List.mem_of_getElem? (i := 356) (by decide +kernel), by decide +kernel⟩)
theorem xw_353 : (.methodLink RX3 68 yX2_clearAll : Cond) ∈ XW := (List.mem_filter.mpr ⟨List.mem_of_getElem? (i := 353) (by decide +kernel), by decide +kernel⟩)
theorem xw_354 : (.instanceMethod yX2_clearAll : Cond) ∈ XW := (List.mem_filter.mpr ⟨List.mem_of_getElem? (i := 354) (by decide +kernel), by decide +kernel⟩)
theorem xw_355 : (.selects RX2 yX2_clearAll yX2_clearAll : Cond) ∈ XW := (List.mem_filter.mpr ⟨List.mem_of_getElem? (i := 355) (by decide +kernel), by decide +kernel⟩)
theorem xw_368 : (mcd mX3_readJudge : Cond) ∈ XW := (List.mem_filter.mpr ⟨List.mem_of_getElem? (i := 368) (by decide +kernel), by decide +kernel⟩)
theorem xw_365 : (.methodLink RX3 75 yX3_readJudge : Cond) ∈ XW := (List.mem_filter.mpr ⟨List.mem_of_getElem? (i := 365) (by decide +kernel), by decide +kernel⟩)
theorem xw_367 : (.instanceMethod yX3_readJudge : Cond) ∈ XW := (List.mem_filter.mpr ⟨List.mem_of_getElem? (i := 367) (by decide +kernel), by decide +kernel⟩)
theorem xw_4 : (.selects RX3 yX3_readJudge yX3_readJudge : Cond) ∈ XW := (List.mem_filter.mpr ⟨List.mem_of_getElem? (i := 4) (by decide +kernel), by decide +kernel⟩)
theorem xw_392 : (mcd mX3_readBar : Cond) ∈ XW := (List.mem_filter.mpr ⟨List.mem_of_getElem? (i := 392) (by decide +kernel), by decide +kernel⟩)
theorem xw_389 : (.methodLink RX3 80 yX3_readBar : Cond) ∈ XW := (List.mem_filter.mpr ⟨List.mem_of_getElem? (i := 389) (by decide +kernel), by decide +kernel⟩)
theorem xw_391 : (.instanceMethod yX3_readBar : Cond) ∈ XW := (List.mem_filter.mpr ⟨List.mem_of_getElem? (i := 391) (by decide +kernel), by decide +kernel⟩)
theorem xw_7 : (.selects RX3 yX3_readBar yX3_readBar : Cond) ∈ XW := (List.mem_filter.mpr ⟨List.mem_of_getElem? (i := 7) (by decide +kernel), by decide +kernel⟩)
theorem xw_397 : (mcd mX3_readAway : Cond) ∈ XW := (List.mem_filter.mpr ⟨List.mem_of_getElem? (i := 397) (by decide +kernel), by decide +kernel⟩)
theorem xw_394 : (.methodLink RX3 85 yX3_readAway : Cond) ∈ XW := (List.mem_filter.mpr ⟨List.mem_of_getElem? (i := 394) (by decide +kernel), by decide +kernel⟩)
theorem xw_396 : (.instanceMethod yX3_readAway : Cond) ∈ XW := (List.mem_filter.mpr ⟨List.mem_of_getElem? (i := 396) (by decide +kernel), by decide +kernel⟩)
theorem xw_8 : (.selects RX3 yX3_readAway yX3_readAway : Cond) ∈ XW := (List.mem_filter.mpr ⟨List.mem_of_getElem? (i := 8) (by decide +kernel), by decide +kernel⟩)
theorem xw_402 : (mcd mX3_readRule : Cond) ∈ XW := (List.mem_filter.mpr ⟨List.mem_of_getElem? (i := 402) (by decide +kernel), by decide +kernel⟩)
theorem xw_399 : (.methodLink RX3 90 yX3_readRule : Cond) ∈ XW := (List.mem_filter.mpr ⟨List.mem_of_getElem? (i := 399) (by decide +kernel), by decide +kernel⟩)
theorem xw_401 : (.instanceMethod yX3_readRule : Cond) ∈ XW := (List.mem_filter.mpr ⟨List.mem_of_getElem? (i := 401) (by decide +kernel), by decide +kernel⟩)
theorem xw_9 : (.selects RX3 yX3_readRule yX3_readRule : Cond) ∈ XW := (List.mem_filter.mpr ⟨List.mem_of_getElem? (i := 9) (by decide +kernel), by decide +kernel⟩)
theorem xw_372 : (mcd mX3_numberWithin : Cond) ∈ XW := (List.mem_filter.mpr ⟨List.mem_of_getElem? (i := 372) (by decide +kernel), by decide +kernel⟩)
theorem xw_369 : (.methodLink RX3 96 yX3_numberWithin : Cond) ∈ XW := (List.mem_filter.mpr ⟨List.mem_of_getElem? (i := 369) (by decide +kernel), by decide +kernel⟩)
theorem xw_371 : (.instanceMethod yX3_numberWithin : Cond) ∈ XW := (List.mem_filter.mpr ⟨List.mem_of_getElem? (i := 371) (by decide +kernel), by decide +kernel⟩)
theorem xw_5 : (.selects RX3 yX3_numberWithin yX3_numberWithin : Cond) ∈ XW := (List.mem_filter.mpr ⟨List.mem_of_getElem? (i := 5) (by decide +kernel), by decide +kernel⟩)
theorem xw_380 : (mcd mX3_versedTold : Cond) ∈ XW := (List.mem_filter.mpr ⟨List.mem_of_getElem? (i := 380) (by decide +kernel), by decide +kernel⟩)
theorem xw_377 : (.methodLink RX3 100 yX3_versedTold : Cond) ∈ XW := (List.mem_filter.mpr ⟨List.mem_of_getElem? (i := 377) (by decide +kernel), by decide +kernel⟩)
theorem xw_379 : (.instanceMethod yX3_versedTold : Cond) ∈ XW := (List.mem_filter.mpr ⟨List.mem_of_getElem? (i := 379) (by decide +kernel), by decide +kernel⟩)
theorem xw_6 : (.selects RX3 yX3_versedTold yX3_versedTold : Cond) ∈ XW := (List.mem_filter.mpr ⟨List.mem_of_getElem? (i := 6) (by decide +kernel), by decide +kernel⟩)
theorem xw_387 : (mcd mX2_addJudge : Cond) ∈ XW := (List.mem_filter.mpr ⟨List.mem_of_getElem? (i := 387) (by decide +kernel), by decide +kernel⟩)
theorem xw_384 : (.methodLink RX3 104 yX2_addJudge : Cond) ∈ XW := (List.mem_filter.mpr ⟨List.mem_of_getElem? (i := 384) (by decide +kernel), by decide +kernel⟩)
theorem xw_385 : (.instanceMethod yX2_addJudge : Cond) ∈ XW := (List.mem_filter.mpr ⟨List.mem_of_getElem? (i := 385) (by decide +kernel), by decide +kernel⟩)
theorem xw_386 : (.selects RX2 yX2_addJudge yX2_addJudge : Cond) ∈ XW := (List.mem_filter.mpr ⟨List.mem_of_getElem? (i := 386) (by decide +kernel), by decide +kernel⟩)
theorem xw_403 : (.methodLink RX3 116 yX1_ruleAt : Cond) ∈ XW := (List.mem_filter.mpr ⟨List.mem_of_getElem? (i := 403) (by decide +kernel), by decide +kernel⟩)
theorem xw_248 : (mcd mX4_write : Cond) ∈ XW := (List.mem_filter.mpr ⟨List.mem_of_getElem? (i := 248) (by decide +kernel), by decide +kernel⟩)
theorem xw_245 : (.methodLink RL 13 yX4_write : Cond) ∈ XW := (List.mem_filter.mpr ⟨List.mem_of_getElem? (i := 245) (by decide +kernel), by decide +kernel⟩)
theorem xw_246 : (.instanceMethod yX4_write : Cond) ∈ XW := (List.mem_filter.mpr ⟨List.mem_of_getElem? (i := 246) (by decide +kernel), by decide +kernel⟩)
theorem xw_247 : (.selects RX4 yX4_write yX4_write : Cond) ∈ XW := (List.mem_filter.mpr ⟨List.mem_of_getElem? (i := 247) (by decide +kernel), by decide +kernel⟩)
theorem xw_771 : (mcd mX5_write : Cond) ∈ XW := (List.mem_filter.mpr ⟨List.mem_of_getElem? (i := 771) (by decide +kernel), by decide +kernel⟩)
theorem xw_58 : (.initialized RX5 : Cond) ∈ XW := (List.mem_filter.mpr ⟨List.mem_of_getElem? (i := 58) (by decide +kernel), by decide +kernel⟩)
theorem xw_768 : (.methodLink RL 17 yX5_write : Cond) ∈ XW := (List.mem_filter.mpr ⟨List.mem_of_getElem? (i := 768) (by decide +kernel), by decide +kernel⟩)
theorem xw_769 : (.instanceMethod yX5_write : Cond) ∈ XW := (List.mem_filter.mpr ⟨List.mem_of_getElem? (i := 769) (by decide +kernel), by decide +kernel⟩)
theorem xw_770 : (.selects RX5 yX5_write yX5_write : Cond) ∈ XW := (List.mem_filter.mpr ⟨List.mem_of_getElem? (i := 770) (by decide +kernel), by decide +kernel⟩)
theorem xw_264 : (mcd mX4_erase : Cond) ∈ XW := (List.mem_filter.mpr ⟨List.mem_of_getElem? (i := 264) (by decide +kernel), by decide +kernel⟩)
theorem xw_261 : (.methodLink RL 18 yX4_erase : Cond) ∈ XW := (List.mem_filter.mpr ⟨List.mem_of_getElem? (i := 261) (by decide +kernel), by decide +kernel⟩)
theorem xw_262 : (.instanceMethod yX4_erase : Cond) ∈ XW := (List.mem_filter.mpr ⟨List.mem_of_getElem? (i := 262) (by decide +kernel), by decide +kernel⟩)
theorem xw_263 : (.selects RX4 yX4_erase yX4_erase : Cond) ∈ XW := (List.mem_filter.mpr ⟨List.mem_of_getElem? (i := 263) (by decide +kernel), by decide +kernel⟩)
theorem xw_779 : (mcd mX5_erase : Cond) ∈ XW := (List.mem_filter.mpr ⟨List.mem_of_getElem? (i := 779) (by decide +kernel), by decide +kernel⟩)
theorem xw_776 : (.methodLink RL 22 yX5_erase : Cond) ∈ XW := (List.mem_filter.mpr ⟨List.mem_of_getElem? (i := 776) (by decide +kernel), by decide +kernel⟩)
theorem xw_777 : (.instanceMethod yX5_erase : Cond) ∈ XW := (List.mem_filter.mpr ⟨List.mem_of_getElem? (i := 777) (by decide +kernel), by decide +kernel⟩)
theorem xw_778 : (.selects RX5 yX5_erase yX5_erase : Cond) ∈ XW := (List.mem_filter.mpr ⟨List.mem_of_getElem? (i := 778) (by decide +kernel), by decide +kernel⟩)
theorem xw_268 : (mcd mX4_fault : Cond) ∈ XW := (List.mem_filter.mpr ⟨List.mem_of_getElem? (i := 268) (by decide +kernel), by decide +kernel⟩)
theorem xw_265 : (.methodLink RL 23 yX4_fault : Cond) ∈ XW := (List.mem_filter.mpr ⟨List.mem_of_getElem? (i := 265) (by decide +kernel), by decide +kernel⟩)
theorem xw_266 : (.instanceMethod yX4_fault : Cond) ∈ XW := (List.mem_filter.mpr ⟨List.mem_of_getElem? (i := 266) (by decide +kernel), by decide +kernel⟩)
theorem xw_267 : (.selects RX4 yX4_fault yX4_fault : Cond) ∈ XW := (List.mem_filter.mpr ⟨List.mem_of_getElem? (i := 267) (by decide +kernel), by decide +kernel⟩)
theorem xw_783 : (mcd mX5_fault : Cond) ∈ XW := (List.mem_filter.mpr ⟨List.mem_of_getElem? (i := 783) (by decide +kernel), by decide +kernel⟩)
theorem xw_780 : (.methodLink RL 26 yX5_fault : Cond) ∈ XW := (List.mem_filter.mpr ⟨List.mem_of_getElem? (i := 780) (by decide +kernel), by decide +kernel⟩)
theorem xw_781 : (.instanceMethod yX5_fault : Cond) ∈ XW := (List.mem_filter.mpr ⟨List.mem_of_getElem? (i := 781) (by decide +kernel), by decide +kernel⟩)
theorem xw_782 : (.selects RX5 yX5_fault yX5_fault : Cond) ∈ XW := (List.mem_filter.mpr ⟨List.mem_of_getElem? (i := 782) (by decide +kernel), by decide +kernel⟩)
theorem xw_423 : (mcd mX4_wheel : Cond) ∈ XW := (List.mem_filter.mpr ⟨List.mem_of_getElem? (i := 423) (by decide +kernel), by decide +kernel⟩)
theorem xw_420 : (.methodLink RL 27 yX4_wheel : Cond) ∈ XW := (List.mem_filter.mpr ⟨List.mem_of_getElem? (i := 420) (by decide +kernel), by decide +kernel⟩)
theorem xw_421 : (.instanceMethod yX4_wheel : Cond) ∈ XW := (List.mem_filter.mpr ⟨List.mem_of_getElem? (i := 421) (by decide +kernel), by decide +kernel⟩)
theorem xw_422 : (.selects RX4 yX4_wheel yX4_wheel : Cond) ∈ XW := (List.mem_filter.mpr ⟨List.mem_of_getElem? (i := 422) (by decide +kernel), by decide +kernel⟩)
theorem xw_841 : (mcd mX5_wheel : Cond) ∈ XW := (List.mem_filter.mpr ⟨List.mem_of_getElem? (i := 841) (by decide +kernel), by decide +kernel⟩)
theorem xw_838 : (.methodLink RL 30 yX5_wheel : Cond) ∈ XW := (List.mem_filter.mpr ⟨List.mem_of_getElem? (i := 838) (by decide +kernel), by decide +kernel⟩)
theorem xw_839 : (.instanceMethod yX5_wheel : Cond) ∈ XW := (List.mem_filter.mpr ⟨List.mem_of_getElem? (i := 839) (by decide +kernel), by decide +kernel⟩)
theorem xw_840 : (.selects RX5 yX5_wheel yX5_wheel : Cond) ∈ XW := (List.mem_filter.mpr ⟨List.mem_of_getElem? (i := 840) (by decide +kernel), by decide +kernel⟩)
theorem xw_439 : (mcd mX4_judge : Cond) ∈ XW := (List.mem_filter.mpr ⟨List.mem_of_getElem? (i := 439) (by decide +kernel), by decide +kernel⟩)
theorem xw_436 : (.methodLink RL 31 yX4_judge : Cond) ∈ XW := (List.mem_filter.mpr ⟨List.mem_of_getElem? (i := 436) (by decide +kernel), by decide +kernel⟩)
theorem xw_437 : (.instanceMethod yX4_judge : Cond) ∈ XW := (List.mem_filter.mpr ⟨List.mem_of_getElem? (i := 437) (by decide +kernel), by decide +kernel⟩)
theorem xw_438 : (.selects RX4 yX4_judge yX4_judge : Cond) ∈ XW := (List.mem_filter.mpr ⟨List.mem_of_getElem? (i := 438) (by decide +kernel), by decide +kernel⟩)
theorem xw_845 : (mcd mX5_judge : Cond) ∈ XW := (List.mem_filter.mpr ⟨List.mem_of_getElem? (i := 845) (by decide +kernel), by decide +kernel⟩)
theorem xw_842 : (.methodLink RL 35 yX5_judge : Cond) ∈ XW := (List.mem_filter.mpr ⟨List.mem_of_getElem? (i := 842) (by decide +kernel), by decide +kernel⟩)
theorem xw_843 : (.instanceMethod yX5_judge : Cond) ∈ XW := (List.mem_filter.mpr ⟨List.mem_of_getElem? (i := 843) (by decide +kernel), by decide +kernel⟩)
theorem xw_844 : (.selects RX5 yX5_judge yX5_judge : Cond) ∈ XW := (List.mem_filter.mpr ⟨List.mem_of_getElem? (i := 844) (by decide +kernel), by decide +kernel⟩)
theorem xw_455 : (mcd mX4_caseOf : Cond) ∈ XW := (List.mem_filter.mpr ⟨List.mem_of_getElem? (i := 455) (by decide +kernel), by decide +kernel⟩)
theorem xw_452 : (.methodLink RL 36 yX4_caseOf : Cond) ∈ XW := (List.mem_filter.mpr ⟨List.mem_of_getElem? (i := 452) (by decide +kernel), by decide +kernel⟩)
theorem xw_453 : (.instanceMethod yX4_caseOf : Cond) ∈ XW := (List.mem_filter.mpr ⟨List.mem_of_getElem? (i := 453) (by decide +kernel), by decide +kernel⟩)
theorem xw_454 : (.selects RX4 yX4_caseOf yX4_caseOf : Cond) ∈ XW := (List.mem_filter.mpr ⟨List.mem_of_getElem? (i := 454) (by decide +kernel), by decide +kernel⟩)
theorem xw_853 : (mcd mX5_caseOf : Cond) ∈ XW := (List.mem_filter.mpr ⟨List.mem_of_getElem? (i := 853) (by decide +kernel), by decide +kernel⟩)
theorem xw_850 : (.methodLink RL 39 yX5_caseOf : Cond) ∈ XW := (List.mem_filter.mpr ⟨List.mem_of_getElem? (i := 850) (by decide +kernel), by decide +kernel⟩)
theorem xw_851 : (.instanceMethod yX5_caseOf : Cond) ∈ XW := (List.mem_filter.mpr ⟨List.mem_of_getElem? (i := 851) (by decide +kernel), by decide +kernel⟩)
theorem xw_852 : (.selects RX5 yX5_caseOf yX5_caseOf : Cond) ∈ XW := (List.mem_filter.mpr ⟨List.mem_of_getElem? (i := 852) (by decide +kernel), by decide +kernel⟩)
theorem xw_463 : (mcd mX4_seal : Cond) ∈ XW := (List.mem_filter.mpr ⟨List.mem_of_getElem? (i := 463) (by decide +kernel), by decide +kernel⟩)
theorem xw_460 : (.methodLink RL 40 yX4_seal : Cond) ∈ XW := (List.mem_filter.mpr ⟨List.mem_of_getElem? (i := 460) (by decide +kernel), by decide +kernel⟩)
theorem xw_461 : (.instanceMethod yX4_seal : Cond) ∈ XW := (List.mem_filter.mpr ⟨List.mem_of_getElem? (i := 461) (by decide +kernel), by decide +kernel⟩)
theorem xw_462 : (.selects RX4 yX4_seal yX4_seal : Cond) ∈ XW := (List.mem_filter.mpr ⟨List.mem_of_getElem? (i := 462) (by decide +kernel), by decide +kernel⟩)
theorem xw_861 : (mcd mX5_seal : Cond) ∈ XW := (List.mem_filter.mpr ⟨List.mem_of_getElem? (i := 861) (by decide +kernel), by decide +kernel⟩)
theorem xw_858 : (.methodLink RL 43 yX5_seal : Cond) ∈ XW := (List.mem_filter.mpr ⟨List.mem_of_getElem? (i := 858) (by decide +kernel), by decide +kernel⟩)
theorem xw_859 : (.instanceMethod yX5_seal : Cond) ∈ XW := (List.mem_filter.mpr ⟨List.mem_of_getElem? (i := 859) (by decide +kernel), by decide +kernel⟩)
theorem xw_860 : (.selects RX5 yX5_seal yX5_seal : Cond) ∈ XW := (List.mem_filter.mpr ⟨List.mem_of_getElem? (i := 860) (by decide +kernel), by decide +kernel⟩)
theorem xw_471 : (mcd mX4_assign : Cond) ∈ XW := (List.mem_filter.mpr ⟨List.mem_of_getElem? (i := 471) (by decide +kernel), by decide +kernel⟩)
theorem xw_468 : (.methodLink RL 44 yX4_assign : Cond) ∈ XW := (List.mem_filter.mpr ⟨List.mem_of_getElem? (i := 468) (by decide +kernel), by decide +kernel⟩)
theorem xw_469 : (.instanceMethod yX4_assign : Cond) ∈ XW := (List.mem_filter.mpr ⟨List.mem_of_getElem? (i := 469) (by decide +kernel), by decide +kernel⟩)
theorem xw_470 : (.selects RX4 yX4_assign yX4_assign : Cond) ∈ XW := (List.mem_filter.mpr ⟨List.mem_of_getElem? (i := 470) (by decide +kernel), by decide +kernel⟩)
theorem xw_869 : (mcd mX5_assign : Cond) ∈ XW := (List.mem_filter.mpr ⟨List.mem_of_getElem? (i := 869) (by decide +kernel), by decide +kernel⟩)
theorem xw_866 : (.methodLink RL 47 yX5_assign : Cond) ∈ XW := (List.mem_filter.mpr ⟨List.mem_of_getElem? (i := 866) (by decide +kernel), by decide +kernel⟩)
theorem xw_867 : (.instanceMethod yX5_assign : Cond) ∈ XW := (List.mem_filter.mpr ⟨List.mem_of_getElem? (i := 867) (by decide +kernel), by decide +kernel⟩)
theorem xw_868 : (.selects RX5 yX5_assign yX5_assign : Cond) ∈ XW := (List.mem_filter.mpr ⟨List.mem_of_getElem? (i := 868) (by decide +kernel), by decide +kernel⟩)
theorem xw_534 : (mcd mX4_refuse : Cond) ∈ XW := (List.mem_filter.mpr ⟨List.mem_of_getElem? (i := 534) (by decide +kernel), by decide +kernel⟩)
theorem xw_531 : (.methodLink RL 48 yX4_refuse : Cond) ∈ XW := (List.mem_filter.mpr ⟨List.mem_of_getElem? (i := 531) (by decide +kernel), by decide +kernel⟩)
theorem xw_532 : (.instanceMethod yX4_refuse : Cond) ∈ XW := (List.mem_filter.mpr ⟨List.mem_of_getElem? (i := 532) (by decide +kernel), by decide +kernel⟩)
theorem xw_533 : (.selects RX4 yX4_refuse yX4_refuse : Cond) ∈ XW := (List.mem_filter.mpr ⟨List.mem_of_getElem? (i := 533) (by decide +kernel), by decide +kernel⟩)
theorem xw_917 : (mcd mX5_refuse : Cond) ∈ XW := (List.mem_filter.mpr ⟨List.mem_of_getElem? (i := 917) (by decide +kernel), by decide +kernel⟩)
theorem xw_914 : (.methodLink RL 51 yX5_refuse : Cond) ∈ XW := (List.mem_filter.mpr ⟨List.mem_of_getElem? (i := 914) (by decide +kernel), by decide +kernel⟩)
theorem xw_915 : (.instanceMethod yX5_refuse : Cond) ∈ XW := (List.mem_filter.mpr ⟨List.mem_of_getElem? (i := 915) (by decide +kernel), by decide +kernel⟩)
theorem xw_916 : (.selects RX5 yX5_refuse yX5_refuse : Cond) ∈ XW := (List.mem_filter.mpr ⟨List.mem_of_getElem? (i := 916) (by decide +kernel), by decide +kernel⟩)
theorem xw_542 : (mcd mX4_away : Cond) ∈ XW := (List.mem_filter.mpr ⟨List.mem_of_getElem? (i := 542) (by decide +kernel), by decide +kernel⟩)
theorem xw_539 : (.methodLink RL 52 yX4_away : Cond) ∈ XW := (List.mem_filter.mpr ⟨List.mem_of_getElem? (i := 539) (by decide +kernel), by decide +kernel⟩)
theorem xw_540 : (.instanceMethod yX4_away : Cond) ∈ XW := (List.mem_filter.mpr ⟨List.mem_of_getElem? (i := 540) (by decide +kernel), by decide +kernel⟩)
theorem xw_541 : (.selects RX4 yX4_away yX4_away : Cond) ∈ XW := (List.mem_filter.mpr ⟨List.mem_of_getElem? (i := 541) (by decide +kernel), by decide +kernel⟩)
theorem xw_921 : (mcd mX5_away : Cond) ∈ XW := (List.mem_filter.mpr ⟨List.mem_of_getElem? (i := 921) (by decide +kernel), by decide +kernel⟩)
theorem xw_918 : (.methodLink RL 55 yX5_away : Cond) ∈ XW := (List.mem_filter.mpr ⟨List.mem_of_getElem? (i := 918) (by decide +kernel), by decide +kernel⟩)
theorem xw_919 : (.instanceMethod yX5_away : Cond) ∈ XW := (List.mem_filter.mpr ⟨List.mem_of_getElem? (i := 919) (by decide +kernel), by decide +kernel⟩)
theorem xw_920 : (.selects RX5 yX5_away yX5_away : Cond) ∈ XW := (List.mem_filter.mpr ⟨List.mem_of_getElem? (i := 920) (by decide +kernel), by decide +kernel⟩)
theorem xw_546 : (mcd mX4_undo : Cond) ∈ XW := (List.mem_filter.mpr ⟨List.mem_of_getElem? (i := 546) (by decide +kernel), by decide +kernel⟩)
theorem xw_543 : (.methodLink RL 56 yX4_undo : Cond) ∈ XW := (List.mem_filter.mpr ⟨List.mem_of_getElem? (i := 543) (by decide +kernel), by decide +kernel⟩)
theorem xw_544 : (.instanceMethod yX4_undo : Cond) ∈ XW := (List.mem_filter.mpr ⟨List.mem_of_getElem? (i := 544) (by decide +kernel), by decide +kernel⟩)
theorem xw_545 : (.selects RX4 yX4_undo yX4_undo : Cond) ∈ XW := (List.mem_filter.mpr ⟨List.mem_of_getElem? (i := 545) (by decide +kernel), by decide +kernel⟩)
theorem xw_925 : (mcd mX5_undo : Cond) ∈ XW := (List.mem_filter.mpr ⟨List.mem_of_getElem? (i := 925) (by decide +kernel), by decide +kernel⟩)
theorem xw_922 : (.methodLink RL 59 yX5_undo : Cond) ∈ XW := (List.mem_filter.mpr ⟨List.mem_of_getElem? (i := 922) (by decide +kernel), by decide +kernel⟩)
theorem xw_923 : (.instanceMethod yX5_undo : Cond) ∈ XW := (List.mem_filter.mpr ⟨List.mem_of_getElem? (i := 923) (by decide +kernel), by decide +kernel⟩)
theorem xw_924 : (.selects RX5 yX5_undo yX5_undo : Cond) ∈ XW := (List.mem_filter.mpr ⟨List.mem_of_getElem? (i := 924) (by decide +kernel), by decide +kernel⟩)
theorem xw_554 : (mcd mX4_keep : Cond) ∈ XW := (List.mem_filter.mpr ⟨List.mem_of_getElem? (i := 554) (by decide +kernel), by decide +kernel⟩)
theorem xw_551 : (.methodLink RL 60 yX4_keep : Cond) ∈ XW := (List.mem_filter.mpr ⟨List.mem_of_getElem? (i := 551) (by decide +kernel), by decide +kernel⟩)
theorem xw_552 : (.instanceMethod yX4_keep : Cond) ∈ XW := (List.mem_filter.mpr ⟨List.mem_of_getElem? (i := 552) (by decide +kernel), by decide +kernel⟩)
theorem xw_553 : (.selects RX4 yX4_keep yX4_keep : Cond) ∈ XW := (List.mem_filter.mpr ⟨List.mem_of_getElem? (i := 553) (by decide +kernel), by decide +kernel⟩)
theorem xw_929 : (mcd mX5_keep : Cond) ∈ XW := (List.mem_filter.mpr ⟨List.mem_of_getElem? (i := 929) (by decide +kernel), by decide +kernel⟩)
theorem xw_926 : (.methodLink RL 63 yX5_keep : Cond) ∈ XW := (List.mem_filter.mpr ⟨List.mem_of_getElem? (i := 926) (by decide +kernel), by decide +kernel⟩)
theorem xw_927 : (.instanceMethod yX5_keep : Cond) ∈ XW := (List.mem_filter.mpr ⟨List.mem_of_getElem? (i := 927) (by decide +kernel), by decide +kernel⟩)
theorem xw_928 : (.selects RX5 yX5_keep yX5_keep : Cond) ∈ XW := (List.mem_filter.mpr ⟨List.mem_of_getElem? (i := 928) (by decide +kernel), by decide +kernel⟩)
theorem xw_558 : (mcd mX4_back : Cond) ∈ XW := (List.mem_filter.mpr ⟨List.mem_of_getElem? (i := 558) (by decide +kernel), by decide +kernel⟩)
theorem xw_555 : (.methodLink RL 64 yX4_back : Cond) ∈ XW := (List.mem_filter.mpr ⟨List.mem_of_getElem? (i := 555) (by decide +kernel), by decide +kernel⟩)
theorem xw_556 : (.instanceMethod yX4_back : Cond) ∈ XW := (List.mem_filter.mpr ⟨List.mem_of_getElem? (i := 556) (by decide +kernel), by decide +kernel⟩)
theorem xw_557 : (.selects RX4 yX4_back yX4_back : Cond) ∈ XW := (List.mem_filter.mpr ⟨List.mem_of_getElem? (i := 557) (by decide +kernel), by decide +kernel⟩)
theorem xw_933 : (mcd mX5_back : Cond) ∈ XW := (List.mem_filter.mpr ⟨List.mem_of_getElem? (i := 933) (by decide +kernel), by decide +kernel⟩)
theorem xw_930 : (.methodLink RL 67 yX5_back : Cond) ∈ XW := (List.mem_filter.mpr ⟨List.mem_of_getElem? (i := 930) (by decide +kernel), by decide +kernel⟩)
theorem xw_931 : (.instanceMethod yX5_back : Cond) ∈ XW := (List.mem_filter.mpr ⟨List.mem_of_getElem? (i := 931) (by decide +kernel), by decide +kernel⟩)
theorem xw_932 : (.selects RX5 yX5_back yX5_back : Cond) ∈ XW := (List.mem_filter.mpr ⟨List.mem_of_getElem? (i := 932) (by decide +kernel), by decide +kernel⟩)
theorem xw_562 : (mcd mX4_writing : Cond) ∈ XW := (List.mem_filter.mpr ⟨List.mem_of_getElem? (i := 562) (by decide +kernel), by decide +kernel⟩)
theorem xw_559 : (.methodLink RL 68 yX4_writing : Cond) ∈ XW := (List.mem_filter.mpr ⟨List.mem_of_getElem? (i := 559) (by decide +kernel), by decide +kernel⟩)
theorem xw_560 : (.instanceMethod yX4_writing : Cond) ∈ XW := (List.mem_filter.mpr ⟨List.mem_of_getElem? (i := 560) (by decide +kernel), by decide +kernel⟩)
theorem xw_561 : (.selects RX4 yX4_writing yX4_writing : Cond) ∈ XW := (List.mem_filter.mpr ⟨List.mem_of_getElem? (i := 561) (by decide +kernel), by decide +kernel⟩)
theorem xw_937 : (mcd mX5_writing : Cond) ∈ XW := (List.mem_filter.mpr ⟨List.mem_of_getElem? (i := 937) (by decide +kernel), by decide +kernel⟩)
theorem xw_934 : (.methodLink RL 71 yX5_writing : Cond) ∈ XW := (List.mem_filter.mpr ⟨List.mem_of_getElem? (i := 934) (by decide +kernel), by decide +kernel⟩)
theorem xw_935 : (.instanceMethod yX5_writing : Cond) ∈ XW := (List.mem_filter.mpr ⟨List.mem_of_getElem? (i := 935) (by decide +kernel), by decide +kernel⟩)
theorem xw_936 : (.selects RX5 yX5_writing yX5_writing : Cond) ∈ XW := (List.mem_filter.mpr ⟨List.mem_of_getElem? (i := 936) (by decide +kernel), by decide +kernel⟩)
theorem xw_575 : (mcd mX4_sealOf : Cond) ∈ XW := (List.mem_filter.mpr ⟨List.mem_of_getElem? (i := 575) (by decide +kernel), by decide +kernel⟩)
theorem xw_572 : (.methodLink RL 72 yX4_sealOf : Cond) ∈ XW := (List.mem_filter.mpr ⟨List.mem_of_getElem? (i := 572) (by decide +kernel), by decide +kernel⟩)
theorem xw_573 : (.instanceMethod yX4_sealOf : Cond) ∈ XW := (List.mem_filter.mpr ⟨List.mem_of_getElem? (i := 573) (by decide +kernel), by decide +kernel⟩)
theorem xw_574 : (.selects RX4 yX4_sealOf yX4_sealOf : Cond) ∈ XW := (List.mem_filter.mpr ⟨List.mem_of_getElem? (i := 574) (by decide +kernel), by decide +kernel⟩)
theorem xw_949 : (mcd mX5_sealOf : Cond) ∈ XW := (List.mem_filter.mpr ⟨List.mem_of_getElem? (i := 949) (by decide +kernel), by decide +kernel⟩)
theorem xw_946 : (.methodLink RL 75 yX5_sealOf : Cond) ∈ XW := (List.mem_filter.mpr ⟨List.mem_of_getElem? (i := 946) (by decide +kernel), by decide +kernel⟩)
theorem xw_947 : (.instanceMethod yX5_sealOf : Cond) ∈ XW := (List.mem_filter.mpr ⟨List.mem_of_getElem? (i := 947) (by decide +kernel), by decide +kernel⟩)
theorem xw_948 : (.selects RX5 yX5_sealOf yX5_sealOf : Cond) ∈ XW := (List.mem_filter.mpr ⟨List.mem_of_getElem? (i := 948) (by decide +kernel), by decide +kernel⟩)
theorem xw_581 : (mcd mX4_weight : Cond) ∈ XW := (List.mem_filter.mpr ⟨List.mem_of_getElem? (i := 581) (by decide +kernel), by decide +kernel⟩)
theorem xw_578 : (.methodLink RL 76 yX4_weight : Cond) ∈ XW := (List.mem_filter.mpr ⟨List.mem_of_getElem? (i := 578) (by decide +kernel), by decide +kernel⟩)
theorem xw_579 : (.instanceMethod yX4_weight : Cond) ∈ XW := (List.mem_filter.mpr ⟨List.mem_of_getElem? (i := 579) (by decide +kernel), by decide +kernel⟩)
theorem xw_580 : (.selects RX4 yX4_weight yX4_weight : Cond) ∈ XW := (List.mem_filter.mpr ⟨List.mem_of_getElem? (i := 580) (by decide +kernel), by decide +kernel⟩)
theorem xw_955 : (mcd mX5_weight : Cond) ∈ XW := (List.mem_filter.mpr ⟨List.mem_of_getElem? (i := 955) (by decide +kernel), by decide +kernel⟩)
theorem xw_952 : (.methodLink RL 79 yX5_weight : Cond) ∈ XW := (List.mem_filter.mpr ⟨List.mem_of_getElem? (i := 952) (by decide +kernel), by decide +kernel⟩)
theorem xw_953 : (.instanceMethod yX5_weight : Cond) ∈ XW := (List.mem_filter.mpr ⟨List.mem_of_getElem? (i := 953) (by decide +kernel), by decide +kernel⟩)
theorem xw_954 : (.selects RX5 yX5_weight yX5_weight : Cond) ∈ XW := (List.mem_filter.mpr ⟨List.mem_of_getElem? (i := 954) (by decide +kernel), by decide +kernel⟩)
theorem xw_586 : (mcd mX4_odds : Cond) ∈ XW := (List.mem_filter.mpr ⟨List.mem_of_getElem? (i := 586) (by decide +kernel), by decide +kernel⟩)
theorem xw_583 : (.methodLink RL 80 yX4_odds : Cond) ∈ XW := (List.mem_filter.mpr ⟨List.mem_of_getElem? (i := 583) (by decide +kernel), by decide +kernel⟩)
theorem xw_584 : (.instanceMethod yX4_odds : Cond) ∈ XW := (List.mem_filter.mpr ⟨List.mem_of_getElem? (i := 584) (by decide +kernel), by decide +kernel⟩)
theorem xw_585 : (.selects RX4 yX4_odds yX4_odds : Cond) ∈ XW := (List.mem_filter.mpr ⟨List.mem_of_getElem? (i := 585) (by decide +kernel), by decide +kernel⟩)
theorem xw_959 : (mcd mX5_odds : Cond) ∈ XW := (List.mem_filter.mpr ⟨List.mem_of_getElem? (i := 959) (by decide +kernel), by decide +kernel⟩)
theorem xw_956 : (.methodLink RL 84 yX5_odds : Cond) ∈ XW := (List.mem_filter.mpr ⟨List.mem_of_getElem? (i := 956) (by decide +kernel), by decide +kernel⟩)
theorem xw_957 : (.instanceMethod yX5_odds : Cond) ∈ XW := (List.mem_filter.mpr ⟨List.mem_of_getElem? (i := 957) (by decide +kernel), by decide +kernel⟩)
theorem xw_958 : (.selects RX5 yX5_odds yX5_odds : Cond) ∈ XW := (List.mem_filter.mpr ⟨List.mem_of_getElem? (i := 958) (by decide +kernel), by decide +kernel⟩)
theorem xw_600 : (mcd mX4_next : Cond) ∈ XW := (List.mem_filter.mpr ⟨List.mem_of_getElem? (i := 600) (by decide +kernel), by decide +kernel⟩)
theorem xw_597 : (.methodLink RL 85 yX4_next : Cond) ∈ XW := (List.mem_filter.mpr ⟨List.mem_of_getElem? (i := 597) (by decide +kernel), by decide +kernel⟩)
theorem xw_598 : (.instanceMethod yX4_next : Cond) ∈ XW := (List.mem_filter.mpr ⟨List.mem_of_getElem? (i := 598) (by decide +kernel), by decide +kernel⟩)
theorem xw_599 : (.selects RX4 yX4_next yX4_next : Cond) ∈ XW := (List.mem_filter.mpr ⟨List.mem_of_getElem? (i := 599) (by decide +kernel), by decide +kernel⟩)
theorem xw_963 : (mcd mX5_next : Cond) ∈ XW := (List.mem_filter.mpr ⟨List.mem_of_getElem? (i := 963) (by decide +kernel), by decide +kernel⟩)
theorem xw_960 : (.methodLink RL 88 yX5_next : Cond) ∈ XW := (List.mem_filter.mpr ⟨List.mem_of_getElem? (i := 960) (by decide +kernel), by decide +kernel⟩)
theorem xw_961 : (.instanceMethod yX5_next : Cond) ∈ XW := (List.mem_filter.mpr ⟨List.mem_of_getElem? (i := 961) (by decide +kernel), by decide +kernel⟩)
theorem xw_962 : (.selects RX5 yX5_next yX5_next : Cond) ∈ XW := (List.mem_filter.mpr ⟨List.mem_of_getElem? (i := 962) (by decide +kernel), by decide +kernel⟩)
theorem xw_605 : (mcd mX4_count : Cond) ∈ XW := (List.mem_filter.mpr ⟨List.mem_of_getElem? (i := 605) (by decide +kernel), by decide +kernel⟩)
theorem xw_602 : (.methodLink RL 89 yX4_count : Cond) ∈ XW := (List.mem_filter.mpr ⟨List.mem_of_getElem? (i := 602) (by decide +kernel), by decide +kernel⟩)
theorem xw_603 : (.instanceMethod yX4_count : Cond) ∈ XW := (List.mem_filter.mpr ⟨List.mem_of_getElem? (i := 603) (by decide +kernel), by decide +kernel⟩)
theorem xw_604 : (.selects RX4 yX4_count yX4_count : Cond) ∈ XW := (List.mem_filter.mpr ⟨List.mem_of_getElem? (i := 604) (by decide +kernel), by decide +kernel⟩)
theorem xw_967 : (mcd mX5_count : Cond) ∈ XW := (List.mem_filter.mpr ⟨List.mem_of_getElem? (i := 967) (by decide +kernel), by decide +kernel⟩)
theorem xw_964 : (.methodLink RL 92 yX5_count : Cond) ∈ XW := (List.mem_filter.mpr ⟨List.mem_of_getElem? (i := 964) (by decide +kernel), by decide +kernel⟩)
theorem xw_965 : (.instanceMethod yX5_count : Cond) ∈ XW := (List.mem_filter.mpr ⟨List.mem_of_getElem? (i := 965) (by decide +kernel), by decide +kernel⟩)
theorem xw_966 : (.selects RX5 yX5_count yX5_count : Cond) ∈ XW := (List.mem_filter.mpr ⟨List.mem_of_getElem? (i := 966) (by decide +kernel), by decide +kernel⟩)
theorem xw_618 : (mcd mX4_like : Cond) ∈ XW := (List.mem_filter.mpr ⟨List.mem_of_getElem? (i := 618) (by decide +kernel), by decide +kernel⟩)
theorem xw_615 : (.methodLink RL 93 yX4_like : Cond) ∈ XW := (List.mem_filter.mpr ⟨List.mem_of_getElem? (i := 615) (by decide +kernel), by decide +kernel⟩)
theorem xw_616 : (.instanceMethod yX4_like : Cond) ∈ XW := (List.mem_filter.mpr ⟨List.mem_of_getElem? (i := 616) (by decide +kernel), by decide +kernel⟩)
theorem xw_617 : (.selects RX4 yX4_like yX4_like : Cond) ∈ XW := (List.mem_filter.mpr ⟨List.mem_of_getElem? (i := 617) (by decide +kernel), by decide +kernel⟩)
theorem xw_979 : (mcd mX5_like : Cond) ∈ XW := (List.mem_filter.mpr ⟨List.mem_of_getElem? (i := 979) (by decide +kernel), by decide +kernel⟩)
theorem xw_976 : (.methodLink RL 96 yX5_like : Cond) ∈ XW := (List.mem_filter.mpr ⟨List.mem_of_getElem? (i := 976) (by decide +kernel), by decide +kernel⟩)
theorem xw_977 : (.instanceMethod yX5_like : Cond) ∈ XW := (List.mem_filter.mpr ⟨List.mem_of_getElem? (i := 977) (by decide +kernel), by decide +kernel⟩)
theorem xw_978 : (.selects RX5 yX5_like yX5_like : Cond) ∈ XW := (List.mem_filter.mpr ⟨List.mem_of_getElem? (i := 978) (by decide +kernel), by decide +kernel⟩)
theorem xw_622 : (mcd mX4_slip : Cond) ∈ XW := (List.mem_filter.mpr ⟨List.mem_of_getElem? (i := 622) (by decide +kernel), by decide +kernel⟩)
theorem xw_619 : (.methodLink RL 97 yX4_slip : Cond) ∈ XW := (List.mem_filter.mpr ⟨List.mem_of_getElem? (i := 619) (by decide +kernel), by decide +kernel⟩)
theorem xw_620 : (.instanceMethod yX4_slip : Cond) ∈ XW := (List.mem_filter.mpr ⟨List.mem_of_getElem? (i := 620) (by decide +kernel), by decide +kernel⟩)
theorem xw_621 : (.selects RX4 yX4_slip yX4_slip : Cond) ∈ XW := (List.mem_filter.mpr ⟨List.mem_of_getElem? (i := 621) (by decide +kernel), by decide +kernel⟩)
theorem xw_984 : (mcd mX5_slip : Cond) ∈ XW := (List.mem_filter.mpr ⟨List.mem_of_getElem? (i := 984) (by decide +kernel), by decide +kernel⟩)
theorem xw_981 : (.methodLink RL 100 yX5_slip : Cond) ∈ XW := (List.mem_filter.mpr ⟨List.mem_of_getElem? (i := 981) (by decide +kernel), by decide +kernel⟩)
theorem xw_982 : (.instanceMethod yX5_slip : Cond) ∈ XW := (List.mem_filter.mpr ⟨List.mem_of_getElem? (i := 982) (by decide +kernel), by decide +kernel⟩)
theorem xw_983 : (.selects RX5 yX5_slip yX5_slip : Cond) ∈ XW := (List.mem_filter.mpr ⟨List.mem_of_getElem? (i := 983) (by decide +kernel), by decide +kernel⟩)
theorem xw_629 : (mcd mX4_insert : Cond) ∈ XW := (List.mem_filter.mpr ⟨List.mem_of_getElem? (i := 629) (by decide +kernel), by decide +kernel⟩)
theorem xw_626 : (.methodLink RL 101 yX4_insert : Cond) ∈ XW := (List.mem_filter.mpr ⟨List.mem_of_getElem? (i := 626) (by decide +kernel), by decide +kernel⟩)
theorem xw_627 : (.instanceMethod yX4_insert : Cond) ∈ XW := (List.mem_filter.mpr ⟨List.mem_of_getElem? (i := 627) (by decide +kernel), by decide +kernel⟩)
theorem xw_628 : (.selects RX4 yX4_insert yX4_insert : Cond) ∈ XW := (List.mem_filter.mpr ⟨List.mem_of_getElem? (i := 628) (by decide +kernel), by decide +kernel⟩)
theorem xw_992 : (mcd mX5_insert : Cond) ∈ XW := (List.mem_filter.mpr ⟨List.mem_of_getElem? (i := 992) (by decide +kernel), by decide +kernel⟩)
theorem xw_989 : (.methodLink RL 105 yX5_insert : Cond) ∈ XW := (List.mem_filter.mpr ⟨List.mem_of_getElem? (i := 989) (by decide +kernel), by decide +kernel⟩)
theorem xw_990 : (.instanceMethod yX5_insert : Cond) ∈ XW := (List.mem_filter.mpr ⟨List.mem_of_getElem? (i := 990) (by decide +kernel), by decide +kernel⟩)
theorem xw_991 : (.selects RX5 yX5_insert yX5_insert : Cond) ∈ XW := (List.mem_filter.mpr ⟨List.mem_of_getElem? (i := 991) (by decide +kernel), by decide +kernel⟩)
theorem xw_638 : (mcd mX4_cut : Cond) ∈ XW := (List.mem_filter.mpr ⟨List.mem_of_getElem? (i := 638) (by decide +kernel), by decide +kernel⟩)
theorem xw_635 : (.methodLink RL 106 yX4_cut : Cond) ∈ XW := (List.mem_filter.mpr ⟨List.mem_of_getElem? (i := 635) (by decide +kernel), by decide +kernel⟩)
theorem xw_636 : (.instanceMethod yX4_cut : Cond) ∈ XW := (List.mem_filter.mpr ⟨List.mem_of_getElem? (i := 636) (by decide +kernel), by decide +kernel⟩)
theorem xw_637 : (.selects RX4 yX4_cut yX4_cut : Cond) ∈ XW := (List.mem_filter.mpr ⟨List.mem_of_getElem? (i := 637) (by decide +kernel), by decide +kernel⟩)
theorem xw_996 : (mcd mX5_cut : Cond) ∈ XW := (List.mem_filter.mpr ⟨List.mem_of_getElem? (i := 996) (by decide +kernel), by decide +kernel⟩)
theorem xw_993 : (.methodLink RL 109 yX5_cut : Cond) ∈ XW := (List.mem_filter.mpr ⟨List.mem_of_getElem? (i := 993) (by decide +kernel), by decide +kernel⟩)
theorem xw_994 : (.instanceMethod yX5_cut : Cond) ∈ XW := (List.mem_filter.mpr ⟨List.mem_of_getElem? (i := 994) (by decide +kernel), by decide +kernel⟩)
theorem xw_995 : (.selects RX5 yX5_cut yX5_cut : Cond) ∈ XW := (List.mem_filter.mpr ⟨List.mem_of_getElem? (i := 995) (by decide +kernel), by decide +kernel⟩)
theorem xw_646 : (mcd mX4_join : Cond) ∈ XW := (List.mem_filter.mpr ⟨List.mem_of_getElem? (i := 646) (by decide +kernel), by decide +kernel⟩)
theorem xw_643 : (.methodLink RL 110 yX4_join : Cond) ∈ XW := (List.mem_filter.mpr ⟨List.mem_of_getElem? (i := 643) (by decide +kernel), by decide +kernel⟩)
theorem xw_644 : (.instanceMethod yX4_join : Cond) ∈ XW := (List.mem_filter.mpr ⟨List.mem_of_getElem? (i := 644) (by decide +kernel), by decide +kernel⟩)
theorem xw_645 : (.selects RX4 yX4_join yX4_join : Cond) ∈ XW := (List.mem_filter.mpr ⟨List.mem_of_getElem? (i := 645) (by decide +kernel), by decide +kernel⟩)
theorem xw_1000 : (mcd mX5_join : Cond) ∈ XW := (List.mem_filter.mpr ⟨List.mem_of_getElem? (i := 1000) (by decide +kernel), by decide +kernel⟩)
theorem xw_997 : (.methodLink RL 113 yX5_join : Cond) ∈ XW := (List.mem_filter.mpr ⟨List.mem_of_getElem? (i := 997) (by decide +kernel), by decide +kernel⟩)
theorem xw_998 : (.instanceMethod yX5_join : Cond) ∈ XW := (List.mem_filter.mpr ⟨List.mem_of_getElem? (i := 998) (by decide +kernel), by decide +kernel⟩)
theorem xw_999 : (.selects RX5 yX5_join yX5_join : Cond) ∈ XW := (List.mem_filter.mpr ⟨List.mem_of_getElem? (i := 999) (by decide +kernel), by decide +kernel⟩)
theorem xw_654 : (mcd mX4_letter : Cond) ∈ XW := (List.mem_filter.mpr ⟨List.mem_of_getElem? (i := 654) (by decide +kernel), by decide +kernel⟩)
theorem xw_651 : (.methodLink RL 114 yX4_letter : Cond) ∈ XW := (List.mem_filter.mpr ⟨List.mem_of_getElem? (i := 651) (by decide +kernel), by decide +kernel⟩)
theorem xw_652 : (.instanceMethod yX4_letter : Cond) ∈ XW := (List.mem_filter.mpr ⟨List.mem_of_getElem? (i := 652) (by decide +kernel), by decide +kernel⟩)
theorem xw_653 : (.selects RX4 yX4_letter yX4_letter : Cond) ∈ XW := (List.mem_filter.mpr ⟨List.mem_of_getElem? (i := 653) (by decide +kernel), by decide +kernel⟩)
theorem xw_1004 : (mcd mX5_letter : Cond) ∈ XW := (List.mem_filter.mpr ⟨List.mem_of_getElem? (i := 1004) (by decide +kernel), by decide +kernel⟩)
theorem xw_1001 : (.methodLink RL 117 yX5_letter : Cond) ∈ XW := (List.mem_filter.mpr ⟨List.mem_of_getElem? (i := 1001) (by decide +kernel), by decide +kernel⟩)
theorem xw_1002 : (.instanceMethod yX5_letter : Cond) ∈ XW := (List.mem_filter.mpr ⟨List.mem_of_getElem? (i := 1002) (by decide +kernel), by decide +kernel⟩)
theorem xw_1003 : (.selects RX5 yX5_letter yX5_letter : Cond) ∈ XW := (List.mem_filter.mpr ⟨List.mem_of_getElem? (i := 1003) (by decide +kernel), by decide +kernel⟩)
theorem xw_658 : (mcd mX4_find : Cond) ∈ XW := (List.mem_filter.mpr ⟨List.mem_of_getElem? (i := 658) (by decide +kernel), by decide +kernel⟩)
theorem xw_655 : (.methodLink RL 118 yX4_find : Cond) ∈ XW := (List.mem_filter.mpr ⟨List.mem_of_getElem? (i := 655) (by decide +kernel), by decide +kernel⟩)
theorem xw_656 : (.instanceMethod yX4_find : Cond) ∈ XW := (List.mem_filter.mpr ⟨List.mem_of_getElem? (i := 656) (by decide +kernel), by decide +kernel⟩)
theorem xw_657 : (.selects RX4 yX4_find yX4_find : Cond) ∈ XW := (List.mem_filter.mpr ⟨List.mem_of_getElem? (i := 657) (by decide +kernel), by decide +kernel⟩)
theorem xw_1008 : (mcd mX5_find : Cond) ∈ XW := (List.mem_filter.mpr ⟨List.mem_of_getElem? (i := 1008) (by decide +kernel), by decide +kernel⟩)
theorem xw_1005 : (.methodLink RL 121 yX5_find : Cond) ∈ XW := (List.mem_filter.mpr ⟨List.mem_of_getElem? (i := 1005) (by decide +kernel), by decide +kernel⟩)
theorem xw_1006 : (.instanceMethod yX5_find : Cond) ∈ XW := (List.mem_filter.mpr ⟨List.mem_of_getElem? (i := 1006) (by decide +kernel), by decide +kernel⟩)
theorem xw_1007 : (.selects RX5 yX5_find yX5_find : Cond) ∈ XW := (List.mem_filter.mpr ⟨List.mem_of_getElem? (i := 1007) (by decide +kernel), by decide +kernel⟩)
theorem xw_670 : (mcd mX4_value : Cond) ∈ XW := (List.mem_filter.mpr ⟨List.mem_of_getElem? (i := 670) (by decide +kernel), by decide +kernel⟩)
theorem xw_667 : (.methodLink RL 122 yX4_value : Cond) ∈ XW := (List.mem_filter.mpr ⟨List.mem_of_getElem? (i := 667) (by decide +kernel), by decide +kernel⟩)
theorem xw_668 : (.instanceMethod yX4_value : Cond) ∈ XW := (List.mem_filter.mpr ⟨List.mem_of_getElem? (i := 668) (by decide +kernel), by decide +kernel⟩)
theorem xw_669 : (.selects RX4 yX4_value yX4_value : Cond) ∈ XW := (List.mem_filter.mpr ⟨List.mem_of_getElem? (i := 669) (by decide +kernel), by decide +kernel⟩)
theorem xw_1017 : (mcd mX5_value : Cond) ∈ XW := (List.mem_filter.mpr ⟨List.mem_of_getElem? (i := 1017) (by decide +kernel), by decide +kernel⟩)
theorem xw_1014 : (.methodLink RL 125 yX5_value : Cond) ∈ XW := (List.mem_filter.mpr ⟨List.mem_of_getElem? (i := 1014) (by decide +kernel), by decide +kernel⟩)
theorem xw_1015 : (.instanceMethod yX5_value : Cond) ∈ XW := (List.mem_filter.mpr ⟨List.mem_of_getElem? (i := 1015) (by decide +kernel), by decide +kernel⟩)
theorem xw_1016 : (.selects RX5 yX5_value yX5_value : Cond) ∈ XW := (List.mem_filter.mpr ⟨List.mem_of_getElem? (i := 1016) (by decide +kernel), by decide +kernel⟩)
theorem xw_675 : (mcd mX4_named : Cond) ∈ XW := (List.mem_filter.mpr ⟨List.mem_of_getElem? (i := 675) (by decide +kernel), by decide +kernel⟩)
theorem xw_672 : (.methodLink RL 126 yX4_named : Cond) ∈ XW := (List.mem_filter.mpr ⟨List.mem_of_getElem? (i := 672) (by decide +kernel), by decide +kernel⟩)
theorem xw_673 : (.instanceMethod yX4_named : Cond) ∈ XW := (List.mem_filter.mpr ⟨List.mem_of_getElem? (i := 673) (by decide +kernel), by decide +kernel⟩)
theorem xw_674 : (.selects RX4 yX4_named yX4_named : Cond) ∈ XW := (List.mem_filter.mpr ⟨List.mem_of_getElem? (i := 674) (by decide +kernel), by decide +kernel⟩)
theorem xw_1021 : (mcd mX5_named : Cond) ∈ XW := (List.mem_filter.mpr ⟨List.mem_of_getElem? (i := 1021) (by decide +kernel), by decide +kernel⟩)
theorem xw_1018 : (.methodLink RL 129 yX5_named : Cond) ∈ XW := (List.mem_filter.mpr ⟨List.mem_of_getElem? (i := 1018) (by decide +kernel), by decide +kernel⟩)
theorem xw_1019 : (.instanceMethod yX5_named : Cond) ∈ XW := (List.mem_filter.mpr ⟨List.mem_of_getElem? (i := 1019) (by decide +kernel), by decide +kernel⟩)
theorem xw_1020 : (.selects RX5 yX5_named yX5_named : Cond) ∈ XW := (List.mem_filter.mpr ⟨List.mem_of_getElem? (i := 1020) (by decide +kernel), by decide +kernel⟩)
theorem xw_680 : (mcd mX4_drop : Cond) ∈ XW := (List.mem_filter.mpr ⟨List.mem_of_getElem? (i := 680) (by decide +kernel), by decide +kernel⟩)
theorem xw_677 : (.methodLink RL 130 yX4_drop : Cond) ∈ XW := (List.mem_filter.mpr ⟨List.mem_of_getElem? (i := 677) (by decide +kernel), by decide +kernel⟩)
theorem xw_678 : (.instanceMethod yX4_drop : Cond) ∈ XW := (List.mem_filter.mpr ⟨List.mem_of_getElem? (i := 678) (by decide +kernel), by decide +kernel⟩)
theorem xw_679 : (.selects RX4 yX4_drop yX4_drop : Cond) ∈ XW := (List.mem_filter.mpr ⟨List.mem_of_getElem? (i := 679) (by decide +kernel), by decide +kernel⟩)
theorem xw_1026 : (mcd mX5_drop : Cond) ∈ XW := (List.mem_filter.mpr ⟨List.mem_of_getElem? (i := 1026) (by decide +kernel), by decide +kernel⟩)
theorem xw_1023 : (.methodLink RL 133 yX5_drop : Cond) ∈ XW := (List.mem_filter.mpr ⟨List.mem_of_getElem? (i := 1023) (by decide +kernel), by decide +kernel⟩)
theorem xw_1024 : (.instanceMethod yX5_drop : Cond) ∈ XW := (List.mem_filter.mpr ⟨List.mem_of_getElem? (i := 1024) (by decide +kernel), by decide +kernel⟩)
theorem xw_1025 : (.selects RX5 yX5_drop yX5_drop : Cond) ∈ XW := (List.mem_filter.mpr ⟨List.mem_of_getElem? (i := 1025) (by decide +kernel), by decide +kernel⟩)
theorem xw_684 : (mcd mX4_told : Cond) ∈ XW := (List.mem_filter.mpr ⟨List.mem_of_getElem? (i := 684) (by decide +kernel), by decide +kernel⟩)
theorem xw_681 : (.methodLink RL 134 yX4_told : Cond) ∈ XW := (List.mem_filter.mpr ⟨List.mem_of_getElem? (i := 681) (by decide +kernel), by decide +kernel⟩)
theorem xw_682 : (.instanceMethod yX4_told : Cond) ∈ XW := (List.mem_filter.mpr ⟨List.mem_of_getElem? (i := 682) (by decide +kernel), by decide +kernel⟩)
theorem xw_683 : (.selects RX4 yX4_told yX4_told : Cond) ∈ XW := (List.mem_filter.mpr ⟨List.mem_of_getElem? (i := 683) (by decide +kernel), by decide +kernel⟩)
theorem xw_1030 : (mcd mX5_told : Cond) ∈ XW := (List.mem_filter.mpr ⟨List.mem_of_getElem? (i := 1030) (by decide +kernel), by decide +kernel⟩)
theorem xw_1027 : (.methodLink RL 137 yX5_told : Cond) ∈ XW := (List.mem_filter.mpr ⟨List.mem_of_getElem? (i := 1027) (by decide +kernel), by decide +kernel⟩)
theorem xw_1028 : (.instanceMethod yX5_told : Cond) ∈ XW := (List.mem_filter.mpr ⟨List.mem_of_getElem? (i := 1028) (by decide +kernel), by decide +kernel⟩)
theorem xw_1029 : (.selects RX5 yX5_told yX5_told : Cond) ∈ XW := (List.mem_filter.mpr ⟨List.mem_of_getElem? (i := 1029) (by decide +kernel), by decide +kernel⟩)
theorem xw_702 : (mcd mX5_anew : Cond) ∈ XW := (List.mem_filter.mpr ⟨List.mem_of_getElem? (i := 702) (by decide +kernel), by decide +kernel⟩)
theorem xw_699 : (.methodLink RX5 41 yX5_anew : Cond) ∈ XW := (List.mem_filter.mpr ⟨List.mem_of_getElem? (i := 699) (by decide +kernel), by decide +kernel⟩)
theorem xw_701 : (.instanceMethod yX5_anew : Cond) ∈ XW := (List.mem_filter.mpr ⟨List.mem_of_getElem? (i := 701) (by decide +kernel), by decide +kernel⟩)
theorem xw_22 : (.selects RX5 yX5_anew yX5_anew : Cond) ∈ XW := (List.mem_filter.mpr ⟨List.mem_of_getElem? (i := 22) (by decide +kernel), by decide +kernel⟩)
theorem xw_706 : (mcd mX5_copyRow : Cond) ∈ XW := (List.mem_filter.mpr ⟨List.mem_of_getElem? (i := 706) (by decide +kernel), by decide +kernel⟩)
theorem xw_703 : (.methodLink RX5 44 yX5_copyRow : Cond) ∈ XW := (List.mem_filter.mpr ⟨List.mem_of_getElem? (i := 703) (by decide +kernel), by decide +kernel⟩)
theorem xw_705 : (.instanceMethod yX5_copyRow : Cond) ∈ XW := (List.mem_filter.mpr ⟨List.mem_of_getElem? (i := 705) (by decide +kernel), by decide +kernel⟩)
theorem xw_23 : (.selects RX5 yX5_copyRow yX5_copyRow : Cond) ∈ XW := (List.mem_filter.mpr ⟨List.mem_of_getElem? (i := 23) (by decide +kernel), by decide +kernel⟩)
theorem xw_775 : (mcd mX5_in : Cond) ∈ XW := (List.mem_filter.mpr ⟨List.mem_of_getElem? (i := 775) (by decide +kernel), by decide +kernel⟩)
theorem xw_773 : (.methodLink RX5 57 yX5_in : Cond) ∈ XW := (List.mem_filter.mpr ⟨List.mem_of_getElem? (i := 773) (by decide +kernel), by decide +kernel⟩)
theorem xw_774 : (.static yX5_in : Cond) ∈ XW := (List.mem_filter.mpr ⟨List.mem_of_getElem? (i := 774) (by decide +kernel), by decide +kernel⟩)
theorem xw_794 : (mcd mX5_isSmall : Cond) ∈ XW := (List.mem_filter.mpr ⟨List.mem_of_getElem? (i := 794) (by decide +kernel), by decide +kernel⟩)
theorem xw_792 : (.methodLink RX5 78 yX5_isSmall : Cond) ∈ XW := (List.mem_filter.mpr ⟨List.mem_of_getElem? (i := 792) (by decide +kernel), by decide +kernel⟩)
theorem xw_793 : (.static yX5_isSmall : Cond) ∈ XW := (List.mem_filter.mpr ⟨List.mem_of_getElem? (i := 793) (by decide +kernel), by decide +kernel⟩)
theorem xw_799 : (mcd mX5_isDigit : Cond) ∈ XW := (List.mem_filter.mpr ⟨List.mem_of_getElem? (i := 799) (by decide +kernel), by decide +kernel⟩)
theorem xw_797 : (.methodLink RX5 82 yX5_isDigit : Cond) ∈ XW := (List.mem_filter.mpr ⟨List.mem_of_getElem? (i := 797) (by decide +kernel), by decide +kernel⟩)
theorem xw_798 : (.static yX5_isDigit : Cond) ∈ XW := (List.mem_filter.mpr ⟨List.mem_of_getElem? (i := 798) (by decide +kernel), by decide +kernel⟩)
theorem xw_813 : (mcd mX5_isWord : Cond) ∈ XW := (List.mem_filter.mpr ⟨List.mem_of_getElem? (i := 813) (by decide +kernel), by decide +kernel⟩)
theorem xw_810 : (.methodLink RX5 85 yX5_isWord : Cond) ∈ XW := (List.mem_filter.mpr ⟨List.mem_of_getElem? (i := 810) (by decide +kernel), by decide +kernel⟩)
theorem xw_812 : (.instanceMethod yX5_isWord : Cond) ∈ XW := (List.mem_filter.mpr ⟨List.mem_of_getElem? (i := 812) (by decide +kernel), by decide +kernel⟩)
theorem xw_28 : (.selects RX5 yX5_isWord yX5_isWord : Cond) ∈ XW := (List.mem_filter.mpr ⟨List.mem_of_getElem? (i := 28) (by decide +kernel), by decide +kernel⟩)
theorem xw_791 : (mcd mX5_nextToken : Cond) ∈ XW := (List.mem_filter.mpr ⟨List.mem_of_getElem? (i := 791) (by decide +kernel), by decide +kernel⟩)
theorem xw_788 : (.methodLink RX5 88 yX5_nextToken : Cond) ∈ XW := (List.mem_filter.mpr ⟨List.mem_of_getElem? (i := 788) (by decide +kernel), by decide +kernel⟩)
theorem xw_790 : (.instanceMethod yX5_nextToken : Cond) ∈ XW := (List.mem_filter.mpr ⟨List.mem_of_getElem? (i := 790) (by decide +kernel), by decide +kernel⟩)
theorem xw_25 : (.selects RX5 yX5_nextToken yX5_nextToken : Cond) ∈ XW := (List.mem_filter.mpr ⟨List.mem_of_getElem? (i := 25) (by decide +kernel), by decide +kernel⟩)
theorem xw_829 : (mcd mX5_has : Cond) ∈ XW := (List.mem_filter.mpr ⟨List.mem_of_getElem? (i := 829) (by decide +kernel), by decide +kernel⟩)
theorem xw_827 : (.methodLink RX5 93 yX5_has : Cond) ∈ XW := (List.mem_filter.mpr ⟨List.mem_of_getElem? (i := 827) (by decide +kernel), by decide +kernel⟩)
theorem xw_828 : (.static yX5_has : Cond) ∈ XW := (List.mem_filter.mpr ⟨List.mem_of_getElem? (i := 828) (by decide +kernel), by decide +kernel⟩)
theorem xw_809 : (mcd mX5_wordOf : Cond) ∈ XW := (List.mem_filter.mpr ⟨List.mem_of_getElem? (i := 809) (by decide +kernel), by decide +kernel⟩)
theorem xw_806 : (.methodLink RX5 97 yX5_wordOf : Cond) ∈ XW := (List.mem_filter.mpr ⟨List.mem_of_getElem? (i := 806) (by decide +kernel), by decide +kernel⟩)
theorem xw_808 : (.instanceMethod yX5_wordOf : Cond) ∈ XW := (List.mem_filter.mpr ⟨List.mem_of_getElem? (i := 808) (by decide +kernel), by decide +kernel⟩)
theorem xw_27 : (.selects RX5 yX5_wordOf yX5_wordOf : Cond) ∈ XW := (List.mem_filter.mpr ⟨List.mem_of_getElem? (i := 27) (by decide +kernel), by decide +kernel⟩)
theorem xw_821 : (mcd mX5_number : Cond) ∈ XW := (List.mem_filter.mpr ⟨List.mem_of_getElem? (i := 821) (by decide +kernel), by decide +kernel⟩)
theorem xw_818 : (.methodLink RX5 101 yX5_number : Cond) ∈ XW := (List.mem_filter.mpr ⟨List.mem_of_getElem? (i := 818) (by decide +kernel), by decide +kernel⟩)
theorem xw_820 : (.instanceMethod yX5_number : Cond) ∈ XW := (List.mem_filter.mpr ⟨List.mem_of_getElem? (i := 820) (by decide +kernel), by decide +kernel⟩)
theorem xw_30 : (.selects RX5 yX5_number yX5_number : Cond) ∈ XW := (List.mem_filter.mpr ⟨List.mem_of_getElem? (i := 30) (by decide +kernel), by decide +kernel⟩)
theorem xw_825 : (mcd mX5_readsVersed : Cond) ∈ XW := (List.mem_filter.mpr ⟨List.mem_of_getElem? (i := 825) (by decide +kernel), by decide +kernel⟩)
theorem xw_822 : (.methodLink RX5 105 yX5_readsVersed : Cond) ∈ XW := (List.mem_filter.mpr ⟨List.mem_of_getElem? (i := 822) (by decide +kernel), by decide +kernel⟩)
theorem xw_824 : (.instanceMethod yX5_readsVersed : Cond) ∈ XW := (List.mem_filter.mpr ⟨List.mem_of_getElem? (i := 824) (by decide +kernel), by decide +kernel⟩)
theorem xw_31 : (.selects RX5 yX5_readsVersed yX5_readsVersed : Cond) ∈ XW := (List.mem_filter.mpr ⟨List.mem_of_getElem? (i := 31) (by decide +kernel), by decide +kernel⟩)
theorem xw_833 : (mcd mX5_readsRule : Cond) ∈ XW := (List.mem_filter.mpr ⟨List.mem_of_getElem? (i := 833) (by decide +kernel), by decide +kernel⟩)
theorem xw_830 : (.methodLink RX5 112 yX5_readsRule : Cond) ∈ XW := (List.mem_filter.mpr ⟨List.mem_of_getElem? (i := 830) (by decide +kernel), by decide +kernel⟩)
theorem xw_832 : (.instanceMethod yX5_readsRule : Cond) ∈ XW := (List.mem_filter.mpr ⟨List.mem_of_getElem? (i := 832) (by decide +kernel), by decide +kernel⟩)
theorem xw_32 : (.selects RX5 yX5_readsRule yX5_readsRule : Cond) ∈ XW := (List.mem_filter.mpr ⟨List.mem_of_getElem? (i := 32) (by decide +kernel), by decide +kernel⟩)
theorem xw_817 : (mcd mX5_readsRest : Cond) ∈ XW := (List.mem_filter.mpr ⟨List.mem_of_getElem? (i := 817) (by decide +kernel), by decide +kernel⟩)
theorem xw_814 : (.methodLink RX5 115 yX5_readsRest : Cond) ∈ XW := (List.mem_filter.mpr ⟨List.mem_of_getElem? (i := 814) (by decide +kernel), by decide +kernel⟩)
theorem xw_816 : (.instanceMethod yX5_readsRest : Cond) ∈ XW := (List.mem_filter.mpr ⟨List.mem_of_getElem? (i := 816) (by decide +kernel), by decide +kernel⟩)
theorem xw_29 : (.selects RX5 yX5_readsRest yX5_readsRest : Cond) ∈ XW := (List.mem_filter.mpr ⟨List.mem_of_getElem? (i := 29) (by decide +kernel), by decide +kernel⟩)
theorem xw_837 : (mcd mX5_does : Cond) ∈ XW := (List.mem_filter.mpr ⟨List.mem_of_getElem? (i := 837) (by decide +kernel), by decide +kernel⟩)
theorem xw_834 : (.methodLink RX5 122 yX5_does : Cond) ∈ XW := (List.mem_filter.mpr ⟨List.mem_of_getElem? (i := 834) (by decide +kernel), by decide +kernel⟩)
theorem xw_836 : (.instanceMethod yX5_does : Cond) ∈ XW := (List.mem_filter.mpr ⟨List.mem_of_getElem? (i := 836) (by decide +kernel), by decide +kernel⟩)
theorem xw_33 : (.selects RX5 yX5_does yX5_does : Cond) ∈ XW := (List.mem_filter.mpr ⟨List.mem_of_getElem? (i := 33) (by decide +kernel), by decide +kernel⟩)
theorem xw_805 : (mcd mX5_readsClause : Cond) ∈ XW := (List.mem_filter.mpr ⟨List.mem_of_getElem? (i := 805) (by decide +kernel), by decide +kernel⟩)
theorem xw_802 : (.methodLink RX5 129 yX5_readsClause : Cond) ∈ XW := (List.mem_filter.mpr ⟨List.mem_of_getElem? (i := 802) (by decide +kernel), by decide +kernel⟩)
theorem xw_804 : (.instanceMethod yX5_readsClause : Cond) ∈ XW := (List.mem_filter.mpr ⟨List.mem_of_getElem? (i := 804) (by decide +kernel), by decide +kernel⟩)
theorem xw_26 : (.selects RX5 yX5_readsClause yX5_readsClause : Cond) ∈ XW := (List.mem_filter.mpr ⟨List.mem_of_getElem? (i := 26) (by decide +kernel), by decide +kernel⟩)
theorem xw_787 : (mcd mX5_reads : Cond) ∈ XW := (List.mem_filter.mpr ⟨List.mem_of_getElem? (i := 787) (by decide +kernel), by decide +kernel⟩)
theorem xw_784 : (.methodLink RX5 132 yX5_reads : Cond) ∈ XW := (List.mem_filter.mpr ⟨List.mem_of_getElem? (i := 784) (by decide +kernel), by decide +kernel⟩)
theorem xw_786 : (.instanceMethod yX5_reads : Cond) ∈ XW := (List.mem_filter.mpr ⟨List.mem_of_getElem? (i := 786) (by decide +kernel), by decide +kernel⟩)
theorem xw_24 : (.selects RX5 yX5_reads yX5_reads : Cond) ∈ XW := (List.mem_filter.mpr ⟨List.mem_of_getElem? (i := 24) (by decide +kernel), by decide +kernel⟩)
theorem xw_849 : (mcd mX5_isJudge : Cond) ∈ XW := (List.mem_filter.mpr ⟨List.mem_of_getElem? (i := 849) (by decide +kernel), by decide +kernel⟩)
theorem xw_846 : (.methodLink RX5 139 yX5_isJudge : Cond) ∈ XW := (List.mem_filter.mpr ⟨List.mem_of_getElem? (i := 846) (by decide +kernel), by decide +kernel⟩)
theorem xw_848 : (.instanceMethod yX5_isJudge : Cond) ∈ XW := (List.mem_filter.mpr ⟨List.mem_of_getElem? (i := 848) (by decide +kernel), by decide +kernel⟩)
theorem xw_34 : (.selects RX5 yX5_isJudge yX5_isJudge : Cond) ∈ XW := (List.mem_filter.mpr ⟨List.mem_of_getElem? (i := 34) (by decide +kernel), by decide +kernel⟩)
theorem xw_857 : (mcd mX5_isCase : Cond) ∈ XW := (List.mem_filter.mpr ⟨List.mem_of_getElem? (i := 857) (by decide +kernel), by decide +kernel⟩)
theorem xw_854 : (.methodLink RX5 142 yX5_isCase : Cond) ∈ XW := (List.mem_filter.mpr ⟨List.mem_of_getElem? (i := 854) (by decide +kernel), by decide +kernel⟩)
theorem xw_856 : (.instanceMethod yX5_isCase : Cond) ∈ XW := (List.mem_filter.mpr ⟨List.mem_of_getElem? (i := 856) (by decide +kernel), by decide +kernel⟩)
theorem xw_35 : (.selects RX5 yX5_isCase yX5_isCase : Cond) ∈ XW := (List.mem_filter.mpr ⟨List.mem_of_getElem? (i := 35) (by decide +kernel), by decide +kernel⟩)
theorem xw_909 : (mcd mX5_turned : Cond) ∈ XW := (List.mem_filter.mpr ⟨List.mem_of_getElem? (i := 909) (by decide +kernel), by decide +kernel⟩)
theorem xw_907 : (.methodLink RX5 148 yX5_turned : Cond) ∈ XW := (List.mem_filter.mpr ⟨List.mem_of_getElem? (i := 907) (by decide +kernel), by decide +kernel⟩)
theorem xw_908 : (.static yX5_turned : Cond) ∈ XW := (List.mem_filter.mpr ⟨List.mem_of_getElem? (i := 908) (by decide +kernel), by decide +kernel⟩)
theorem xw_884 : (mcd mX5_isBarred : Cond) ∈ XW := (List.mem_filter.mpr ⟨List.mem_of_getElem? (i := 884) (by decide +kernel), by decide +kernel⟩)
theorem xw_881 : (.methodLink RX5 152 yX5_isBarred : Cond) ∈ XW := (List.mem_filter.mpr ⟨List.mem_of_getElem? (i := 881) (by decide +kernel), by decide +kernel⟩)
theorem xw_883 : (.instanceMethod yX5_isBarred : Cond) ∈ XW := (List.mem_filter.mpr ⟨List.mem_of_getElem? (i := 883) (by decide +kernel), by decide +kernel⟩)
theorem xw_38 : (.selects RX5 yX5_isBarred yX5_isBarred : Cond) ∈ XW := (List.mem_filter.mpr ⟨List.mem_of_getElem? (i := 38) (by decide +kernel), by decide +kernel⟩)
theorem xw_900 : (mcd mX5_weightOf : Cond) ∈ XW := (List.mem_filter.mpr ⟨List.mem_of_getElem? (i := 900) (by decide +kernel), by decide +kernel⟩)
theorem xw_897 : (.methodLink RX5 155 yX5_weightOf : Cond) ∈ XW := (List.mem_filter.mpr ⟨List.mem_of_getElem? (i := 897) (by decide +kernel), by decide +kernel⟩)
theorem xw_899 : (.instanceMethod yX5_weightOf : Cond) ∈ XW := (List.mem_filter.mpr ⟨List.mem_of_getElem? (i := 899) (by decide +kernel), by decide +kernel⟩)
theorem xw_42 : (.selects RX5 yX5_weightOf yX5_weightOf : Cond) ∈ XW := (List.mem_filter.mpr ⟨List.mem_of_getElem? (i := 42) (by decide +kernel), by decide +kernel⟩)
theorem xw_904 : (mcd mX5_drawFor : Cond) ∈ XW := (List.mem_filter.mpr ⟨List.mem_of_getElem? (i := 904) (by decide +kernel), by decide +kernel⟩)
theorem xw_901 : (.methodLink RX5 159 yX5_drawFor : Cond) ∈ XW := (List.mem_filter.mpr ⟨List.mem_of_getElem? (i := 901) (by decide +kernel), by decide +kernel⟩)
theorem xw_903 : (.instanceMethod yX5_drawFor : Cond) ∈ XW := (List.mem_filter.mpr ⟨List.mem_of_getElem? (i := 903) (by decide +kernel), by decide +kernel⟩)
theorem xw_43 : (.selects RX5 yX5_drawFor yX5_drawFor : Cond) ∈ XW := (List.mem_filter.mpr ⟨List.mem_of_getElem? (i := 43) (by decide +kernel), by decide +kernel⟩)
theorem xw_896 : (mcd mX5_drawOnce : Cond) ∈ XW := (List.mem_filter.mpr ⟨List.mem_of_getElem? (i := 896) (by decide +kernel), by decide +kernel⟩)
theorem xw_893 : (.methodLink RX5 162 yX5_drawOnce : Cond) ∈ XW := (List.mem_filter.mpr ⟨List.mem_of_getElem? (i := 893) (by decide +kernel), by decide +kernel⟩)
theorem xw_895 : (.instanceMethod yX5_drawOnce : Cond) ∈ XW := (List.mem_filter.mpr ⟨List.mem_of_getElem? (i := 895) (by decide +kernel), by decide +kernel⟩)
theorem xw_41 : (.selects RX5 yX5_drawOnce yX5_drawOnce : Cond) ∈ XW := (List.mem_filter.mpr ⟨List.mem_of_getElem? (i := 41) (by decide +kernel), by decide +kernel⟩)
theorem xw_913 : (mcd mX5_owe : Cond) ∈ XW := (List.mem_filter.mpr ⟨List.mem_of_getElem? (i := 913) (by decide +kernel), by decide +kernel⟩)
theorem xw_910 : (.methodLink RX5 165 yX5_owe : Cond) ∈ XW := (List.mem_filter.mpr ⟨List.mem_of_getElem? (i := 910) (by decide +kernel), by decide +kernel⟩)
theorem xw_912 : (.instanceMethod yX5_owe : Cond) ∈ XW := (List.mem_filter.mpr ⟨List.mem_of_getElem? (i := 912) (by decide +kernel), by decide +kernel⟩)
theorem xw_44 : (.selects RX5 yX5_owe yX5_owe : Cond) ∈ XW := (List.mem_filter.mpr ⟨List.mem_of_getElem? (i := 44) (by decide +kernel), by decide +kernel⟩)
theorem xw_865 : (mcd mX5_sealAt : Cond) ∈ XW := (List.mem_filter.mpr ⟨List.mem_of_getElem? (i := 865) (by decide +kernel), by decide +kernel⟩)
theorem xw_862 : (.methodLink RX5 168 yX5_sealAt : Cond) ∈ XW := (List.mem_filter.mpr ⟨List.mem_of_getElem? (i := 862) (by decide +kernel), by decide +kernel⟩)
theorem xw_864 : (.instanceMethod yX5_sealAt : Cond) ∈ XW := (List.mem_filter.mpr ⟨List.mem_of_getElem? (i := 864) (by decide +kernel), by decide +kernel⟩)
theorem xw_36 : (.selects RX5 yX5_sealAt yX5_sealAt : Cond) ∈ XW := (List.mem_filter.mpr ⟨List.mem_of_getElem? (i := 36) (by decide +kernel), by decide +kernel⟩)
theorem xw_872 : (mcd mX5_isSubject : Cond) ∈ XW := (List.mem_filter.mpr ⟨List.mem_of_getElem? (i := 872) (by decide +kernel), by decide +kernel⟩)
theorem xw_870 : (.methodLink RX5 173 yX5_isSubject : Cond) ∈ XW := (List.mem_filter.mpr ⟨List.mem_of_getElem? (i := 870) (by decide +kernel), by decide +kernel⟩)
theorem xw_871 : (.static yX5_isSubject : Cond) ∈ XW := (List.mem_filter.mpr ⟨List.mem_of_getElem? (i := 871) (by decide +kernel), by decide +kernel⟩)
theorem xw_875 : (mcd mX5_isParty : Cond) ∈ XW := (List.mem_filter.mpr ⟨List.mem_of_getElem? (i := 875) (by decide +kernel), by decide +kernel⟩)
theorem xw_873 : (.methodLink RX5 176 yX5_isParty : Cond) ∈ XW := (List.mem_filter.mpr ⟨List.mem_of_getElem? (i := 873) (by decide +kernel), by decide +kernel⟩)
theorem xw_874 : (.static yX5_isParty : Cond) ∈ XW := (List.mem_filter.mpr ⟨List.mem_of_getElem? (i := 874) (by decide +kernel), by decide +kernel⟩)
theorem xw_880 : (mcd mX5_isAnyone : Cond) ∈ XW := (List.mem_filter.mpr ⟨List.mem_of_getElem? (i := 880) (by decide +kernel), by decide +kernel⟩)
theorem xw_877 : (.methodLink RX5 179 yX5_isAnyone : Cond) ∈ XW := (List.mem_filter.mpr ⟨List.mem_of_getElem? (i := 877) (by decide +kernel), by decide +kernel⟩)
theorem xw_879 : (.instanceMethod yX5_isAnyone : Cond) ∈ XW := (List.mem_filter.mpr ⟨List.mem_of_getElem? (i := 879) (by decide +kernel), by decide +kernel⟩)
theorem xw_37 : (.selects RX5 yX5_isAnyone yX5_isAnyone : Cond) ∈ XW := (List.mem_filter.mpr ⟨List.mem_of_getElem? (i := 37) (by decide +kernel), by decide +kernel⟩)
theorem xw_888 : (mcd mX5_keepPast : Cond) ∈ XW := (List.mem_filter.mpr ⟨List.mem_of_getElem? (i := 888) (by decide +kernel), by decide +kernel⟩)
theorem xw_885 : (.methodLink RX5 182 yX5_keepPast : Cond) ∈ XW := (List.mem_filter.mpr ⟨List.mem_of_getElem? (i := 885) (by decide +kernel), by decide +kernel⟩)
theorem xw_887 : (.instanceMethod yX5_keepPast : Cond) ∈ XW := (List.mem_filter.mpr ⟨List.mem_of_getElem? (i := 887) (by decide +kernel), by decide +kernel⟩)
theorem xw_39 : (.selects RX5 yX5_keepPast yX5_keepPast : Cond) ∈ XW := (List.mem_filter.mpr ⟨List.mem_of_getElem? (i := 39) (by decide +kernel), by decide +kernel⟩)
theorem xw_892 : (mcd mX5_assigned : Cond) ∈ XW := (List.mem_filter.mpr ⟨List.mem_of_getElem? (i := 892) (by decide +kernel), by decide +kernel⟩)
theorem xw_889 : (.methodLink RX5 185 yX5_assigned : Cond) ∈ XW := (List.mem_filter.mpr ⟨List.mem_of_getElem? (i := 889) (by decide +kernel), by decide +kernel⟩)
theorem xw_891 : (.instanceMethod yX5_assigned : Cond) ∈ XW := (List.mem_filter.mpr ⟨List.mem_of_getElem? (i := 891) (by decide +kernel), by decide +kernel⟩)
theorem xw_40 : (.selects RX5 yX5_assigned yX5_assigned : Cond) ∈ XW := (List.mem_filter.mpr ⟨List.mem_of_getElem? (i := 40) (by decide +kernel), by decide +kernel⟩)
theorem xw_945 : (mcd mX5_put : Cond) ∈ XW := (List.mem_filter.mpr ⟨List.mem_of_getElem? (i := 945) (by decide +kernel), by decide +kernel⟩)
theorem xw_942 : (.methodLink RX5 191 yX5_put : Cond) ∈ XW := (List.mem_filter.mpr ⟨List.mem_of_getElem? (i := 942) (by decide +kernel), by decide +kernel⟩)
theorem xw_944 : (.instanceMethod yX5_put : Cond) ∈ XW := (List.mem_filter.mpr ⟨List.mem_of_getElem? (i := 944) (by decide +kernel), by decide +kernel⟩)
theorem xw_46 : (.selects RX5 yX5_put yX5_put : Cond) ∈ XW := (List.mem_filter.mpr ⟨List.mem_of_getElem? (i := 46) (by decide +kernel), by decide +kernel⟩)
theorem xw_941 : (mcd mX5_layWriting : Cond) ∈ XW := (List.mem_filter.mpr ⟨List.mem_of_getElem? (i := 941) (by decide +kernel), by decide +kernel⟩)
theorem xw_938 : (.methodLink RX5 194 yX5_layWriting : Cond) ∈ XW := (List.mem_filter.mpr ⟨List.mem_of_getElem? (i := 938) (by decide +kernel), by decide +kernel⟩)
theorem xw_940 : (.instanceMethod yX5_layWriting : Cond) ∈ XW := (List.mem_filter.mpr ⟨List.mem_of_getElem? (i := 940) (by decide +kernel), by decide +kernel⟩)
theorem xw_45 : (.selects RX5 yX5_layWriting yX5_layWriting : Cond) ∈ XW := (List.mem_filter.mpr ⟨List.mem_of_getElem? (i := 45) (by decide +kernel), by decide +kernel⟩)
theorem xw_971 : (mcd mX5_canCount : Cond) ∈ XW := (List.mem_filter.mpr ⟨List.mem_of_getElem? (i := 971) (by decide +kernel), by decide +kernel⟩)
theorem xw_968 : (.methodLink RX5 200 yX5_canCount : Cond) ∈ XW := (List.mem_filter.mpr ⟨List.mem_of_getElem? (i := 968) (by decide +kernel), by decide +kernel⟩)
theorem xw_970 : (.instanceMethod yX5_canCount : Cond) ∈ XW := (List.mem_filter.mpr ⟨List.mem_of_getElem? (i := 970) (by decide +kernel), by decide +kernel⟩)
theorem xw_47 : (.selects RX5 yX5_canCount yX5_canCount : Cond) ∈ XW := (List.mem_filter.mpr ⟨List.mem_of_getElem? (i := 47) (by decide +kernel), by decide +kernel⟩)
theorem xw_975 : (mcd mX5_sameBy : Cond) ∈ XW := (List.mem_filter.mpr ⟨List.mem_of_getElem? (i := 975) (by decide +kernel), by decide +kernel⟩)
theorem xw_972 : (.methodLink RX5 203 yX5_sameBy : Cond) ∈ XW := (List.mem_filter.mpr ⟨List.mem_of_getElem? (i := 972) (by decide +kernel), by decide +kernel⟩)
theorem xw_974 : (.instanceMethod yX5_sameBy : Cond) ∈ XW := (List.mem_filter.mpr ⟨List.mem_of_getElem? (i := 974) (by decide +kernel), by decide +kernel⟩)
theorem xw_48 : (.selects RX5 yX5_sameBy yX5_sameBy : Cond) ∈ XW := (List.mem_filter.mpr ⟨List.mem_of_getElem? (i := 48) (by decide +kernel), by decide +kernel⟩)
theorem xw_987 : (mcd mX5_isSlip : Cond) ∈ XW := (List.mem_filter.mpr ⟨List.mem_of_getElem? (i := 987) (by decide +kernel), by decide +kernel⟩)
theorem xw_985 : (.methodLink RX5 210 yX5_isSlip : Cond) ∈ XW := (List.mem_filter.mpr ⟨List.mem_of_getElem? (i := 985) (by decide +kernel), by decide +kernel⟩)
theorem xw_986 : (.static yX5_isSlip : Cond) ∈ XW := (List.mem_filter.mpr ⟨List.mem_of_getElem? (i := 986) (by decide +kernel), by decide +kernel⟩)
theorem xw_1013 : (mcd mX5_standsAt : Cond) ∈ XW := (List.mem_filter.mpr ⟨List.mem_of_getElem? (i := 1013) (by decide +kernel), by decide +kernel⟩)
theorem xw_1010 : (.methodLink RX5 215 yX5_standsAt : Cond) ∈ XW := (List.mem_filter.mpr ⟨List.mem_of_getElem? (i := 1010) (by decide +kernel), by decide +kernel⟩)
theorem xw_1012 : (.instanceMethod yX5_standsAt : Cond) ∈ XW := (List.mem_filter.mpr ⟨List.mem_of_getElem? (i := 1012) (by decide +kernel), by decide +kernel⟩)
theorem xw_49 : (.selects RX5 yX5_standsAt yX5_standsAt : Cond) ∈ XW := (List.mem_filter.mpr ⟨List.mem_of_getElem? (i := 49) (by decide +kernel), by decide +kernel⟩)
theorem xw_1034 : (mcd mX5_allLetters : Cond) ∈ XW := (List.mem_filter.mpr ⟨List.mem_of_getElem? (i := 1034) (by decide +kernel), by decide +kernel⟩)
theorem xw_1031 : (.methodLink RX5 220 yX5_allLetters : Cond) ∈ XW := (List.mem_filter.mpr ⟨List.mem_of_getElem? (i := 1031) (by decide +kernel), by decide +kernel⟩)
theorem xw_1033 : (.instanceMethod yX5_allLetters : Cond) ∈ XW := (List.mem_filter.mpr ⟨List.mem_of_getElem? (i := 1033) (by decide +kernel), by decide +kernel⟩)
theorem xw_50 : (.selects RX5 yX5_allLetters yX5_allLetters : Cond) ∈ XW := (List.mem_filter.mpr ⟨List.mem_of_getElem? (i := 50) (by decide +kernel), by decide +kernel⟩)
theorem xw_312 : (mcd mJ0_coder_7d493 : Cond) ∈ XW := (List.mem_filter.mpr ⟨List.mem_of_getElem? (i := 312) (by decide +kernel), by decide +kernel⟩)
theorem xw_309 : (.methodLink RJ0 335 yJ0_coder_7d493 : Cond) ∈ XW := (List.mem_filter.mpr ⟨List.mem_of_getElem? (i := 309) (by decide +kernel), by decide +kernel⟩)
theorem xw_310 : (.instanceMethod yJ0_coder_7d493 : Cond) ∈ XW := (List.mem_filter.mpr ⟨List.mem_of_getElem? (i := 310) (by decide +kernel), by decide +kernel⟩)
theorem xw_311 : (.selects RJ0 yJ0_coder_7d493 yJ0_coder_7d493 : Cond) ∈ XW := (List.mem_filter.mpr ⟨List.mem_of_getElem? (i := 311) (by decide +kernel), by decide +kernel⟩)
theorem xw_322 : (mcd mJ0_isLatin1_aae02 : Cond) ∈ XW := (List.mem_filter.mpr ⟨List.mem_of_getElem? (i := 322) (by decide +kernel), by decide +kernel⟩)
theorem xw_319 : (.methodLink RJ0 492 yJ0_isLatin1_aae02 : Cond) ∈ XW := (List.mem_filter.mpr ⟨List.mem_of_getElem? (i := 319) (by decide +kernel), by decide +kernel⟩)
theorem xw_320 : (.instanceMethod yJ0_isLatin1_aae02 : Cond) ∈ XW := (List.mem_filter.mpr ⟨List.mem_of_getElem? (i := 320) (by decide +kernel), by decide +kernel⟩)
theorem xw_321 : (.selects RJ0 yJ0_isLatin1_aae02 yJ0_isLatin1_aae02 : Cond) ∈ XW := (List.mem_filter.mpr ⟨List.mem_of_getElem? (i := 321) (by decide +kernel), by decide +kernel⟩)
theorem xw_325 : (mcd mJ1_charAt_3b067 : Cond) ∈ XW := (List.mem_filter.mpr ⟨List.mem_of_getElem? (i := 325) (by decide +kernel), by decide +kernel⟩)
theorem xw_61 : (.initialized RJ1 : Cond) ∈ XW := (List.mem_filter.mpr ⟨List.mem_of_getElem? (i := 61) (by decide +kernel), by decide +kernel⟩)
theorem xw_323 : (.methodLink RJ0 495 yJ1_charAt_3b067 : Cond) ∈ XW := (List.mem_filter.mpr ⟨List.mem_of_getElem? (i := 323) (by decide +kernel), by decide +kernel⟩)
theorem xw_324 : (.static yJ1_charAt_3b067 : Cond) ∈ XW := (List.mem_filter.mpr ⟨List.mem_of_getElem? (i := 324) (by decide +kernel), by decide +kernel⟩)
theorem xw_333 : (mcd mJ3_checkIndex_8e157 : Cond) ∈ XW := (List.mem_filter.mpr ⟨List.mem_of_getElem? (i := 333) (by decide +kernel), by decide +kernel⟩)
theorem xw_62 : (.initialized RJ3 : Cond) ∈ XW := (List.mem_filter.mpr ⟨List.mem_of_getElem? (i := 62) (by decide +kernel), by decide +kernel⟩)
theorem xw_331 : (.methodLink RJ0 1059 yJ3_checkIndex_8e157 : Cond) ∈ XW := (List.mem_filter.mpr ⟨List.mem_of_getElem? (i := 331) (by decide +kernel), by decide +kernel⟩)
theorem xw_332 : (.static yJ3_checkIndex_8e157 : Cond) ∈ XW := (List.mem_filter.mpr ⟨List.mem_of_getElem? (i := 332) (by decide +kernel), by decide +kernel⟩)
theorem xw_328 : (mcd mJ0_checkIndex_df160 : Cond) ∈ XW := (List.mem_filter.mpr ⟨List.mem_of_getElem? (i := 328) (by decide +kernel), by decide +kernel⟩)
theorem xw_326 : (.methodLink RJ1 9 yJ0_checkIndex_df160 : Cond) ∈ XW := (List.mem_filter.mpr ⟨List.mem_of_getElem? (i := 326) (by decide +kernel), by decide +kernel⟩)
theorem xw_327 : (.static yJ0_checkIndex_df160 : Cond) ∈ XW := (List.mem_filter.mpr ⟨List.mem_of_getElem? (i := 327) (by decide +kernel), by decide +kernel⟩)
theorem inT0 : ∀ w ∈ u_ws RX0 TX0 3, w ∈ lw_tbl := by decide +kernel
theorem inX0 : ∀ w ∈ u_ws RX0 TX0 3, w ∈ XW := fun w h => List.mem_filter.mpr ⟨inT0 w h, List.all_eq_true.mp (by decide +kernel : (u_ws RX0 TX0 3).all goodWord = true) w h⟩
theorem inT1 : ∀ w ∈ u_ws RX1 TX1 2, w ∈ lw_tbl := by decide +kernel
theorem inX1 : ∀ w ∈ u_ws RX1 TX1 2, w ∈ XW := fun w h => List.mem_filter.mpr ⟨inT1 w h, List.all_eq_true.mp (by decide +kernel : (u_ws RX1 TX1 2).all goodWord = true) w h⟩
theorem inT2 : ∀ w ∈ u_ws RX2 TX2 15, w ∈ lw_tbl := by decide +kernel
theorem inX2 : ∀ w ∈ u_ws RX2 TX2 15, w ∈ XW := fun w h => List.mem_filter.mpr ⟨inT2 w h, List.all_eq_true.mp (by decide +kernel : (u_ws RX2 TX2 15).all goodWord = true) w h⟩
theorem inT3 : ∀ w ∈ u_ws RX3 TX3 5, w ∈ lw_tbl := by decide +kernel
theorem inX3 : ∀ w ∈ u_ws RX3 TX3 5, w ∈ XW := fun w h => List.mem_filter.mpr ⟨inT3 w h, List.all_eq_true.mp (by decide +kernel : (u_ws RX3 TX3 5).all goodWord = true) w h⟩
theorem inT4 : ∀ w ∈ u_ws RX4 TX4 12, w ∈ lw_tbl := by decide +kernel
theorem inX4 : ∀ w ∈ u_ws RX4 TX4 12, w ∈ XW := fun w h => List.mem_filter.mpr ⟨inT4 w h, List.all_eq_true.mp (by decide +kernel : (u_ws RX4 TX4 12).all goodWord = true) w h⟩
theorem inT5 : ∀ w ∈ u_ws RX5 TX5 20, w ∈ lw_tbl := by decide +kernel
theorem inX5 : ∀ w ∈ u_ws RX5 TX5 20, w ∈ XW := fun w h => List.mem_filter.mpr ⟨inT5 w h, List.all_eq_true.mp (by decide +kernel : (u_ws RX5 TX5 20).all goodWord = true) w h⟩
theorem gf_X4_14 : gfOK RX4 14 4 0 := ⟨_, rfl, inX4, by decide, xw_208⟩
theorem gf_X4_18 : gfOK RX4 18 4 1 := ⟨_, rfl, inX4, by decide, xw_209⟩
theorem gf_X4_21 : gfOK RX4 21 4 2 := ⟨_, rfl, inX4, by decide, xw_210⟩
theorem gf_X4_25 : gfOK RX4 25 4 3 := ⟨_, rfl, inX4, by decide, xw_211⟩
theorem gf_X4_34 : gfOK RX4 34 4 4 := ⟨_, rfl, inX4, by decide, xw_212⟩
theorem gf_X4_41 : gfOK RX4 41 4 5 := ⟨_, rfl, inX4, by decide, xw_213⟩
theorem gf_X4_45 : gfOK RX4 45 4 6 := ⟨_, rfl, inX4, by decide, xw_214⟩
theorem gf_X4_48 : gfOK RX4 48 4 7 := ⟨_, rfl, inX4, by decide, xw_215⟩
theorem gf_X4_51 : gfOK RX4 51 4 8 := ⟨_, rfl, inX4, by decide, xw_216⟩
theorem gf_X4_57 : gfOK RX4 57 4 9 := ⟨_, rfl, inX4, by decide, xw_217⟩
theorem gf_X4_61 : gfOK RX4 61 4 10 := ⟨_, rfl, inX4, by decide, xw_218⟩
theorem gf_X4_65 : gfOK RX4 65 4 11 := ⟨_, rfl, inX4, by decide, xw_219⟩
theorem gf_X4_72 : gfOK RX4 72 1 1 := ⟨_, rfl, inX1, by decide, xw_86⟩
theorem pf_X4_72 : pfOK RX4 72 1 1 .int := ⟨_, rfl, inX1, by decide, xw_86, rfl, by decide +kernel, nmX1, tyX1, tyX1_ok⟩
theorem gf_X4_97 : gfOK RX4 97 3 4 := ⟨_, rfl, inX3, by decide, xw_106⟩
theorem pf_X4_97 : pfOK RX4 97 3 4 .int := ⟨_, rfl, inX3, by decide, xw_106, rfl, by decide +kernel, nmX3, tyX3, tyX3_ok⟩
theorem gf_X4_103 : gfOK RX4 103 2 0 := ⟨_, rfl, inX2, by decide, xw_126⟩
theorem gf_X4_107 : gfOK RX4 107 2 1 := ⟨_, rfl, inX2, by decide, xw_128⟩
theorem gf_X4_110 : gfOK RX4 110 2 2 := ⟨_, rfl, inX2, by decide, xw_130⟩
theorem gf_X4_116 : gfOK RX4 116 2 3 := ⟨_, rfl, inX2, by decide, xw_133⟩
theorem gf_X4_126 : gfOK RX4 126 2 4 := ⟨_, rfl, inX2, by decide, xw_135⟩
theorem gf_X4_129 : gfOK RX4 129 2 5 := ⟨_, rfl, inX2, by decide, xw_137⟩
theorem gf_X4_132 : gfOK RX4 132 2 6 := ⟨_, rfl, inX2, by decide, xw_139⟩
theorem gf_X4_138 : gfOK RX4 138 2 14 := ⟨_, rfl, inX2, by decide, xw_156⟩
theorem pf_X4_138 : pfOK RX4 138 2 14 .int := ⟨_, rfl, inX2, by decide, xw_156, rfl, by decide +kernel, nmX2, tyX2, tyX2_ok⟩
theorem gf_X4_164 : gfOK RX4 164 2 9 := ⟨_, rfl, inX2, by decide, xw_146⟩
theorem pf_X4_164 : pfOK RX4 164 2 9 .int := ⟨_, rfl, inX2, by decide, xw_146, rfl, by decide +kernel, nmX2, tyX2, tyX2_ok⟩
theorem gf_X4_167 : gfOK RX4 167 0 2 := ⟨_, rfl, inX0, by decide, xw_200⟩
theorem pf_X4_167 : pfOK RX4 167 0 2 .int := ⟨_, rfl, inX0, by decide, xw_200, rfl, by decide +kernel, nmX0, tyX0, tyX0_ok⟩
theorem gf_X4_176 : gfOK RX4 176 1 0 := ⟨_, rfl, inX1, by decide, xw_84⟩
theorem gf_X4_205 : gfOK RX4 205 2 13 := ⟨_, rfl, inX2, by decide, xw_154⟩
theorem pf_X4_205 : pfOK RX4 205 2 13 .int := ⟨_, rfl, inX2, by decide, xw_154, rfl, by decide +kernel, nmX2, tyX2, tyX2_ok⟩
theorem gf_X4_231 : gfOK RX4 231 2 8 := ⟨_, rfl, inX2, by decide, xw_143⟩
theorem pf_X4_231 : pfOK RX4 231 2 8 .int := ⟨_, rfl, inX2, by decide, xw_143, rfl, by decide +kernel, nmX2, tyX2, tyX2_ok⟩
theorem gf_X4_234 : gfOK RX4 234 2 10 := ⟨_, rfl, inX2, by decide, xw_149⟩
theorem pf_X4_234 : pfOK RX4 234 2 10 .int := ⟨_, rfl, inX2, by decide, xw_149, rfl, by decide +kernel, nmX2, tyX2, tyX2_ok⟩
theorem gf_X4_243 : gfOK RX4 243 2 11 := ⟨_, rfl, inX2, by decide, xw_151⟩
theorem pf_X4_243 : pfOK RX4 243 2 11 .int := ⟨_, rfl, inX2, by decide, xw_151, rfl, by decide +kernel, nmX2, tyX2, tyX2_ok⟩
theorem gf_X0_11 : gfOK RX0 11 0 0 := ⟨_, rfl, inX0, by decide, xw_197⟩
theorem gf_X0_18 : gfOK RX0 18 0 2 := ⟨_, rfl, inX0, by decide, xw_199⟩
theorem pf_X0_18 : pfOK RX0 18 0 2 .int := ⟨_, rfl, inX0, by decide, xw_199, rfl, by decide +kernel, nmX0, tyX0, tyX0_ok⟩
theorem gf_X0_22 : gfOK RX0 22 0 1 := ⟨_, rfl, inX0, by decide, xw_198⟩
theorem pf_X0_22 : pfOK RX0 22 0 1 .int := ⟨_, rfl, inX0, by decide, xw_198, rfl, by decide +kernel, nmX0, tyX0, tyX0_ok⟩
theorem gf_X1_15 : gfOK RX1 15 1 0 := ⟨_, rfl, inX1, by decide, xw_82⟩
theorem gf_X1_21 : gfOK RX1 21 1 1 := ⟨_, rfl, inX1, by decide, xw_85⟩
theorem pf_X1_21 : pfOK RX1 21 1 1 .int := ⟨_, rfl, inX1, by decide, xw_85, rfl, by decide +kernel, nmX1, tyX1, tyX1_ok⟩
theorem gf_X2_9 : gfOK RX2 9 2 0 := ⟨_, rfl, inX2, by decide, xw_125⟩
theorem gf_X2_15 : gfOK RX2 15 2 1 := ⟨_, rfl, inX2, by decide, xw_127⟩
theorem gf_X2_18 : gfOK RX2 18 2 2 := ⟨_, rfl, inX2, by decide, xw_129⟩
theorem gf_X2_21 : gfOK RX2 21 2 3 := ⟨_, rfl, inX2, by decide, xw_132⟩
theorem gf_X2_24 : gfOK RX2 24 2 4 := ⟨_, rfl, inX2, by decide, xw_134⟩
theorem gf_X2_27 : gfOK RX2 27 2 5 := ⟨_, rfl, inX2, by decide, xw_136⟩
theorem gf_X2_30 : gfOK RX2 30 2 6 := ⟨_, rfl, inX2, by decide, xw_138⟩
theorem gf_X2_33 : gfOK RX2 33 2 7 := ⟨_, rfl, inX2, by decide, xw_140⟩
theorem gf_X2_36 : gfOK RX2 36 2 10 := ⟨_, rfl, inX2, by decide, xw_147⟩
theorem pf_X2_36 : pfOK RX2 36 2 10 .int := ⟨_, rfl, inX2, by decide, xw_147, rfl, by decide +kernel, nmX2, tyX2, tyX2_ok⟩
theorem gf_X2_40 : gfOK RX2 40 2 11 := ⟨_, rfl, inX2, by decide, xw_150⟩
theorem pf_X2_40 : pfOK RX2 40 2 11 .int := ⟨_, rfl, inX2, by decide, xw_150, rfl, by decide +kernel, nmX2, tyX2, tyX2_ok⟩
theorem gf_X2_43 : gfOK RX2 43 2 12 := ⟨_, rfl, inX2, by decide, xw_152⟩
theorem pf_X2_43 : pfOK RX2 43 2 12 .int := ⟨_, rfl, inX2, by decide, xw_152, rfl, by decide +kernel, nmX2, tyX2, tyX2_ok⟩
theorem gf_X2_52 : gfOK RX2 52 2 8 := ⟨_, rfl, inX2, by decide, xw_141⟩
theorem pf_X2_52 : pfOK RX2 52 2 8 .int := ⟨_, rfl, inX2, by decide, xw_141, rfl, by decide +kernel, nmX2, tyX2, tyX2_ok⟩
theorem gf_X2_55 : gfOK RX2 55 2 9 := ⟨_, rfl, inX2, by decide, xw_144⟩
theorem pf_X2_55 : pfOK RX2 55 2 9 .int := ⟨_, rfl, inX2, by decide, xw_144, rfl, by decide +kernel, nmX2, tyX2, tyX2_ok⟩
theorem gf_X2_58 : gfOK RX2 58 2 13 := ⟨_, rfl, inX2, by decide, xw_153⟩
theorem pf_X2_58 : pfOK RX2 58 2 13 .int := ⟨_, rfl, inX2, by decide, xw_153, rfl, by decide +kernel, nmX2, tyX2, tyX2_ok⟩
theorem gf_X2_61 : gfOK RX2 61 2 14 := ⟨_, rfl, inX2, by decide, xw_155⟩
theorem pf_X2_61 : pfOK RX2 61 2 14 .int := ⟨_, rfl, inX2, by decide, xw_155, rfl, by decide +kernel, nmX2, tyX2, tyX2_ok⟩
theorem gf_X3_9 : gfOK RX3 9 3 0 := ⟨_, rfl, inX3, by decide, xw_101⟩
theorem gf_X3_15 : gfOK RX3 15 3 3 := ⟨_, rfl, inX3, by decide, xw_104⟩
theorem pf_X3_15 : pfOK RX3 15 3 3 .int := ⟨_, rfl, inX3, by decide, xw_104, rfl, by decide +kernel, nmX3, tyX3, tyX3_ok⟩
theorem gf_X3_19 : gfOK RX3 19 3 4 := ⟨_, rfl, inX3, by decide, xw_105⟩
theorem pf_X3_19 : pfOK RX3 19 3 4 .int := ⟨_, rfl, inX3, by decide, xw_105, rfl, by decide +kernel, nmX3, tyX3, tyX3_ok⟩
theorem gf_X3_29 : gfOK RX3 29 3 2 := ⟨_, rfl, inX3, by decide, xw_103⟩
theorem pf_X3_29 : pfOK RX3 29 3 2 .int := ⟨_, rfl, inX3, by decide, xw_103, rfl, by decide +kernel, nmX3, tyX3, tyX3_ok⟩
theorem gf_X3_32 : gfOK RX3 32 3 1 := ⟨_, rfl, inX3, by decide, xw_102⟩
theorem pf_X3_32 : pfOK RX3 32 3 1 .int := ⟨_, rfl, inX3, by decide, xw_102, rfl, by decide +kernel, nmX3, tyX3, tyX3_ok⟩
theorem gf_X3_39 : gfOK RX3 39 1 1 := ⟨_, rfl, inX1, by decide, xw_87⟩
theorem pf_X3_39 : pfOK RX3 39 1 1 .int := ⟨_, rfl, inX1, by decide, xw_87, rfl, by decide +kernel, nmX1, tyX1, tyX1_ok⟩
theorem gf_X3_44 : gfOK RX3 44 1 0 := ⟨_, rfl, inX1, by decide, xw_83⟩
theorem gf_X3_93 : gfOK RX3 93 2 8 := ⟨_, rfl, inX2, by decide, xw_142⟩
theorem pf_X3_93 : pfOK RX3 93 2 8 .int := ⟨_, rfl, inX2, by decide, xw_142, rfl, by decide +kernel, nmX2, tyX2, tyX2_ok⟩
theorem gf_X3_111 : gfOK RX3 111 2 2 := ⟨_, rfl, inX2, by decide, xw_131⟩
theorem gf_X3_114 : gfOK RX3 114 2 9 := ⟨_, rfl, inX2, by decide, xw_145⟩
theorem pf_X3_114 : pfOK RX3 114 2 9 .int := ⟨_, rfl, inX2, by decide, xw_145, rfl, by decide +kernel, nmX2, tyX2, tyX2_ok⟩
theorem gf_X3_119 : gfOK RX3 119 2 10 := ⟨_, rfl, inX2, by decide, xw_148⟩
theorem pf_X3_119 : pfOK RX3 119 2 10 .int := ⟨_, rfl, inX2, by decide, xw_148, rfl, by decide +kernel, nmX2, tyX2, tyX2_ok⟩
theorem gf_X5_7 : gfOK RX5 7 5 0 := ⟨_, rfl, inX5, by decide, xw_707⟩
theorem gf_X5_13 : gfOK RX5 13 5 3 := ⟨_, rfl, inX5, by decide, xw_710⟩
theorem gf_X5_16 : gfOK RX5 16 5 4 := ⟨_, rfl, inX5, by decide, xw_711⟩
theorem gf_X5_19 : gfOK RX5 19 5 6 := ⟨_, rfl, inX5, by decide, xw_713⟩
theorem gf_X5_23 : gfOK RX5 23 5 7 := ⟨_, rfl, inX5, by decide, xw_714⟩
theorem gf_X5_26 : gfOK RX5 26 5 9 := ⟨_, rfl, inX5, by decide, xw_716⟩
theorem gf_X5_29 : gfOK RX5 29 5 10 := ⟨_, rfl, inX5, by decide, xw_717⟩
theorem gf_X5_32 : gfOK RX5 32 5 16 := ⟨_, rfl, inX5, by decide, xw_723⟩
theorem gf_X5_35 : gfOK RX5 35 5 17 := ⟨_, rfl, inX5, by decide, xw_724⟩
theorem gf_X5_38 : gfOK RX5 38 5 18 := ⟨_, rfl, inX5, by decide, xw_725⟩
theorem gf_X5_48 : gfOK RX5 48 5 1 := ⟨_, rfl, inX5, by decide, xw_708⟩
theorem pf_X5_48 : pfOK RX5 48 5 1 .int := ⟨_, rfl, inX5, by decide, xw_708, rfl, by decide +kernel, nmX5, tyX5, tyX5_ok⟩
theorem gf_X5_52 : gfOK RX5 52 5 2 := ⟨_, rfl, inX5, by decide, xw_709⟩
theorem pf_X5_52 : pfOK RX5 52 5 2 .int := ⟨_, rfl, inX5, by decide, xw_709, rfl, by decide +kernel, nmX5, tyX5, tyX5_ok⟩
theorem gf_X5_61 : gfOK RX5 61 5 8 := ⟨_, rfl, inX5, by decide, xw_715⟩
theorem pf_X5_61 : pfOK RX5 61 5 8 .int := ⟨_, rfl, inX5, by decide, xw_715, rfl, by decide +kernel, nmX5, tyX5, tyX5_ok⟩
theorem gf_X5_72 : gfOK RX5 72 5 12 := ⟨_, rfl, inX5, by decide, xw_719⟩
theorem pf_X5_72 : pfOK RX5 72 5 12 .int := ⟨_, rfl, inX5, by decide, xw_719, rfl, by decide +kernel, nmX5, tyX5, tyX5_ok⟩
theorem gf_X5_75 : gfOK RX5 75 5 11 := ⟨_, rfl, inX5, by decide, xw_718⟩
theorem pf_X5_75 : pfOK RX5 75 5 11 .int := ⟨_, rfl, inX5, by decide, xw_718, rfl, by decide +kernel, nmX5, tyX5, tyX5_ok⟩
theorem gf_X5_109 : gfOK RX5 109 5 13 := ⟨_, rfl, inX5, by decide, xw_720⟩
theorem pf_X5_109 : pfOK RX5 109 5 13 .int := ⟨_, rfl, inX5, by decide, xw_720, rfl, by decide +kernel, nmX5, tyX5, tyX5_ok⟩
theorem gf_X5_118 : gfOK RX5 118 5 15 := ⟨_, rfl, inX5, by decide, xw_722⟩
theorem pf_X5_118 : pfOK RX5 118 5 15 .boolean := ⟨_, rfl, inX5, by decide, xw_722, rfl, by decide +kernel, nmX5, tyX5, tyX5_ok⟩
theorem gf_X5_126 : gfOK RX5 126 5 14 := ⟨_, rfl, inX5, by decide, xw_721⟩
theorem pf_X5_126 : pfOK RX5 126 5 14 .int := ⟨_, rfl, inX5, by decide, xw_721, rfl, by decide +kernel, nmX5, tyX5, tyX5_ok⟩
theorem gf_X5_136 : gfOK RX5 136 5 5 := ⟨_, rfl, inX5, by decide, xw_712⟩
theorem pf_X5_136 : pfOK RX5 136 5 5 .int := ⟨_, rfl, inX5, by decide, xw_712, rfl, by decide +kernel, nmX5, tyX5, tyX5_ok⟩
theorem gf_X5_188 : gfOK RX5 188 5 19 := ⟨_, rfl, inX5, by decide, xw_726⟩
theorem pf_X5_188 : pfOK RX5 188 5 19 .int := ⟨_, rfl, inX5, by decide, xw_726, rfl, by decide +kernel, nmX5, tyX5, tyX5_ok⟩
theorem ck_X1_hasRoomFor : ckOK yX1_hasRoomFor 1 := ⟨by decide +kernel, by decide +kernel, by decide +kernel⟩
theorem cv_X4_68 : cvOK RX4 mX1_hasRoomFor 68 1 := ⟨xw_249, xw_250, xw_251, xw_53, xw_252, ck_X1_hasRoomFor⟩
theorem ck_X1_putAt : ckOK yX1_putAt 2 := ⟨by decide +kernel, by decide +kernel, by decide +kernel⟩
theorem cv_X4_76 : cvOK RX4 mX1_putAt 76 2 := ⟨xw_253, xw_254, xw_255, xw_53, xw_256, ck_X1_putAt⟩
theorem ck_X4_readText : ckOK yX4_readText 0 := ⟨by decide +kernel, by decide +kernel, by decide +kernel⟩
theorem cv_X4_80 : cvOK RX4 mX4_readText 80 0 := ⟨xw_269, xw_271, xw_0, xw_52, xw_272, ck_X4_readText⟩
theorem ck_X2_copyFrom : ckOK yX2_copyFrom 1 := ⟨by decide +kernel, by decide +kernel, by decide +kernel⟩
theorem cv_X4_84 : cvOK RX4 mX2_copyFrom 84 1 := ⟨xw_273, xw_274, xw_275, xw_56, xw_276, ck_X2_copyFrom⟩
theorem ck_X0_forget : ckOK yX0_forget 0 := ⟨by decide +kernel, by decide +kernel, by decide +kernel⟩
theorem cv_X4_88 : cvOK RX4 mX0_forget 88 0 := ⟨xw_424, xw_425, xw_426, xw_57, xw_427, ck_X0_forget⟩
theorem ck_X4_forgetKept : ckOK yX4_forgetKept 0 := ⟨by decide +kernel, by decide +kernel, by decide +kernel⟩
theorem cv_X4_91 : cvOK RX4 mX4_forgetKept 91 0 := ⟨xw_428, xw_430, xw_11, xw_52, xw_431, ck_X4_forgetKept⟩
theorem ck_X4_dropAllSlips : ckOK yX4_dropAllSlips 0 := ⟨by decide +kernel, by decide +kernel, by decide +kernel⟩
theorem cv_X4_94 : cvOK RX4 mX4_dropAllSlips 94 0 := ⟨xw_432, xw_434, xw_12, xw_52, xw_435, ck_X4_dropAllSlips⟩
theorem ck_X2_hasJudge : ckOK yX2_hasJudge 1 := ⟨by decide +kernel, by decide +kernel, by decide +kernel⟩
theorem cv_X4_100 : cvOK RX4 mX2_hasJudge 100 1 := ⟨xw_440, xw_441, xw_442, xw_56, xw_443, ck_X2_hasJudge⟩
theorem ck_X2_isAway : ckOK yX2_isAway 1 := ⟨by decide +kernel, by decide +kernel, by decide +kernel⟩
theorem cv_X4_113 : cvOK RX4 mX2_isAway 113 1 := ⟨xw_444, xw_445, xw_446, xw_56, xw_447, ck_X2_isAway⟩
theorem ck_X2_casesOf : ckOK yX2_casesOf 1 := ⟨by decide +kernel, by decide +kernel, by decide +kernel⟩
theorem cv_X4_119 : cvOK RX4 mX2_casesOf 119 1 := ⟨xw_448, xw_449, xw_450, xw_56, xw_451, ck_X2_casesOf⟩
theorem ck_X2_hasCase : ckOK yX2_hasCase 1 := ⟨by decide +kernel, by decide +kernel, by decide +kernel⟩
theorem cv_X4_123 : cvOK RX4 mX2_hasCase 123 1 := ⟨xw_456, xw_457, xw_458, xw_56, xw_459, ck_X2_hasCase⟩
theorem ck_X4_isSeed : ckOK yX4_isSeed 1 := ⟨by decide +kernel, by decide +kernel, by decide +kernel⟩
theorem cs_X4_135 : csOK RX4 mX4_isSeed 135 1 := ⟨xw_464, xw_465, xw_52, xw_466, ck_X4_isSeed⟩
theorem ck_X2_startAnew : ckOK yX2_startAnew 1 := ⟨by decide +kernel, by decide +kernel, by decide +kernel⟩
theorem cv_X4_141 : cvOK RX4 mX2_startAnew 141 1 := ⟨xw_467, xw_358, xw_359, xw_56, xw_360, ck_X2_startAnew⟩
theorem ck_X4_isSubject : ckOK yX4_isSubject 1 := ⟨by decide +kernel, by decide +kernel, by decide +kernel⟩
theorem cs_X4_144 : csOK RX4 mX4_isSubject 144 1 := ⟨xw_472, xw_382, xw_52, xw_383, ck_X4_isSubject⟩
theorem ck_X4_isParty : ckOK yX4_isParty 1 := ⟨by decide +kernel, by decide +kernel, by decide +kernel⟩
theorem cs_X4_147 : csOK RX4 mX4_isParty 147 1 := ⟨xw_473, xw_474, xw_52, xw_475, ck_X4_isParty⟩
theorem ck_X2_hasSomeoneFor : ckOK yX2_hasSomeoneFor 2 := ⟨by decide +kernel, by decide +kernel, by decide +kernel⟩
theorem cv_X4_150 : cvOK RX4 mX2_hasSomeoneFor 150 2 := ⟨xw_476, xw_477, xw_478, xw_56, xw_479, ck_X2_hasSomeoneFor⟩
theorem ck_X0_remember : ckOK yX0_remember 1 := ⟨by decide +kernel, by decide +kernel, by decide +kernel⟩
theorem cv_X4_154 : cvOK RX4 mX0_remember 154 1 := ⟨xw_489, xw_490, xw_491, xw_57, xw_492, ck_X0_remember⟩
theorem ck_X2_addCase : ckOK yX2_addCase 2 := ⟨by decide +kernel, by decide +kernel, by decide +kernel⟩
theorem cv_X4_157 : cvOK RX4 mX2_addCase 157 2 := ⟨xw_494, xw_495, xw_496, xw_56, xw_497, ck_X2_addCase⟩
theorem ck_X2_drawCaseAgain : ckOK yX2_drawCaseAgain 1 := ⟨by decide +kernel, by decide +kernel, by decide +kernel⟩
theorem cv_X4_161 : cvOK RX4 mX2_drawCaseAgain 161 1 := ⟨xw_535, xw_536, xw_537, xw_56, xw_538, ck_X2_drawCaseAgain⟩
theorem ck_X0_takeBack : ckOK yX0_takeBack 1 := ⟨by decide +kernel, by decide +kernel, by decide +kernel⟩
theorem cv_X4_170 : cvOK RX4 mX0_takeBack 170 1 := ⟨xw_547, xw_548, xw_549, xw_57, xw_550, ck_X0_takeBack⟩
theorem ck_X4_writeDocket : ckOK yX4_writeDocket 0 := ⟨by decide +kernel, by decide +kernel, by decide +kernel⟩
theorem cv_X4_173 : cvOK RX4 mX4_writeDocket 173 0 := ⟨xw_563, xw_565, xw_17, xw_52, xw_566, ck_X4_writeDocket⟩
theorem ck_X4_turned : ckOK yX4_turned 1 := ⟨by decide +kernel, by decide +kernel, by decide +kernel⟩
theorem cs_X4_180 : csOK RX4 mX4_turned 180 1 := ⟨xw_577, xw_518, xw_52, xw_519, ck_X4_turned⟩
theorem ck_X2_weightOf : ckOK yX2_weightOf 2 := ⟨by decide +kernel, by decide +kernel, by decide +kernel⟩
theorem cv_X4_183 : cvOK RX4 mX2_weightOf 183 2 := ⟨xw_582, xw_507, xw_508, xw_56, xw_509, ck_X2_weightOf⟩
theorem ck_X2_isFreeFor : ckOK yX2_isFreeFor 2 := ⟨by decide +kernel, by decide +kernel, by decide +kernel⟩
theorem cv_X4_186 : cvOK RX4 mX2_isFreeFor 186 2 := ⟨xw_587, xw_481, xw_482, xw_56, xw_483, ck_X2_isFreeFor⟩
theorem ck_X2_weightsFreeFor : ckOK yX2_weightsFreeFor 2 := ⟨by decide +kernel, by decide +kernel, by decide +kernel⟩
theorem cv_X4_189 : cvOK RX4 mX2_weightsFreeFor 189 2 := ⟨xw_588, xw_589, xw_590, xw_56, xw_591, ck_X2_weightsFreeFor⟩
theorem ck_X4_commonDivisor : ckOK yX4_commonDivisor 2 := ⟨by decide +kernel, by decide +kernel, by decide +kernel⟩
theorem cs_X4_192 : csOK RX4 mX4_commonDivisor 192 2 := ⟨xw_592, xw_593, xw_52, xw_594, ck_X4_commonDivisor⟩
theorem ck_X2_drawJudge : ckOK yX2_drawJudge 2 := ⟨by decide +kernel, by decide +kernel, by decide +kernel⟩
theorem cv_X4_195 : cvOK RX4 mX2_drawJudge 195 2 := ⟨xw_601, xw_499, xw_500, xw_56, xw_501, ck_X2_drawJudge⟩
theorem ck_X2_everyCaseHasSomeone : ckOK yX2_everyCaseHasSomeone 0 := ⟨by decide +kernel, by decide +kernel, by decide +kernel⟩
theorem cv_X4_198 : cvOK RX4 mX2_everyCaseHasSomeone 198 0 := ⟨xw_606, xw_607, xw_608, xw_56, xw_609, ck_X2_everyCaseHasSomeone⟩
theorem ck_X4_recountBy : ckOK yX4_recountBy 2 := ⟨by decide +kernel, by decide +kernel, by decide +kernel⟩
theorem cv_X4_202 : cvOK RX4 mX4_recountBy 202 2 := ⟨xw_611, xw_613, xw_18, xw_52, xw_614, ck_X4_recountBy⟩
theorem ck_X4_isSlip : ckOK yX4_isSlip 1 := ⟨by decide +kernel, by decide +kernel, by decide +kernel⟩
theorem cs_X4_208 : csOK RX4 mX4_isSlip 208 1 := ⟨xw_623, xw_624, xw_52, xw_625, ck_X4_isSlip⟩
theorem ck_X4_isSlipLetter : ckOK yX4_isSlipLetter 1 := ⟨by decide +kernel, by decide +kernel, by decide +kernel⟩
theorem cs_X4_211 : csOK RX4 mX4_isSlipLetter 211 1 := ⟨xw_630, xw_631, xw_52, xw_632, ck_X4_isSlipLetter⟩
theorem ck_X1_removeSpan : ckOK yX1_removeSpan 2 := ⟨by decide +kernel, by decide +kernel, by decide +kernel⟩
theorem cv_X4_214 : cvOK RX4 mX1_removeSpan 214 2 := ⟨xw_639, xw_640, xw_641, xw_53, xw_642, ck_X1_removeSpan⟩
theorem ck_X1_appendAll : ckOK yX1_appendAll 1 := ⟨by decide +kernel, by decide +kernel, by decide +kernel⟩
theorem cv_X4_217 : cvOK RX4 mX1_appendAll 217 1 := ⟨xw_647, xw_648, xw_649, xw_53, xw_650, ck_X1_appendAll⟩
theorem ck_X1_placeOf : ckOK yX1_placeOf 1 := ⟨by decide +kernel, by decide +kernel, by decide +kernel⟩
theorem cv_X4_220 : cvOK RX4 mX1_placeOf 220 1 := ⟨xw_659, xw_660, xw_661, xw_53, xw_662, ck_X1_placeOf⟩
theorem ck_X1_numberAt : ckOK yX1_numberAt 3 := ⟨by decide +kernel, by decide +kernel, by decide +kernel⟩
theorem cv_X4_224 : cvOK RX4 mX1_numberAt 224 3 := ⟨xw_671, xw_374, xw_375, xw_53, xw_376, ck_X1_numberAt⟩
theorem ck_X1_ruleAt : ckOK yX1_ruleAt 2 := ⟨by decide +kernel, by decide +kernel, by decide +kernel⟩
theorem cv_X4_228 : cvOK RX4 mX1_ruleAt 228 2 := ⟨xw_676, xw_404, xw_405, xw_53, xw_406, ck_X1_ruleAt⟩
theorem ck_X4_lettersOfWriting : ckOK yX4_lettersOfWriting 0 := ⟨by decide +kernel, by decide +kernel, by decide +kernel⟩
theorem cv_X4_237 : cvOK RX4 mX4_lettersOfWriting 237 0 := ⟨xw_685, xw_687, xw_20, xw_52, xw_688, ck_X4_lettersOfWriting⟩
theorem ck_X4_lettersOfSlips : ckOK yX4_lettersOfSlips 0 := ⟨by decide +kernel, by decide +kernel, by decide +kernel⟩
theorem cv_X4_240 : cvOK RX4 mX4_lettersOfSlips 240 0 := ⟨xw_689, xw_691, xw_21, xw_52, xw_692, ck_X4_lettersOfSlips⟩
theorem ck_X4_isSmallLetter : ckOK yX4_isSmallLetter 1 := ⟨by decide +kernel, by decide +kernel, by decide +kernel⟩
theorem cs_X4_246 : csOK RX4 mX4_isSmallLetter 246 1 := ⟨xw_633, xw_287, xw_52, xw_288, ck_X4_isSmallLetter⟩
theorem ck_X4_isDigit : ckOK yX4_isDigit 1 := ⟨by decide +kernel, by decide +kernel, by decide +kernel⟩
theorem cs_X4_249 : csOK RX4 mX4_isDigit 249 1 := ⟨xw_634, xw_290, xw_52, xw_291, ck_X4_isDigit⟩
theorem ck_J9_max_7cf53 : ckOK yJ9_max_7cf53 2 := ⟨by decide +kernel, by decide +kernel, by decide +kernel⟩
theorem cs_X4_259 : csOK RX4 mJ9_max_7cf53 259 2 := ⟨xw_595, xw_80, xw_54, xw_81, ck_J9_max_7cf53⟩
theorem ck_X3_readInto : ckOK yX3_readInto 1 := ⟨by decide +kernel, by decide +kernel, by decide +kernel⟩
theorem cv_X4_265 : cvOK RX4 mX3_readInto 265 1 := ⟨xw_278, xw_279, xw_280, xw_55, xw_281, ck_X3_readInto⟩
theorem ck_X1_append : ckOK yX1_append 1 := ⟨by decide +kernel, by decide +kernel, by decide +kernel⟩
theorem cv_X4_269 : cvOK RX4 mX1_append 269 1 := ⟨xw_567, xw_568, xw_569, xw_53, xw_570, ck_X1_append⟩
theorem cv_X0_25 : cvOK RX0 mX2_copyFrom 25 1 := ⟨xw_493, xw_274, xw_275, xw_56, xw_276, ck_X2_copyFrom⟩
theorem cs_X1_9 : csOK RX1 mJ9_max_7cf53 9 2 := ⟨xw_79, xw_80, xw_54, xw_81, ck_J9_max_7cf53⟩
theorem cv_X1_25 : cvOK RX1 mX1_putAt 25 2 := ⟨xw_571, xw_254, xw_255, xw_53, xw_256, ck_X1_putAt⟩
theorem cv_X1_29 : cvOK RX1 mX1_hasRoomFor 29 1 := ⟨xw_257, xw_250, xw_251, xw_53, xw_252, ck_X1_hasRoomFor⟩
theorem ck_X1_standsAt : ckOK yX1_standsAt 2 := ⟨by decide +kernel, by decide +kernel, by decide +kernel⟩
theorem cv_X1_39 : cvOK RX1 mX1_standsAt 39 2 := ⟨xw_663, xw_665, xw_19, xw_53, xw_666, ck_X1_standsAt⟩
theorem ck_J0_length_8abf5 : ckOK yJ0_length_8abf5 0 := ⟨by decide +kernel, by decide +kernel, by decide +kernel⟩
theorem cv_X1_43 : cvOK RX1 mJ0_length_8abf5 43 0 := ⟨xw_305, xw_306, xw_307, xw_60, xw_308, ck_J0_length_8abf5⟩
theorem ck_J0_charAt_5068e : ckOK yJ0_charAt_5068e 1 := ⟨by decide +kernel, by decide +kernel, by decide +kernel⟩
theorem cv_X1_48 : cvOK RX1 mJ0_charAt_5068e 48 1 := ⟨xw_315, xw_316, xw_317, xw_60, xw_318, ck_J0_charAt_5068e⟩
theorem ck_X4_ruleName : ckOK yX4_ruleName 1 := ⟨by decide +kernel, by decide +kernel, by decide +kernel⟩
theorem cn_X1_52 : cnOK RX1 mX4_ruleName 52 1 := ⟨by decide +kernel, xw_408, xw_52, xw_409, ck_X4_ruleName⟩
theorem ck_X1_isWordAt : ckOK yX1_isWordAt 3 := ⟨by decide +kernel, by decide +kernel, by decide +kernel⟩
theorem cv_X1_56 : cvOK RX1 mX1_isWordAt 56 3 := ⟨xw_414, xw_302, xw_303, xw_53, xw_304, ck_X1_isWordAt⟩
theorem cv_X2_64 : cvOK RX2 mX2_startAnew 64 1 := ⟨xw_357, xw_358, xw_359, xw_56, xw_360, ck_X2_startAnew⟩
theorem ck_J7_fill_53178 : ckOK yJ7_fill_53178 2 := ⟨by decide +kernel, by decide +kernel, by decide +kernel⟩
theorem cs_X2_68 : csOK RX2 mJ7_fill_53178 68 2 := ⟨xw_361, xw_362, xw_64, xw_363, ck_J7_fill_53178⟩
theorem cv_X2_74 : cvOK RX2 mX2_isAway 74 1 := ⟨xw_484, xw_445, xw_446, xw_56, xw_447, ck_X2_isAway⟩
theorem ck_X2_isBarred : ckOK yX2_isBarred 2 := ⟨by decide +kernel, by decide +kernel, by decide +kernel⟩
theorem cv_X2_78 : cvOK RX2 mX2_isBarred 78 2 := ⟨xw_485, xw_486, xw_487, xw_56, xw_488, ck_X2_isBarred⟩
theorem cv_X2_82 : cvOK RX2 mX2_isFreeFor 82 2 := ⟨xw_480, xw_481, xw_482, xw_56, xw_483, ck_X2_isFreeFor⟩
theorem cv_X2_85 : cvOK RX2 mX2_hasSomeoneFor 85 2 := ⟨xw_610, xw_477, xw_478, xw_56, xw_479, ck_X2_hasSomeoneFor⟩
theorem cs_X2_88 : csOK RX2 mJ9_max_7cf53 88 2 := ⟨xw_510, xw_80, xw_54, xw_81, ck_J9_max_7cf53⟩
theorem cv_X2_94 : cvOK RX2 mX2_weightOf 94 2 := ⟨xw_506, xw_507, xw_508, xw_56, xw_509, ck_X2_weightOf⟩
theorem ck_X2_weighAll : ckOK yX2_weighAll 1 := ⟨by decide +kernel, by decide +kernel, by decide +kernel⟩
theorem cv_X2_97 : cvOK RX2 mX2_weighAll 97 1 := ⟨xw_502, xw_504, xw_13, xw_56, xw_505, ck_X2_weighAll⟩
theorem ck_X2_drawBelow : ckOK yX2_drawBelow 1 := ⟨by decide +kernel, by decide +kernel, by decide +kernel⟩
theorem cv_X2_102 : cvOK RX2 mX2_drawBelow 102 1 := ⟨xw_512, xw_514, xw_14, xw_56, xw_515, ck_X2_drawBelow⟩
theorem ck_X2_judgeReaching : ckOK yX2_judgeReaching 1 := ⟨by decide +kernel, by decide +kernel, by decide +kernel⟩
theorem cv_X2_105 : cvOK RX2 mX2_judgeReaching 105 1 := ⟨xw_520, xw_522, xw_15, xw_56, xw_523, ck_X2_judgeReaching⟩
theorem cn_X2_110 : cnOK RX2 mX4_turned 110 1 := ⟨by decide +kernel, xw_518, xw_52, xw_519, ck_X4_turned⟩
theorem ck_J9_min_7cf53 : ckOK yJ9_min_7cf53 2 := ⟨by decide +kernel, by decide +kernel, by decide +kernel⟩
theorem cs_X2_113 : csOK RX2 mJ9_min_7cf53 113 2 := ⟨xw_528, xw_529, xw_54, xw_530, ck_J9_min_7cf53⟩
theorem cv_X2_116 : cvOK RX2 mX2_drawJudge 116 2 := ⟨xw_498, xw_499, xw_500, xw_56, xw_501, ck_X2_drawJudge⟩
theorem ck_X2_settleDebts : ckOK yX2_settleDebts 1 := ⟨by decide +kernel, by decide +kernel, by decide +kernel⟩
theorem cv_X2_119 : cvOK RX2 mX2_settleDebts 119 1 := ⟨xw_524, xw_526, xw_16, xw_56, xw_527, ck_X2_settleDebts⟩
theorem ck_X3_step : ckOK yX3_step 0 := ⟨by decide +kernel, by decide +kernel, by decide +kernel⟩
theorem cv_X3_22 : cvOK RX3 mX3_step 22 0 := ⟨xw_282, xw_284, xw_1, xw_55, xw_285, ck_X3_step⟩
theorem ck_X3_readClause : ckOK yX3_readClause 1 := ⟨by decide +kernel, by decide +kernel, by decide +kernel⟩
theorem cv_X3_25 : cvOK RX3 mX3_readClause 25 1 := ⟨xw_292, xw_294, xw_2, xw_55, xw_295, ck_X3_readClause⟩
theorem ck_X3_isOther : ckOK yX3_isOther 1 := ⟨by decide +kernel, by decide +kernel, by decide +kernel⟩
theorem cv_X3_35 : cvOK RX3 mX3_isOther 35 1 := ⟨xw_415, xw_417, xw_10, xw_55, xw_418, ck_X3_isOther⟩
theorem cn_X3_48 : cnOK RX3 mX4_isSmallLetter 48 1 := ⟨by decide +kernel, xw_287, xw_52, xw_288, ck_X4_isSmallLetter⟩
theorem cn_X3_51 : cnOK RX3 mX4_isDigit 51 1 := ⟨by decide +kernel, xw_290, xw_52, xw_291, ck_X4_isDigit⟩
theorem cv_X3_54 : cvOK RX3 mX1_isWordAt 54 3 := ⟨xw_301, xw_302, xw_303, xw_53, xw_304, ck_X1_isWordAt⟩
theorem cv_X3_58 : cvOK RX3 mX1_numberAt 58 3 := ⟨xw_373, xw_374, xw_375, xw_53, xw_376, ck_X1_numberAt⟩
theorem ck_X3_isWord : ckOK yX3_isWord 1 := ⟨by decide +kernel, by decide +kernel, by decide +kernel⟩
theorem cv_X3_64 : cvOK RX3 mX3_isWord 64 1 := ⟨xw_297, xw_299, xw_3, xw_55, xw_300, ck_X3_isWord⟩
theorem ck_X2_clearAll : ckOK yX2_clearAll 0 := ⟨by decide +kernel, by decide +kernel, by decide +kernel⟩
theorem cv_X3_68 : cvOK RX3 mX2_clearAll 68 0 := ⟨xw_353, xw_354, xw_355, xw_56, xw_356, ck_X2_clearAll⟩
theorem ck_X3_readJudge : ckOK yX3_readJudge 1 := ⟨by decide +kernel, by decide +kernel, by decide +kernel⟩
theorem cv_X3_75 : cvOK RX3 mX3_readJudge 75 1 := ⟨xw_365, xw_367, xw_4, xw_55, xw_368, ck_X3_readJudge⟩
theorem ck_X3_readBar : ckOK yX3_readBar 1 := ⟨by decide +kernel, by decide +kernel, by decide +kernel⟩
theorem cv_X3_80 : cvOK RX3 mX3_readBar 80 1 := ⟨xw_389, xw_391, xw_7, xw_55, xw_392, ck_X3_readBar⟩
theorem ck_X3_readAway : ckOK yX3_readAway 1 := ⟨by decide +kernel, by decide +kernel, by decide +kernel⟩
theorem cv_X3_85 : cvOK RX3 mX3_readAway 85 1 := ⟨xw_394, xw_396, xw_8, xw_55, xw_397, ck_X3_readAway⟩
theorem ck_X3_readRule : ckOK yX3_readRule 1 := ⟨by decide +kernel, by decide +kernel, by decide +kernel⟩
theorem cv_X3_90 : cvOK RX3 mX3_readRule 90 1 := ⟨xw_399, xw_401, xw_9, xw_55, xw_402, ck_X3_readRule⟩
theorem ck_X3_numberWithin : ckOK yX3_numberWithin 2 := ⟨by decide +kernel, by decide +kernel, by decide +kernel⟩
theorem cv_X3_96 : cvOK RX3 mX3_numberWithin 96 2 := ⟨xw_369, xw_371, xw_5, xw_55, xw_372, ck_X3_numberWithin⟩
theorem ck_X3_versedTold : ckOK yX3_versedTold 0 := ⟨by decide +kernel, by decide +kernel, by decide +kernel⟩
theorem cv_X3_100 : cvOK RX3 mX3_versedTold 100 0 := ⟨xw_377, xw_379, xw_6, xw_55, xw_380, ck_X3_versedTold⟩
theorem ck_X2_addJudge : ckOK yX2_addJudge 2 := ⟨by decide +kernel, by decide +kernel, by decide +kernel⟩
theorem cv_X3_104 : cvOK RX3 mX2_addJudge 104 2 := ⟨xw_384, xw_385, xw_386, xw_56, xw_387, ck_X2_addJudge⟩
theorem cn_X3_108 : cnOK RX3 mX4_isSubject 108 1 := ⟨by decide +kernel, xw_382, xw_52, xw_383, ck_X4_isSubject⟩
theorem cv_X3_116 : cvOK RX3 mX1_ruleAt 116 2 := ⟨xw_403, xw_404, xw_405, xw_53, xw_406, ck_X1_ruleAt⟩
theorem ck_X4_write : ckOK yX4_write 1 := ⟨by decide +kernel, by decide +kernel, by decide +kernel⟩
theorem cv_L_13 : cvOK RL mX4_write 13 1 := ⟨xw_245, xw_246, xw_247, xw_52, xw_248, ck_X4_write⟩
theorem ck_X5_write : ckOK yX5_write 1 := ⟨by decide +kernel, by decide +kernel, by decide +kernel⟩
theorem cv_L_17 : cvOK RL mX5_write 17 1 := ⟨xw_768, xw_769, xw_770, xw_58, xw_771, ck_X5_write⟩
theorem ck_X4_erase : ckOK yX4_erase 0 := ⟨by decide +kernel, by decide +kernel, by decide +kernel⟩
theorem cv_L_18 : cvOK RL mX4_erase 18 0 := ⟨xw_261, xw_262, xw_263, xw_52, xw_264, ck_X4_erase⟩
theorem ck_X5_erase : ckOK yX5_erase 0 := ⟨by decide +kernel, by decide +kernel, by decide +kernel⟩
theorem cv_L_22 : cvOK RL mX5_erase 22 0 := ⟨xw_776, xw_777, xw_778, xw_58, xw_779, ck_X5_erase⟩
theorem ck_X4_fault : ckOK yX4_fault 0 := ⟨by decide +kernel, by decide +kernel, by decide +kernel⟩
theorem cv_L_23 : cvOK RL mX4_fault 23 0 := ⟨xw_265, xw_266, xw_267, xw_52, xw_268, ck_X4_fault⟩
theorem ck_X5_fault : ckOK yX5_fault 0 := ⟨by decide +kernel, by decide +kernel, by decide +kernel⟩
theorem cv_L_26 : cvOK RL mX5_fault 26 0 := ⟨xw_780, xw_781, xw_782, xw_58, xw_783, ck_X5_fault⟩
theorem ck_X4_wheel : ckOK yX4_wheel 0 := ⟨by decide +kernel, by decide +kernel, by decide +kernel⟩
theorem cv_L_27 : cvOK RL mX4_wheel 27 0 := ⟨xw_420, xw_421, xw_422, xw_52, xw_423, ck_X4_wheel⟩
theorem ck_X5_wheel : ckOK yX5_wheel 0 := ⟨by decide +kernel, by decide +kernel, by decide +kernel⟩
theorem cv_L_30 : cvOK RL mX5_wheel 30 0 := ⟨xw_838, xw_839, xw_840, xw_58, xw_841, ck_X5_wheel⟩
theorem ck_X4_judge : ckOK yX4_judge 2 := ⟨by decide +kernel, by decide +kernel, by decide +kernel⟩
theorem cv_L_31 : cvOK RL mX4_judge 31 2 := ⟨xw_436, xw_437, xw_438, xw_52, xw_439, ck_X4_judge⟩
theorem ck_X5_judge : ckOK yX5_judge 2 := ⟨by decide +kernel, by decide +kernel, by decide +kernel⟩
theorem cv_L_35 : cvOK RL mX5_judge 35 2 := ⟨xw_842, xw_843, xw_844, xw_58, xw_845, ck_X5_judge⟩
theorem ck_X4_caseOf : ckOK yX4_caseOf 2 := ⟨by decide +kernel, by decide +kernel, by decide +kernel⟩
theorem cv_L_36 : cvOK RL mX4_caseOf 36 2 := ⟨xw_452, xw_453, xw_454, xw_52, xw_455, ck_X4_caseOf⟩
theorem ck_X5_caseOf : ckOK yX5_caseOf 2 := ⟨by decide +kernel, by decide +kernel, by decide +kernel⟩
theorem cv_L_39 : cvOK RL mX5_caseOf 39 2 := ⟨xw_850, xw_851, xw_852, xw_58, xw_853, ck_X5_caseOf⟩
theorem ck_X4_seal : ckOK yX4_seal 1 := ⟨by decide +kernel, by decide +kernel, by decide +kernel⟩
theorem cv_L_40 : cvOK RL mX4_seal 40 1 := ⟨xw_460, xw_461, xw_462, xw_52, xw_463, ck_X4_seal⟩
theorem ck_X5_seal : ckOK yX5_seal 1 := ⟨by decide +kernel, by decide +kernel, by decide +kernel⟩
theorem cv_L_43 : cvOK RL mX5_seal 43 1 := ⟨xw_858, xw_859, xw_860, xw_58, xw_861, ck_X5_seal⟩
theorem ck_X4_assign : ckOK yX4_assign 2 := ⟨by decide +kernel, by decide +kernel, by decide +kernel⟩
theorem cv_L_44 : cvOK RL mX4_assign 44 2 := ⟨xw_468, xw_469, xw_470, xw_52, xw_471, ck_X4_assign⟩
theorem ck_X5_assign : ckOK yX5_assign 2 := ⟨by decide +kernel, by decide +kernel, by decide +kernel⟩
theorem cv_L_47 : cvOK RL mX5_assign 47 2 := ⟨xw_866, xw_867, xw_868, xw_58, xw_869, ck_X5_assign⟩
theorem ck_X4_refuse : ckOK yX4_refuse 1 := ⟨by decide +kernel, by decide +kernel, by decide +kernel⟩
theorem cv_L_48 : cvOK RL mX4_refuse 48 1 := ⟨xw_531, xw_532, xw_533, xw_52, xw_534, ck_X4_refuse⟩
theorem ck_X5_refuse : ckOK yX5_refuse 1 := ⟨by decide +kernel, by decide +kernel, by decide +kernel⟩
theorem cv_L_51 : cvOK RL mX5_refuse 51 1 := ⟨xw_914, xw_915, xw_916, xw_58, xw_917, ck_X5_refuse⟩
theorem ck_X4_away : ckOK yX4_away 2 := ⟨by decide +kernel, by decide +kernel, by decide +kernel⟩
theorem cv_L_52 : cvOK RL mX4_away 52 2 := ⟨xw_539, xw_540, xw_541, xw_52, xw_542, ck_X4_away⟩
theorem ck_X5_away : ckOK yX5_away 2 := ⟨by decide +kernel, by decide +kernel, by decide +kernel⟩
theorem cv_L_55 : cvOK RL mX5_away 55 2 := ⟨xw_918, xw_919, xw_920, xw_58, xw_921, ck_X5_away⟩
theorem ck_X4_undo : ckOK yX4_undo 0 := ⟨by decide +kernel, by decide +kernel, by decide +kernel⟩
theorem cv_L_56 : cvOK RL mX4_undo 56 0 := ⟨xw_543, xw_544, xw_545, xw_52, xw_546, ck_X4_undo⟩
theorem ck_X5_undo : ckOK yX5_undo 0 := ⟨by decide +kernel, by decide +kernel, by decide +kernel⟩
theorem cv_L_59 : cvOK RL mX5_undo 59 0 := ⟨xw_922, xw_923, xw_924, xw_58, xw_925, ck_X5_undo⟩
theorem ck_X4_keep : ckOK yX4_keep 1 := ⟨by decide +kernel, by decide +kernel, by decide +kernel⟩
theorem cv_L_60 : cvOK RL mX4_keep 60 1 := ⟨xw_551, xw_552, xw_553, xw_52, xw_554, ck_X4_keep⟩
theorem ck_X5_keep : ckOK yX5_keep 1 := ⟨by decide +kernel, by decide +kernel, by decide +kernel⟩
theorem cv_L_63 : cvOK RL mX5_keep 63 1 := ⟨xw_926, xw_927, xw_928, xw_58, xw_929, ck_X5_keep⟩
theorem ck_X4_back : ckOK yX4_back 1 := ⟨by decide +kernel, by decide +kernel, by decide +kernel⟩
theorem cv_L_64 : cvOK RL mX4_back 64 1 := ⟨xw_555, xw_556, xw_557, xw_52, xw_558, ck_X4_back⟩
theorem ck_X5_back : ckOK yX5_back 1 := ⟨by decide +kernel, by decide +kernel, by decide +kernel⟩
theorem cv_L_67 : cvOK RL mX5_back 67 1 := ⟨xw_930, xw_931, xw_932, xw_58, xw_933, ck_X5_back⟩
theorem ck_X4_writing : ckOK yX4_writing 1 := ⟨by decide +kernel, by decide +kernel, by decide +kernel⟩
theorem cv_L_68 : cvOK RL mX4_writing 68 1 := ⟨xw_559, xw_560, xw_561, xw_52, xw_562, ck_X4_writing⟩
theorem ck_X5_writing : ckOK yX5_writing 1 := ⟨by decide +kernel, by decide +kernel, by decide +kernel⟩
theorem cv_L_71 : cvOK RL mX5_writing 71 1 := ⟨xw_934, xw_935, xw_936, xw_58, xw_937, ck_X5_writing⟩
theorem ck_X4_sealOf : ckOK yX4_sealOf 2 := ⟨by decide +kernel, by decide +kernel, by decide +kernel⟩
theorem cv_L_72 : cvOK RL mX4_sealOf 72 2 := ⟨xw_572, xw_573, xw_574, xw_52, xw_575, ck_X4_sealOf⟩
theorem ck_X5_sealOf : ckOK yX5_sealOf 2 := ⟨by decide +kernel, by decide +kernel, by decide +kernel⟩
theorem cv_L_75 : cvOK RL mX5_sealOf 75 2 := ⟨xw_946, xw_947, xw_948, xw_58, xw_949, ck_X5_sealOf⟩
theorem ck_X4_weight : ckOK yX4_weight 2 := ⟨by decide +kernel, by decide +kernel, by decide +kernel⟩
theorem cv_L_76 : cvOK RL mX4_weight 76 2 := ⟨xw_578, xw_579, xw_580, xw_52, xw_581, ck_X4_weight⟩
theorem ck_X5_weight : ckOK yX5_weight 2 := ⟨by decide +kernel, by decide +kernel, by decide +kernel⟩
theorem cv_L_79 : cvOK RL mX5_weight 79 2 := ⟨xw_952, xw_953, xw_954, xw_58, xw_955, ck_X5_weight⟩
theorem ck_X4_odds : ckOK yX4_odds 4 := ⟨by decide +kernel, by decide +kernel, by decide +kernel⟩
theorem cv_L_80 : cvOK RL mX4_odds 80 4 := ⟨xw_583, xw_584, xw_585, xw_52, xw_586, ck_X4_odds⟩
theorem ck_X5_odds : ckOK yX5_odds 4 := ⟨by decide +kernel, by decide +kernel, by decide +kernel⟩
theorem cv_L_84 : cvOK RL mX5_odds 84 4 := ⟨xw_956, xw_957, xw_958, xw_58, xw_959, ck_X5_odds⟩
theorem ck_X4_next : ckOK yX4_next 2 := ⟨by decide +kernel, by decide +kernel, by decide +kernel⟩
theorem cv_L_85 : cvOK RL mX4_next 85 2 := ⟨xw_597, xw_598, xw_599, xw_52, xw_600, ck_X4_next⟩
theorem ck_X5_next : ckOK yX5_next 2 := ⟨by decide +kernel, by decide +kernel, by decide +kernel⟩
theorem cv_L_88 : cvOK RL mX5_next 88 2 := ⟨xw_960, xw_961, xw_962, xw_58, xw_963, ck_X5_next⟩
theorem ck_X4_count : ckOK yX4_count 2 := ⟨by decide +kernel, by decide +kernel, by decide +kernel⟩
theorem cv_L_89 : cvOK RL mX4_count 89 2 := ⟨xw_602, xw_603, xw_604, xw_52, xw_605, ck_X4_count⟩
theorem ck_X5_count : ckOK yX5_count 2 := ⟨by decide +kernel, by decide +kernel, by decide +kernel⟩
theorem cv_L_92 : cvOK RL mX5_count 92 2 := ⟨xw_964, xw_965, xw_966, xw_58, xw_967, ck_X5_count⟩
theorem ck_X4_like : ckOK yX4_like 1 := ⟨by decide +kernel, by decide +kernel, by decide +kernel⟩
theorem cv_L_93 : cvOK RL mX4_like 93 1 := ⟨xw_615, xw_616, xw_617, xw_52, xw_618, ck_X4_like⟩
theorem ck_X5_like : ckOK yX5_like 1 := ⟨by decide +kernel, by decide +kernel, by decide +kernel⟩
theorem cv_L_96 : cvOK RL mX5_like 96 1 := ⟨xw_976, xw_977, xw_978, xw_58, xw_979, ck_X5_like⟩
theorem ck_X4_slip : ckOK yX4_slip 1 := ⟨by decide +kernel, by decide +kernel, by decide +kernel⟩
theorem cv_L_97 : cvOK RL mX4_slip 97 1 := ⟨xw_619, xw_620, xw_621, xw_52, xw_622, ck_X4_slip⟩
theorem ck_X5_slip : ckOK yX5_slip 1 := ⟨by decide +kernel, by decide +kernel, by decide +kernel⟩
theorem cv_L_100 : cvOK RL mX5_slip 100 1 := ⟨xw_981, xw_982, xw_983, xw_58, xw_984, ck_X5_slip⟩
theorem ck_X4_insert : ckOK yX4_insert 3 := ⟨by decide +kernel, by decide +kernel, by decide +kernel⟩
theorem cv_L_101 : cvOK RL mX4_insert 101 3 := ⟨xw_626, xw_627, xw_628, xw_52, xw_629, ck_X4_insert⟩
theorem ck_X5_insert : ckOK yX5_insert 3 := ⟨by decide +kernel, by decide +kernel, by decide +kernel⟩
theorem cv_L_105 : cvOK RL mX5_insert 105 3 := ⟨xw_989, xw_990, xw_991, xw_58, xw_992, ck_X5_insert⟩
theorem ck_X4_cut : ckOK yX4_cut 3 := ⟨by decide +kernel, by decide +kernel, by decide +kernel⟩
theorem cv_L_106 : cvOK RL mX4_cut 106 3 := ⟨xw_635, xw_636, xw_637, xw_52, xw_638, ck_X4_cut⟩
theorem ck_X5_cut : ckOK yX5_cut 3 := ⟨by decide +kernel, by decide +kernel, by decide +kernel⟩
theorem cv_L_109 : cvOK RL mX5_cut 109 3 := ⟨xw_993, xw_994, xw_995, xw_58, xw_996, ck_X5_cut⟩
theorem ck_X4_join : ckOK yX4_join 2 := ⟨by decide +kernel, by decide +kernel, by decide +kernel⟩
theorem cv_L_110 : cvOK RL mX4_join 110 2 := ⟨xw_643, xw_644, xw_645, xw_52, xw_646, ck_X4_join⟩
theorem ck_X5_join : ckOK yX5_join 2 := ⟨by decide +kernel, by decide +kernel, by decide +kernel⟩
theorem cv_L_113 : cvOK RL mX5_join 113 2 := ⟨xw_997, xw_998, xw_999, xw_58, xw_1000, ck_X5_join⟩
theorem ck_X4_letter : ckOK yX4_letter 2 := ⟨by decide +kernel, by decide +kernel, by decide +kernel⟩
theorem cv_L_114 : cvOK RL mX4_letter 114 2 := ⟨xw_651, xw_652, xw_653, xw_52, xw_654, ck_X4_letter⟩
theorem ck_X5_letter : ckOK yX5_letter 2 := ⟨by decide +kernel, by decide +kernel, by decide +kernel⟩
theorem cv_L_117 : cvOK RL mX5_letter 117 2 := ⟨xw_1001, xw_1002, xw_1003, xw_58, xw_1004, ck_X5_letter⟩
theorem ck_X4_find : ckOK yX4_find 2 := ⟨by decide +kernel, by decide +kernel, by decide +kernel⟩
theorem cv_L_118 : cvOK RL mX4_find 118 2 := ⟨xw_655, xw_656, xw_657, xw_52, xw_658, ck_X4_find⟩
theorem ck_X5_find : ckOK yX5_find 2 := ⟨by decide +kernel, by decide +kernel, by decide +kernel⟩
theorem cv_L_121 : cvOK RL mX5_find 121 2 := ⟨xw_1005, xw_1006, xw_1007, xw_58, xw_1008, ck_X5_find⟩
theorem ck_X4_value : ckOK yX4_value 1 := ⟨by decide +kernel, by decide +kernel, by decide +kernel⟩
theorem cv_L_122 : cvOK RL mX4_value 122 1 := ⟨xw_667, xw_668, xw_669, xw_52, xw_670, ck_X4_value⟩
theorem ck_X5_value : ckOK yX5_value 1 := ⟨by decide +kernel, by decide +kernel, by decide +kernel⟩
theorem cv_L_125 : cvOK RL mX5_value 125 1 := ⟨xw_1014, xw_1015, xw_1016, xw_58, xw_1017, ck_X5_value⟩
theorem ck_X4_named : ckOK yX4_named 1 := ⟨by decide +kernel, by decide +kernel, by decide +kernel⟩
theorem cv_L_126 : cvOK RL mX4_named 126 1 := ⟨xw_672, xw_673, xw_674, xw_52, xw_675, ck_X4_named⟩
theorem ck_X5_named : ckOK yX5_named 1 := ⟨by decide +kernel, by decide +kernel, by decide +kernel⟩
theorem cv_L_129 : cvOK RL mX5_named 129 1 := ⟨xw_1018, xw_1019, xw_1020, xw_58, xw_1021, ck_X5_named⟩
theorem ck_X4_drop : ckOK yX4_drop 1 := ⟨by decide +kernel, by decide +kernel, by decide +kernel⟩
theorem cv_L_130 : cvOK RL mX4_drop 130 1 := ⟨xw_677, xw_678, xw_679, xw_52, xw_680, ck_X4_drop⟩
theorem ck_X5_drop : ckOK yX5_drop 1 := ⟨by decide +kernel, by decide +kernel, by decide +kernel⟩
theorem cv_L_133 : cvOK RL mX5_drop 133 1 := ⟨xw_1023, xw_1024, xw_1025, xw_58, xw_1026, ck_X5_drop⟩
theorem ck_X4_told : ckOK yX4_told 1 := ⟨by decide +kernel, by decide +kernel, by decide +kernel⟩
theorem cv_L_134 : cvOK RL mX4_told 134 1 := ⟨xw_681, xw_682, xw_683, xw_52, xw_684, ck_X4_told⟩
theorem ck_X5_told : ckOK yX5_told 1 := ⟨by decide +kernel, by decide +kernel, by decide +kernel⟩
theorem cv_L_137 : cvOK RL mX5_told 137 1 := ⟨xw_1027, xw_1028, xw_1029, xw_58, xw_1030, ck_X5_told⟩
theorem ck_X5_anew : ckOK yX5_anew 0 := ⟨by decide +kernel, by decide +kernel, by decide +kernel⟩
theorem cv_X5_41 : cvOK RX5 mX5_anew 41 0 := ⟨xw_699, xw_701, xw_22, xw_58, xw_702, ck_X5_anew⟩
theorem ck_X5_copyRow : ckOK yX5_copyRow 2 := ⟨by decide +kernel, by decide +kernel, by decide +kernel⟩
theorem cv_X5_44 : cvOK RX5 mX5_copyRow 44 2 := ⟨xw_703, xw_705, xw_23, xw_58, xw_706, ck_X5_copyRow⟩
theorem ck_X5_in : ckOK yX5_in 3 := ⟨by decide +kernel, by decide +kernel, by decide +kernel⟩
theorem cs_X5_57 : csOK RX5 mX5_in 57 3 := ⟨xw_773, xw_774, xw_58, xw_775, ck_X5_in⟩
theorem ck_X5_isSmall : ckOK yX5_isSmall 1 := ⟨by decide +kernel, by decide +kernel, by decide +kernel⟩
theorem cs_X5_78 : csOK RX5 mX5_isSmall 78 1 := ⟨xw_792, xw_793, xw_58, xw_794, ck_X5_isSmall⟩
theorem ck_X5_isDigit : ckOK yX5_isDigit 1 := ⟨by decide +kernel, by decide +kernel, by decide +kernel⟩
theorem cs_X5_82 : csOK RX5 mX5_isDigit 82 1 := ⟨xw_797, xw_798, xw_58, xw_799, ck_X5_isDigit⟩
theorem ck_X5_isWord : ckOK yX5_isWord 1 := ⟨by decide +kernel, by decide +kernel, by decide +kernel⟩
theorem cv_X5_85 : cvOK RX5 mX5_isWord 85 1 := ⟨xw_810, xw_812, xw_28, xw_58, xw_813, ck_X5_isWord⟩
theorem ck_X5_nextToken : ckOK yX5_nextToken 0 := ⟨by decide +kernel, by decide +kernel, by decide +kernel⟩
theorem cv_X5_88 : cvOK RX5 mX5_nextToken 88 0 := ⟨xw_788, xw_790, xw_25, xw_58, xw_791, ck_X5_nextToken⟩
theorem ck_X5_has : ckOK yX5_has 2 := ⟨by decide +kernel, by decide +kernel, by decide +kernel⟩
theorem cs_X5_93 : csOK RX5 mX5_has 93 2 := ⟨xw_827, xw_828, xw_58, xw_829, ck_X5_has⟩
theorem ck_X5_wordOf : ckOK yX5_wordOf 2 := ⟨by decide +kernel, by decide +kernel, by decide +kernel⟩
theorem cv_X5_97 : cvOK RX5 mX5_wordOf 97 2 := ⟨xw_806, xw_808, xw_27, xw_58, xw_809, ck_X5_wordOf⟩
theorem ck_X5_number : ckOK yX5_number 3 := ⟨by decide +kernel, by decide +kernel, by decide +kernel⟩
theorem cv_X5_101 : cvOK RX5 mX5_number 101 3 := ⟨xw_818, xw_820, xw_30, xw_58, xw_821, ck_X5_number⟩
theorem ck_X5_readsVersed : ckOK yX5_readsVersed 0 := ⟨by decide +kernel, by decide +kernel, by decide +kernel⟩
theorem cv_X5_105 : cvOK RX5 mX5_readsVersed 105 0 := ⟨xw_822, xw_824, xw_31, xw_58, xw_825, ck_X5_readsVersed⟩
theorem ck_X5_readsRule : ckOK yX5_readsRule 0 := ⟨by decide +kernel, by decide +kernel, by decide +kernel⟩
theorem cv_X5_112 : cvOK RX5 mX5_readsRule 112 0 := ⟨xw_830, xw_832, xw_32, xw_58, xw_833, ck_X5_readsRule⟩
theorem ck_X5_readsRest : ckOK yX5_readsRest 1 := ⟨by decide +kernel, by decide +kernel, by decide +kernel⟩
theorem cv_X5_115 : cvOK RX5 mX5_readsRest 115 1 := ⟨xw_814, xw_816, xw_29, xw_58, xw_817, ck_X5_readsRest⟩
theorem ck_X5_does : ckOK yX5_does 1 := ⟨by decide +kernel, by decide +kernel, by decide +kernel⟩
theorem cv_X5_122 : cvOK RX5 mX5_does 122 1 := ⟨xw_834, xw_836, xw_33, xw_58, xw_837, ck_X5_does⟩
theorem ck_X5_readsClause : ckOK yX5_readsClause 0 := ⟨by decide +kernel, by decide +kernel, by decide +kernel⟩
theorem cv_X5_129 : cvOK RX5 mX5_readsClause 129 0 := ⟨xw_802, xw_804, xw_26, xw_58, xw_805, ck_X5_readsClause⟩
theorem ck_X5_reads : ckOK yX5_reads 1 := ⟨by decide +kernel, by decide +kernel, by decide +kernel⟩
theorem cv_X5_132 : cvOK RX5 mX5_reads 132 1 := ⟨xw_784, xw_786, xw_24, xw_58, xw_787, ck_X5_reads⟩
theorem ck_X5_isJudge : ckOK yX5_isJudge 1 := ⟨by decide +kernel, by decide +kernel, by decide +kernel⟩
theorem cv_X5_139 : cvOK RX5 mX5_isJudge 139 1 := ⟨xw_846, xw_848, xw_34, xw_58, xw_849, ck_X5_isJudge⟩
theorem ck_X5_isCase : ckOK yX5_isCase 1 := ⟨by decide +kernel, by decide +kernel, by decide +kernel⟩
theorem cv_X5_142 : cvOK RX5 mX5_isCase 142 1 := ⟨xw_854, xw_856, xw_35, xw_58, xw_857, ck_X5_isCase⟩
theorem ck_X5_turned : ckOK yX5_turned 1 := ⟨by decide +kernel, by decide +kernel, by decide +kernel⟩
theorem cs_X5_148 : csOK RX5 mX5_turned 148 1 := ⟨xw_907, xw_908, xw_58, xw_909, ck_X5_turned⟩
theorem ck_X5_isBarred : ckOK yX5_isBarred 3 := ⟨by decide +kernel, by decide +kernel, by decide +kernel⟩
theorem cv_X5_152 : cvOK RX5 mX5_isBarred 152 3 := ⟨xw_881, xw_883, xw_38, xw_58, xw_884, ck_X5_isBarred⟩
theorem ck_X5_weightOf : ckOK yX5_weightOf 3 := ⟨by decide +kernel, by decide +kernel, by decide +kernel⟩
theorem cv_X5_155 : cvOK RX5 mX5_weightOf 155 3 := ⟨xw_897, xw_899, xw_42, xw_58, xw_900, ck_X5_weightOf⟩
theorem ck_X5_drawFor : ckOK yX5_drawFor 2 := ⟨by decide +kernel, by decide +kernel, by decide +kernel⟩
theorem cv_X5_159 : cvOK RX5 mX5_drawFor 159 2 := ⟨xw_901, xw_903, xw_43, xw_58, xw_904, ck_X5_drawFor⟩
theorem ck_X5_drawOnce : ckOK yX5_drawOnce 2 := ⟨by decide +kernel, by decide +kernel, by decide +kernel⟩
theorem cv_X5_162 : cvOK RX5 mX5_drawOnce 162 2 := ⟨xw_893, xw_895, xw_41, xw_58, xw_896, ck_X5_drawOnce⟩
theorem ck_X5_owe : ckOK yX5_owe 2 := ⟨by decide +kernel, by decide +kernel, by decide +kernel⟩
theorem cv_X5_165 : cvOK RX5 mX5_owe 165 2 := ⟨xw_910, xw_912, xw_44, xw_58, xw_913, ck_X5_owe⟩
theorem ck_X5_sealAt : ckOK yX5_sealAt 2 := ⟨by decide +kernel, by decide +kernel, by decide +kernel⟩
theorem cv_X5_168 : cvOK RX5 mX5_sealAt 168 2 := ⟨xw_862, xw_864, xw_36, xw_58, xw_865, ck_X5_sealAt⟩
theorem ck_X5_isSubject : ckOK yX5_isSubject 1 := ⟨by decide +kernel, by decide +kernel, by decide +kernel⟩
theorem cs_X5_173 : csOK RX5 mX5_isSubject 173 1 := ⟨xw_870, xw_871, xw_58, xw_872, ck_X5_isSubject⟩
theorem ck_X5_isParty : ckOK yX5_isParty 1 := ⟨by decide +kernel, by decide +kernel, by decide +kernel⟩
theorem cs_X5_176 : csOK RX5 mX5_isParty 176 1 := ⟨xw_873, xw_874, xw_58, xw_875, ck_X5_isParty⟩
theorem ck_X5_isAnyone : ckOK yX5_isAnyone 3 := ⟨by decide +kernel, by decide +kernel, by decide +kernel⟩
theorem cv_X5_179 : cvOK RX5 mX5_isAnyone 179 3 := ⟨xw_877, xw_879, xw_37, xw_58, xw_880, ck_X5_isAnyone⟩
theorem ck_X5_keepPast : ckOK yX5_keepPast 0 := ⟨by decide +kernel, by decide +kernel, by decide +kernel⟩
theorem cv_X5_182 : cvOK RX5 mX5_keepPast 182 0 := ⟨xw_885, xw_887, xw_39, xw_58, xw_888, ck_X5_keepPast⟩
theorem ck_X5_assigned : ckOK yX5_assigned 3 := ⟨by decide +kernel, by decide +kernel, by decide +kernel⟩
theorem cv_X5_185 : cvOK RX5 mX5_assigned 185 3 := ⟨xw_889, xw_891, xw_40, xw_58, xw_892, ck_X5_assigned⟩
theorem ck_X5_put : ckOK yX5_put 1 := ⟨by decide +kernel, by decide +kernel, by decide +kernel⟩
theorem cv_X5_191 : cvOK RX5 mX5_put 191 1 := ⟨xw_942, xw_944, xw_46, xw_58, xw_945, ck_X5_put⟩
theorem ck_X5_layWriting : ckOK yX5_layWriting 0 := ⟨by decide +kernel, by decide +kernel, by decide +kernel⟩
theorem cv_X5_194 : cvOK RX5 mX5_layWriting 194 0 := ⟨xw_938, xw_940, xw_45, xw_58, xw_941, ck_X5_layWriting⟩
theorem ck_X5_canCount : ckOK yX5_canCount 0 := ⟨by decide +kernel, by decide +kernel, by decide +kernel⟩
theorem cv_X5_200 : cvOK RX5 mX5_canCount 200 0 := ⟨xw_968, xw_970, xw_47, xw_58, xw_971, ck_X5_canCount⟩
theorem ck_X5_sameBy : ckOK yX5_sameBy 1 := ⟨by decide +kernel, by decide +kernel, by decide +kernel⟩
theorem cv_X5_203 : cvOK RX5 mX5_sameBy 203 1 := ⟨xw_972, xw_974, xw_48, xw_58, xw_975, ck_X5_sameBy⟩
theorem ck_X5_isSlip : ckOK yX5_isSlip 1 := ⟨by decide +kernel, by decide +kernel, by decide +kernel⟩
theorem cs_X5_210 : csOK RX5 mX5_isSlip 210 1 := ⟨xw_985, xw_986, xw_58, xw_987, ck_X5_isSlip⟩
theorem ck_X5_standsAt : ckOK yX5_standsAt 3 := ⟨by decide +kernel, by decide +kernel, by decide +kernel⟩
theorem cv_X5_215 : cvOK RX5 mX5_standsAt 215 3 := ⟨xw_1010, xw_1012, xw_49, xw_58, xw_1013, ck_X5_standsAt⟩
theorem ck_X5_allLetters : ckOK yX5_allLetters 0 := ⟨by decide +kernel, by decide +kernel, by decide +kernel⟩
theorem cv_X5_220 : cvOK RX5 mX5_allLetters 220 0 := ⟨xw_1031, xw_1033, xw_50, xw_58, xw_1034, ck_X5_allLetters⟩
theorem ck_J0_coder_7d493 : ckOK yJ0_coder_7d493 0 := ⟨by decide +kernel, by decide +kernel, by decide +kernel⟩
theorem cv_J0_335 : cvOK RJ0 mJ0_coder_7d493 335 0 := ⟨xw_309, xw_310, xw_311, xw_60, xw_312, ck_J0_coder_7d493⟩
theorem ck_J0_isLatin1_aae02 : ckOK yJ0_isLatin1_aae02 0 := ⟨by decide +kernel, by decide +kernel, by decide +kernel⟩
theorem cv_J0_492 : cvOK RJ0 mJ0_isLatin1_aae02 492 0 := ⟨xw_319, xw_320, xw_321, xw_60, xw_322, ck_J0_isLatin1_aae02⟩
theorem ck_J1_charAt_3b067 : ckOK yJ1_charAt_3b067 2 := ⟨by decide +kernel, by decide +kernel, by decide +kernel⟩
theorem cs_J0_495 : csOK RJ0 mJ1_charAt_3b067 495 2 := ⟨xw_323, xw_324, xw_61, xw_325, ck_J1_charAt_3b067⟩
theorem ck_J3_checkIndex_8e157 : ckOK yJ3_checkIndex_8e157 3 := ⟨by decide +kernel, by decide +kernel, by decide +kernel⟩
theorem cs_J0_1059 : csOK RJ0 mJ3_checkIndex_8e157 1059 3 := ⟨xw_331, xw_332, xw_62, xw_333, ck_J3_checkIndex_8e157⟩
theorem ck_J0_checkIndex_df160 : ckOK yJ0_checkIndex_df160 2 := ⟨by decide +kernel, by decide +kernel, by decide +kernel⟩
theorem cs_J1_9 : csOK RJ1 mJ0_checkIndex_df160 9 2 := ⟨xw_326, xw_327, xw_60, xw_328, ck_J0_checkIndex_df160⟩
theorem kc_X4_179 : (.constant RX4 179 (305419896) : Cond) ∈ XW := (List.mem_filter.mpr ⟨List.mem_of_getElem? (i := 576) (by decide +kernel), by decide +kernel⟩)
theorem kc_X4_264 : (.constant RX4 264 (1000000) : Cond) ∈ XW := (List.mem_filter.mpr ⟨List.mem_of_getElem? (i := 596) (by decide +kernel), by decide +kernel⟩)
theorem kc_X2_101 : (.constant RX2 101 (1000000) : Cond) ∈ XW := (List.mem_filter.mpr ⟨List.mem_of_getElem? (i := 511) (by decide +kernel), by decide +kernel⟩)
theorem kc_X2_108 : (.constantLong RX2 108 (2147483648) : Cond) ∈ XW := (List.mem_filter.mpr ⟨List.mem_of_getElem? (i := 516) (by decide +kernel), by decide +kernel⟩)
theorem kc_X5_55 : (.constantLong RX5 55 (255) : Cond) ∈ XW := (List.mem_filter.mpr ⟨List.mem_of_getElem? (i := 772) (by decide +kernel), by decide +kernel⟩)
theorem kc_X5_64 : (.constantLong RX5 64 (97) : Cond) ∈ XW := (List.mem_filter.mpr ⟨List.mem_of_getElem? (i := 795) (by decide +kernel), by decide +kernel⟩)
theorem kc_X5_66 : (.constantLong RX5 66 (122) : Cond) ∈ XW := (List.mem_filter.mpr ⟨List.mem_of_getElem? (i := 796) (by decide +kernel), by decide +kernel⟩)
theorem kc_X5_68 : (.constantLong RX5 68 (48) : Cond) ∈ XW := (List.mem_filter.mpr ⟨List.mem_of_getElem? (i := 800) (by decide +kernel), by decide +kernel⟩)
theorem kc_X5_70 : (.constantLong RX5 70 (57) : Cond) ∈ XW := (List.mem_filter.mpr ⟨List.mem_of_getElem? (i := 801) (by decide +kernel), by decide +kernel⟩)
theorem kc_X5_91 : (.constantLong RX5 91 (4) : Cond) ∈ XW := (List.mem_filter.mpr ⟨List.mem_of_getElem? (i := 826) (by decide +kernel), by decide +kernel⟩)
theorem kc_X5_145 : (.constantLong RX5 145 (2147483648) : Cond) ∈ XW := (List.mem_filter.mpr ⟨List.mem_of_getElem? (i := 905) (by decide +kernel), by decide +kernel⟩)
theorem kc_X5_147 : (.constant RX5 147 (2147483647) : Cond) ∈ XW := (List.mem_filter.mpr ⟨List.mem_of_getElem? (i := 906) (by decide +kernel), by decide +kernel⟩)
theorem kc_X5_171 : (.constantLong RX5 171 (9) : Cond) ∈ XW := (List.mem_filter.mpr ⟨List.mem_of_getElem? (i := 876) (by decide +kernel), by decide +kernel⟩)
theorem kc_X5_197 : (.constantLong RX5 197 (7) : Cond) ∈ XW := (List.mem_filter.mpr ⟨List.mem_of_getElem? (i := 950) (by decide +kernel), by decide +kernel⟩)
theorem kc_X5_199 : (.constant RX5 199 (305419896) : Cond) ∈ XW := (List.mem_filter.mpr ⟨List.mem_of_getElem? (i := 951) (by decide +kernel), by decide +kernel⟩)
theorem kc_X5_206 : (.constantLong RX5 206 (20) : Cond) ∈ XW := (List.mem_filter.mpr ⟨List.mem_of_getElem? (i := 980) (by decide +kernel), by decide +kernel⟩)
theorem kc_X5_208 : (.constantLong RX5 208 (2) : Cond) ∈ XW := (List.mem_filter.mpr ⟨List.mem_of_getElem? (i := 988) (by decide +kernel), by decide +kernel⟩)
theorem kc_X5_213 : (.constantLong RX5 213 (3) : Cond) ∈ XW := (List.mem_filter.mpr ⟨List.mem_of_getElem? (i := 1009) (by decide +kernel), by decide +kernel⟩)
theorem kc_X5_218 : (.constantLong RX5 218 (6) : Cond) ∈ XW := (List.mem_filter.mpr ⟨List.mem_of_getElem? (i := 1022) (by decide +kernel), by decide +kernel⟩)
theorem mm_X4_259 : (.methodLink RX4 259 Lib.Math.max.name : Cond) ∈ XW := (List.mem_filter.mpr ⟨List.mem_of_getElem? (i := 595) (by decide +kernel), by decide +kernel⟩)
theorem mm_X1_9 : (.methodLink RX1 9 Lib.Math.max.name : Cond) ∈ XW := (List.mem_filter.mpr ⟨List.mem_of_getElem? (i := 79) (by decide +kernel), by decide +kernel⟩)
theorem mm_X1_33 : (.methodLink RX1 33 arraycopyName : Cond) ∈ XW := (List.mem_filter.mpr ⟨List.mem_of_getElem? (i := 258) (by decide +kernel), by decide +kernel⟩)
theorem mm_X2_46 : (.methodLink RX2 46 arraycopyName : Cond) ∈ XW := (List.mem_filter.mpr ⟨List.mem_of_getElem? (i := 277) (by decide +kernel), by decide +kernel⟩)
theorem mm_X2_88 : (.methodLink RX2 88 Lib.Math.max.name : Cond) ∈ XW := (List.mem_filter.mpr ⟨List.mem_of_getElem? (i := 510) (by decide +kernel), by decide +kernel⟩)
theorem mm_X2_113 : (.methodLink RX2 113 Lib.Math.min.name : Cond) ∈ XW := (List.mem_filter.mpr ⟨List.mem_of_getElem? (i := 528) (by decide +kernel), by decide +kernel⟩)
theorem mS_max : (.static Lib.Math.max.name : Cond) ∈ XW := (List.mem_filter.mpr ⟨List.mem_of_getElem? (i := 80) (by decide +kernel), by decide +kernel⟩)
theorem mC_max : (.code Lib.Math.max.name Lib.Math.max.code 2 (some .int) : Cond) ∈ XW := (List.mem_filter.mpr ⟨List.mem_of_getElem? (i := 81) (by decide +kernel), by decide +kernel⟩)
theorem mS_min : (.static Lib.Math.min.name : Cond) ∈ XW := (List.mem_filter.mpr ⟨List.mem_of_getElem? (i := 529) (by decide +kernel), by decide +kernel⟩)
theorem mC_min : (.code Lib.Math.min.name Lib.Math.min.code 2 (some .int) : Cond) ∈ XW := (List.mem_filter.mpr ⟨List.mem_of_getElem? (i := 530) (by decide +kernel), by decide +kernel⟩)
theorem mI_Math : (.initialized "java/lang/Math" : Cond) ∈ XW := (List.mem_filter.mpr ⟨List.mem_of_getElem? (i := 54) (by decide +kernel), by decide +kernel⟩)
theorem aC_n : (.native arraycopyName : Cond) ∈ XW := (List.mem_filter.mpr ⟨List.mem_of_getElem? (i := 260) (by decide +kernel), by decide +kernel⟩)
theorem aC_s : (.static arraycopyName : Cond) ∈ XW := (List.mem_filter.mpr ⟨List.mem_of_getElem? (i := 259) (by decide +kernel), by decide +kernel⟩)
theorem aC_i : (.initialized "java/lang/System" : Cond) ∈ XW := (List.mem_filter.mpr ⟨List.mem_of_getElem? (i := 59) (by decide +kernel), by decide +kernel⟩)
end
section
theorem dX0_forget_0 : decode cX0_forget 0 = .ok (.aload_n 0, 1) := by decide +kernel
theorem dX0_forget_1 : decode cX0_forget 1 = .ok (.iconst 0, 1) := by decide +kernel
theorem dX0_forget_2 : decode cX0_forget 2 = .ok (.putfield 18, 3) := by decide +kernel
theorem dX0_forget_5 : decode cX0_forget 5 = .ok (.return_, 1) := by decide +kernel
theorem dX0_init_0 : decode cX0_init 0 = .ok (.aload_n 0, 1) := by decide +kernel
theorem dX0_init_1 : decode cX0_init 1 = .ok (.invokespecial 3, 3) := by decide +kernel
theorem dX0_init_4 : decode cX0_init 4 = .ok (.aload_n 0, 1) := by decide +kernel
theorem dX0_init_5 : decode cX0_init 5 = .ok (.bipush 8, 2) := by decide +kernel
theorem dX0_init_7 : decode cX0_init 7 = .ok (.anewarray 9, 3) := by decide +kernel
theorem dX0_init_10 : decode cX0_init 10 = .ok (.putfield 11, 3) := by decide +kernel
theorem dX0_init_13 : decode cX0_init 13 = .ok (.iconst 0, 1) := by decide +kernel
theorem dX0_init_14 : decode cX0_init 14 = .ok (.istore_n 1, 1) := by decide +kernel
theorem dX0_init_15 : decode cX0_init 15 = .ok (.iload_n 1, 1) := by decide +kernel
theorem dX0_init_16 : decode cX0_init 16 = .ok (.bipush 8, 2) := by decide +kernel
theorem dX0_init_18 : decode cX0_init 18 = .ok (.if_icmp .ge 22, 3) := by decide +kernel
theorem dX0_init_21 : decode cX0_init 21 = .ok (.aload_n 0, 1) := by decide +kernel
theorem dX0_init_22 : decode cX0_init 22 = .ok (.getfield 11, 3) := by decide +kernel
theorem dX0_init_25 : decode cX0_init 25 = .ok (.iload_n 1, 1) := by decide +kernel
theorem dX0_init_26 : decode cX0_init 26 = .ok (.new 9, 3) := by decide +kernel
theorem dX0_init_29 : decode cX0_init 29 = .ok (.dup, 1) := by decide +kernel
theorem dX0_init_30 : decode cX0_init 30 = .ok (.invokespecial 17, 3) := by decide +kernel
theorem dX0_init_33 : decode cX0_init 33 = .ok (.aastore, 1) := by decide +kernel
theorem dX0_init_34 : decode cX0_init 34 = .ok (.iinc 1 1, 3) := by decide +kernel
theorem dX0_init_37 : decode cX0_init 37 = .ok (.goto (-22), 3) := by decide +kernel
theorem dX0_init_40 : decode cX0_init 40 = .ok (.return_, 1) := by decide +kernel
theorem dX0_remember_0 : decode cX0_remember 0 = .ok (.aload_n 0, 1) := by decide +kernel
theorem dX0_remember_1 : decode cX0_remember 1 = .ok (.getfield 11, 3) := by decide +kernel
theorem dX0_remember_4 : decode cX0_remember 4 = .ok (.aload_n 0, 1) := by decide +kernel
theorem dX0_remember_5 : decode cX0_remember 5 = .ok (.getfield 22, 3) := by decide +kernel
theorem dX0_remember_8 : decode cX0_remember 8 = .ok (.aload_n 0, 1) := by decide +kernel
theorem dX0_remember_9 : decode cX0_remember 9 = .ok (.getfield 18, 3) := by decide +kernel
theorem dX0_remember_12 : decode cX0_remember 12 = .ok (.iadd, 1) := by decide +kernel
theorem dX0_remember_13 : decode cX0_remember 13 = .ok (.bipush 8, 2) := by decide +kernel
theorem dX0_remember_15 : decode cX0_remember 15 = .ok (.irem, 1) := by decide +kernel
theorem dX0_remember_16 : decode cX0_remember 16 = .ok (.aaload, 1) := by decide +kernel
theorem dX0_remember_17 : decode cX0_remember 17 = .ok (.aload_n 1, 1) := by decide +kernel
theorem dX0_remember_18 : decode cX0_remember 18 = .ok (.invokevirtual 25, 3) := by decide +kernel
theorem dX0_remember_21 : decode cX0_remember 21 = .ok (.aload_n 0, 1) := by decide +kernel
theorem dX0_remember_22 : decode cX0_remember 22 = .ok (.getfield 18, 3) := by decide +kernel
theorem dX0_remember_25 : decode cX0_remember 25 = .ok (.bipush 8, 2) := by decide +kernel
theorem dX0_remember_27 : decode cX0_remember 27 = .ok (.if_icmp .ge 16, 3) := by decide +kernel
theorem dX0_remember_30 : decode cX0_remember 30 = .ok (.aload_n 0, 1) := by decide +kernel
theorem dX0_remember_31 : decode cX0_remember 31 = .ok (.dup, 1) := by decide +kernel
theorem dX0_remember_32 : decode cX0_remember 32 = .ok (.getfield 18, 3) := by decide +kernel
theorem dX0_remember_35 : decode cX0_remember 35 = .ok (.iconst 1, 1) := by decide +kernel
theorem dX0_remember_36 : decode cX0_remember 36 = .ok (.iadd, 1) := by decide +kernel
theorem dX0_remember_37 : decode cX0_remember 37 = .ok (.putfield 18, 3) := by decide +kernel
theorem dX0_remember_40 : decode cX0_remember 40 = .ok (.goto 16, 3) := by decide +kernel
theorem dX0_remember_43 : decode cX0_remember 43 = .ok (.aload_n 0, 1) := by decide +kernel
theorem dX0_remember_44 : decode cX0_remember 44 = .ok (.aload_n 0, 1) := by decide +kernel
theorem dX0_remember_45 : decode cX0_remember 45 = .ok (.getfield 22, 3) := by decide +kernel
theorem dX0_remember_48 : decode cX0_remember 48 = .ok (.iconst 1, 1) := by decide +kernel
theorem dX0_remember_49 : decode cX0_remember 49 = .ok (.iadd, 1) := by decide +kernel
theorem dX0_remember_50 : decode cX0_remember 50 = .ok (.bipush 8, 2) := by decide +kernel
theorem dX0_remember_52 : decode cX0_remember 52 = .ok (.irem, 1) := by decide +kernel
theorem dX0_remember_53 : decode cX0_remember 53 = .ok (.putfield 22, 3) := by decide +kernel
theorem dX0_remember_56 : decode cX0_remember 56 = .ok (.return_, 1) := by decide +kernel
theorem dX0_takeBack_0 : decode cX0_takeBack 0 = .ok (.aload_n 0, 1) := by decide +kernel
theorem dX0_takeBack_1 : decode cX0_takeBack 1 = .ok (.getfield 18, 3) := by decide +kernel
theorem dX0_takeBack_4 : decode cX0_takeBack 4 = .ok (.iconst 1, 1) := by decide +kernel
theorem dX0_takeBack_5 : decode cX0_takeBack 5 = .ok (.if_icmp .ge 4, 3) := by decide +kernel
theorem dX0_takeBack_8 : decode cX0_takeBack 8 = .ok (.return_, 1) := by decide +kernel
theorem dX0_takeBack_9 : decode cX0_takeBack 9 = .ok (.aload_n 0, 1) := by decide +kernel
theorem dX0_takeBack_10 : decode cX0_takeBack 10 = .ok (.dup, 1) := by decide +kernel
theorem dX0_takeBack_11 : decode cX0_takeBack 11 = .ok (.getfield 18, 3) := by decide +kernel
theorem dX0_takeBack_14 : decode cX0_takeBack 14 = .ok (.iconst 1, 1) := by decide +kernel
theorem dX0_takeBack_15 : decode cX0_takeBack 15 = .ok (.isub, 1) := by decide +kernel
theorem dX0_takeBack_16 : decode cX0_takeBack 16 = .ok (.putfield 18, 3) := by decide +kernel
theorem dX0_takeBack_19 : decode cX0_takeBack 19 = .ok (.aload_n 1, 1) := by decide +kernel
theorem dX0_takeBack_20 : decode cX0_takeBack 20 = .ok (.aload_n 0, 1) := by decide +kernel
theorem dX0_takeBack_21 : decode cX0_takeBack 21 = .ok (.getfield 11, 3) := by decide +kernel
theorem dX0_takeBack_24 : decode cX0_takeBack 24 = .ok (.aload_n 0, 1) := by decide +kernel
theorem dX0_takeBack_25 : decode cX0_takeBack 25 = .ok (.getfield 22, 3) := by decide +kernel
theorem dX0_takeBack_28 : decode cX0_takeBack 28 = .ok (.aload_n 0, 1) := by decide +kernel
theorem dX0_takeBack_29 : decode cX0_takeBack 29 = .ok (.getfield 18, 3) := by decide +kernel
theorem dX0_takeBack_32 : decode cX0_takeBack 32 = .ok (.iadd, 1) := by decide +kernel
theorem dX0_takeBack_33 : decode cX0_takeBack 33 = .ok (.bipush 8, 2) := by decide +kernel
theorem dX0_takeBack_35 : decode cX0_takeBack 35 = .ok (.irem, 1) := by decide +kernel
theorem dX0_takeBack_36 : decode cX0_takeBack 36 = .ok (.aaload, 1) := by decide +kernel
theorem dX0_takeBack_37 : decode cX0_takeBack 37 = .ok (.invokevirtual 25, 3) := by decide +kernel
theorem dX0_takeBack_40 : decode cX0_takeBack 40 = .ok (.return_, 1) := by decide +kernel
theorem dX1_append_0 : decode cX1_append 0 = .ok (.aload_n 0, 1) := by decide +kernel
theorem dX1_append_1 : decode cX1_append 1 = .ok (.aload_n 0, 1) := by decide +kernel
theorem dX1_append_2 : decode cX1_append 2 = .ok (.getfield 21, 3) := by decide +kernel
theorem dX1_append_5 : decode cX1_append 5 = .ok (.iload_n 1, 1) := by decide +kernel
theorem dX1_append_6 : decode cX1_append 6 = .ok (.invokevirtual 25, 3) := by decide +kernel
theorem dX1_append_9 : decode cX1_append 9 = .ok (.return_, 1) := by decide +kernel
theorem dX1_appendAll_0 : decode cX1_appendAll 0 = .ok (.aload_n 1, 1) := by decide +kernel
theorem dX1_appendAll_1 : decode cX1_appendAll 1 = .ok (.getfield 21, 3) := by decide +kernel
theorem dX1_appendAll_4 : decode cX1_appendAll 4 = .ok (.istore_n 2, 1) := by decide +kernel
theorem dX1_appendAll_5 : decode cX1_appendAll 5 = .ok (.aload_n 0, 1) := by decide +kernel
theorem dX1_appendAll_6 : decode cX1_appendAll 6 = .ok (.iload_n 2, 1) := by decide +kernel
theorem dX1_appendAll_7 : decode cX1_appendAll 7 = .ok (.invokevirtual 29, 3) := by decide +kernel
theorem dX1_appendAll_10 : decode cX1_appendAll 10 = .ok (.ifCond .ne 4, 3) := by decide +kernel
theorem dX1_appendAll_13 : decode cX1_appendAll 13 = .ok (.return_, 1) := by decide +kernel
theorem dX1_appendAll_14 : decode cX1_appendAll 14 = .ok (.aload_n 1, 1) := by decide +kernel
theorem dX1_appendAll_15 : decode cX1_appendAll 15 = .ok (.getfield 15, 3) := by decide +kernel
theorem dX1_appendAll_18 : decode cX1_appendAll 18 = .ok (.iconst 0, 1) := by decide +kernel
theorem dX1_appendAll_19 : decode cX1_appendAll 19 = .ok (.aload_n 0, 1) := by decide +kernel
theorem dX1_appendAll_20 : decode cX1_appendAll 20 = .ok (.getfield 15, 3) := by decide +kernel
theorem dX1_appendAll_23 : decode cX1_appendAll 23 = .ok (.aload_n 0, 1) := by decide +kernel
theorem dX1_appendAll_24 : decode cX1_appendAll 24 = .ok (.getfield 21, 3) := by decide +kernel
theorem dX1_appendAll_27 : decode cX1_appendAll 27 = .ok (.iload_n 2, 1) := by decide +kernel
theorem dX1_appendAll_28 : decode cX1_appendAll 28 = .ok (.invokestatic 33, 3) := by decide +kernel
theorem dX1_appendAll_31 : decode cX1_appendAll 31 = .ok (.aload_n 0, 1) := by decide +kernel
theorem dX1_appendAll_32 : decode cX1_appendAll 32 = .ok (.dup, 1) := by decide +kernel
theorem dX1_appendAll_33 : decode cX1_appendAll 33 = .ok (.getfield 21, 3) := by decide +kernel
theorem dX1_appendAll_36 : decode cX1_appendAll 36 = .ok (.iload_n 2, 1) := by decide +kernel
theorem dX1_appendAll_37 : decode cX1_appendAll 37 = .ok (.iadd, 1) := by decide +kernel
theorem dX1_appendAll_38 : decode cX1_appendAll 38 = .ok (.putfield 21, 3) := by decide +kernel
theorem dX1_appendAll_41 : decode cX1_appendAll 41 = .ok (.return_, 1) := by decide +kernel
theorem dX1_hasRoomFor_0 : decode cX1_hasRoomFor 0 = .ok (.aload_n 0, 1) := by decide +kernel
theorem dX1_hasRoomFor_1 : decode cX1_hasRoomFor 1 = .ok (.getfield 21, 3) := by decide +kernel
theorem dX1_hasRoomFor_4 : decode cX1_hasRoomFor 4 = .ok (.iload_n 1, 1) := by decide +kernel
theorem dX1_hasRoomFor_5 : decode cX1_hasRoomFor 5 = .ok (.iadd, 1) := by decide +kernel
theorem dX1_hasRoomFor_6 : decode cX1_hasRoomFor 6 = .ok (.aload_n 0, 1) := by decide +kernel
theorem dX1_hasRoomFor_7 : decode cX1_hasRoomFor 7 = .ok (.getfield 15, 3) := by decide +kernel
theorem dX1_hasRoomFor_10 : decode cX1_hasRoomFor 10 = .ok (.arraylength, 1) := by decide +kernel
theorem dX1_hasRoomFor_11 : decode cX1_hasRoomFor 11 = .ok (.if_icmp .gt 7, 3) := by decide +kernel
theorem dX1_hasRoomFor_14 : decode cX1_hasRoomFor 14 = .ok (.iconst 1, 1) := by decide +kernel
theorem dX1_hasRoomFor_15 : decode cX1_hasRoomFor 15 = .ok (.goto 4, 3) := by decide +kernel
theorem dX1_hasRoomFor_18 : decode cX1_hasRoomFor 18 = .ok (.iconst 0, 1) := by decide +kernel
theorem dX1_hasRoomFor_19 : decode cX1_hasRoomFor 19 = .ok (.ireturn, 1) := by decide +kernel
theorem dX1_init_0 : decode cX1_init 0 = .ok (.aload_n 0, 1) := by decide +kernel
theorem dX1_init_1 : decode cX1_init 1 = .ok (.invokespecial 3, 3) := by decide +kernel
theorem dX1_init_4 : decode cX1_init 4 = .ok (.aload_n 0, 1) := by decide +kernel
theorem dX1_init_5 : decode cX1_init 5 = .ok (.iload_n 1, 1) := by decide +kernel
theorem dX1_init_6 : decode cX1_init 6 = .ok (.iconst 0, 1) := by decide +kernel
theorem dX1_init_7 : decode cX1_init 7 = .ok (.invokestatic 9, 3) := by decide +kernel
theorem dX1_init_10 : decode cX1_init 10 = .ok (.newarray .int, 2) := by decide +kernel
theorem dX1_init_12 : decode cX1_init 12 = .ok (.putfield 15, 3) := by decide +kernel
theorem dX1_init_15 : decode cX1_init 15 = .ok (.return_, 1) := by decide +kernel
theorem dX1_isWordAt_0 : decode cX1_isWordAt 0 = .ok (.iload_n 1, 1) := by decide +kernel
theorem dX1_isWordAt_1 : decode cX1_isWordAt 1 = .ok (.ifCond .lt 21, 3) := by decide +kernel
theorem dX1_isWordAt_4 : decode cX1_isWordAt 4 = .ok (.iload_n 2, 1) := by decide +kernel
theorem dX1_isWordAt_5 : decode cX1_isWordAt 5 = .ok (.aload_n 0, 1) := by decide +kernel
theorem dX1_isWordAt_6 : decode cX1_isWordAt 6 = .ok (.getfield 21, 3) := by decide +kernel
theorem dX1_isWordAt_9 : decode cX1_isWordAt 9 = .ok (.if_icmp .gt 13, 3) := by decide +kernel
theorem dX1_isWordAt_12 : decode cX1_isWordAt 12 = .ok (.iload_n 2, 1) := by decide +kernel
theorem dX1_isWordAt_13 : decode cX1_isWordAt 13 = .ok (.iload_n 1, 1) := by decide +kernel
theorem dX1_isWordAt_14 : decode cX1_isWordAt 14 = .ok (.isub, 1) := by decide +kernel
theorem dX1_isWordAt_15 : decode cX1_isWordAt 15 = .ok (.aload_n 3, 1) := by decide +kernel
theorem dX1_isWordAt_16 : decode cX1_isWordAt 16 = .ok (.invokevirtual 43, 3) := by decide +kernel
theorem dX1_isWordAt_19 : decode cX1_isWordAt 19 = .ok (.if_icmp .eq 5, 3) := by decide +kernel
theorem dX1_isWordAt_22 : decode cX1_isWordAt 22 = .ok (.iconst 0, 1) := by decide +kernel
theorem dX1_isWordAt_23 : decode cX1_isWordAt 23 = .ok (.ireturn, 1) := by decide +kernel
theorem dX1_isWordAt_24 : decode cX1_isWordAt 24 = .ok (.iconst 0, 1) := by decide +kernel
theorem dX1_isWordAt_25 : decode cX1_isWordAt 25 = .ok (.istore 4, 2) := by decide +kernel
theorem dX1_isWordAt_27 : decode cX1_isWordAt 27 = .ok (.iload 4, 2) := by decide +kernel
theorem dX1_isWordAt_29 : decode cX1_isWordAt 29 = .ok (.aload_n 3, 1) := by decide +kernel
theorem dX1_isWordAt_30 : decode cX1_isWordAt 30 = .ok (.invokevirtual 43, 3) := by decide +kernel
theorem dX1_isWordAt_33 : decode cX1_isWordAt 33 = .ok (.if_icmp .ge 29, 3) := by decide +kernel
theorem dX1_isWordAt_36 : decode cX1_isWordAt 36 = .ok (.aload_n 0, 1) := by decide +kernel
theorem dX1_isWordAt_37 : decode cX1_isWordAt 37 = .ok (.getfield 15, 3) := by decide +kernel
theorem dX1_isWordAt_40 : decode cX1_isWordAt 40 = .ok (.iload_n 1, 1) := by decide +kernel
theorem dX1_isWordAt_41 : decode cX1_isWordAt 41 = .ok (.iload 4, 2) := by decide +kernel
theorem dX1_isWordAt_43 : decode cX1_isWordAt 43 = .ok (.iadd, 1) := by decide +kernel
theorem dX1_isWordAt_44 : decode cX1_isWordAt 44 = .ok (.iaload, 1) := by decide +kernel
theorem dX1_isWordAt_45 : decode cX1_isWordAt 45 = .ok (.aload_n 3, 1) := by decide +kernel
theorem dX1_isWordAt_46 : decode cX1_isWordAt 46 = .ok (.iload 4, 2) := by decide +kernel
theorem dX1_isWordAt_48 : decode cX1_isWordAt 48 = .ok (.invokevirtual 48, 3) := by decide +kernel
theorem dX1_isWordAt_51 : decode cX1_isWordAt 51 = .ok (.if_icmp .eq 5, 3) := by decide +kernel
theorem dX1_isWordAt_54 : decode cX1_isWordAt 54 = .ok (.iconst 0, 1) := by decide +kernel
theorem dX1_isWordAt_55 : decode cX1_isWordAt 55 = .ok (.ireturn, 1) := by decide +kernel
theorem dX1_isWordAt_56 : decode cX1_isWordAt 56 = .ok (.iinc 4 1, 3) := by decide +kernel
theorem dX1_isWordAt_59 : decode cX1_isWordAt 59 = .ok (.goto (-32), 3) := by decide +kernel
theorem dX1_isWordAt_62 : decode cX1_isWordAt 62 = .ok (.iconst 1, 1) := by decide +kernel
theorem dX1_isWordAt_63 : decode cX1_isWordAt 63 = .ok (.ireturn, 1) := by decide +kernel
theorem dX1_numberAt_0 : decode cX1_numberAt 0 = .ok (.iload_n 1, 1) := by decide +kernel
theorem dX1_numberAt_1 : decode cX1_numberAt 1 = .ok (.ifCond .lt 23, 3) := by decide +kernel
theorem dX1_numberAt_4 : decode cX1_numberAt 4 = .ok (.iload_n 2, 1) := by decide +kernel
theorem dX1_numberAt_5 : decode cX1_numberAt 5 = .ok (.aload_n 0, 1) := by decide +kernel
theorem dX1_numberAt_6 : decode cX1_numberAt 6 = .ok (.getfield 21, 3) := by decide +kernel
theorem dX1_numberAt_9 : decode cX1_numberAt 9 = .ok (.if_icmp .gt 15, 3) := by decide +kernel
theorem dX1_numberAt_12 : decode cX1_numberAt 12 = .ok (.iload_n 2, 1) := by decide +kernel
theorem dX1_numberAt_13 : decode cX1_numberAt 13 = .ok (.iload_n 1, 1) := by decide +kernel
theorem dX1_numberAt_14 : decode cX1_numberAt 14 = .ok (.if_icmp .le 10, 3) := by decide +kernel
theorem dX1_numberAt_17 : decode cX1_numberAt 17 = .ok (.iload_n 2, 1) := by decide +kernel
theorem dX1_numberAt_18 : decode cX1_numberAt 18 = .ok (.iload_n 1, 1) := by decide +kernel
theorem dX1_numberAt_19 : decode cX1_numberAt 19 = .ok (.isub, 1) := by decide +kernel
theorem dX1_numberAt_20 : decode cX1_numberAt 20 = .ok (.iload_n 3, 1) := by decide +kernel
theorem dX1_numberAt_21 : decode cX1_numberAt 21 = .ok (.if_icmp .le 5, 3) := by decide +kernel
theorem dX1_numberAt_24 : decode cX1_numberAt 24 = .ok (.iconst (-1), 1) := by decide +kernel
theorem dX1_numberAt_25 : decode cX1_numberAt 25 = .ok (.ireturn, 1) := by decide +kernel
theorem dX1_numberAt_26 : decode cX1_numberAt 26 = .ok (.iconst 0, 1) := by decide +kernel
theorem dX1_numberAt_27 : decode cX1_numberAt 27 = .ok (.istore 4, 2) := by decide +kernel
theorem dX1_numberAt_29 : decode cX1_numberAt 29 = .ok (.iload_n 1, 1) := by decide +kernel
theorem dX1_numberAt_30 : decode cX1_numberAt 30 = .ok (.istore 5, 2) := by decide +kernel
theorem dX1_numberAt_32 : decode cX1_numberAt 32 = .ok (.iload 5, 2) := by decide +kernel
theorem dX1_numberAt_34 : decode cX1_numberAt 34 = .ok (.iload_n 2, 1) := by decide +kernel
theorem dX1_numberAt_35 : decode cX1_numberAt 35 = .ok (.if_icmp .ge 45, 3) := by decide +kernel
theorem dX1_numberAt_38 : decode cX1_numberAt 38 = .ok (.aload_n 0, 1) := by decide +kernel
theorem dX1_numberAt_39 : decode cX1_numberAt 39 = .ok (.getfield 15, 3) := by decide +kernel
theorem dX1_numberAt_42 : decode cX1_numberAt 42 = .ok (.iload 5, 2) := by decide +kernel
theorem dX1_numberAt_44 : decode cX1_numberAt 44 = .ok (.iaload, 1) := by decide +kernel
theorem dX1_numberAt_45 : decode cX1_numberAt 45 = .ok (.bipush 48, 2) := by decide +kernel
theorem dX1_numberAt_47 : decode cX1_numberAt 47 = .ok (.isub, 1) := by decide +kernel
theorem dX1_numberAt_48 : decode cX1_numberAt 48 = .ok (.istore 6, 2) := by decide +kernel
theorem dX1_numberAt_50 : decode cX1_numberAt 50 = .ok (.iload 6, 2) := by decide +kernel
theorem dX1_numberAt_52 : decode cX1_numberAt 52 = .ok (.ifCond .lt 10, 3) := by decide +kernel
theorem dX1_numberAt_55 : decode cX1_numberAt 55 = .ok (.iload 6, 2) := by decide +kernel
theorem dX1_numberAt_57 : decode cX1_numberAt 57 = .ok (.bipush 9, 2) := by decide +kernel
theorem dX1_numberAt_59 : decode cX1_numberAt 59 = .ok (.if_icmp .le 5, 3) := by decide +kernel
theorem dX1_numberAt_62 : decode cX1_numberAt 62 = .ok (.iconst (-1), 1) := by decide +kernel
theorem dX1_numberAt_63 : decode cX1_numberAt 63 = .ok (.ireturn, 1) := by decide +kernel
theorem dX1_numberAt_64 : decode cX1_numberAt 64 = .ok (.bipush 10, 2) := by decide +kernel
theorem dX1_numberAt_66 : decode cX1_numberAt 66 = .ok (.iload 4, 2) := by decide +kernel
theorem dX1_numberAt_68 : decode cX1_numberAt 68 = .ok (.imul, 1) := by decide +kernel
theorem dX1_numberAt_69 : decode cX1_numberAt 69 = .ok (.iload 6, 2) := by decide +kernel
theorem dX1_numberAt_71 : decode cX1_numberAt 71 = .ok (.iadd, 1) := by decide +kernel
theorem dX1_numberAt_72 : decode cX1_numberAt 72 = .ok (.istore 4, 2) := by decide +kernel
theorem dX1_numberAt_74 : decode cX1_numberAt 74 = .ok (.iinc 5 1, 3) := by decide +kernel
theorem dX1_numberAt_77 : decode cX1_numberAt 77 = .ok (.goto (-45), 3) := by decide +kernel
theorem dX1_numberAt_80 : decode cX1_numberAt 80 = .ok (.iload 4, 2) := by decide +kernel
theorem dX1_numberAt_82 : decode cX1_numberAt 82 = .ok (.ireturn, 1) := by decide +kernel
theorem dX1_placeOf_0 : decode cX1_placeOf 0 = .ok (.iconst 0, 1) := by decide +kernel
theorem dX1_placeOf_1 : decode cX1_placeOf 1 = .ok (.istore_n 2, 1) := by decide +kernel
theorem dX1_placeOf_2 : decode cX1_placeOf 2 = .ok (.iload_n 2, 1) := by decide +kernel
theorem dX1_placeOf_3 : decode cX1_placeOf 3 = .ok (.aload_n 1, 1) := by decide +kernel
theorem dX1_placeOf_4 : decode cX1_placeOf 4 = .ok (.getfield 21, 3) := by decide +kernel
theorem dX1_placeOf_7 : decode cX1_placeOf 7 = .ok (.iadd, 1) := by decide +kernel
theorem dX1_placeOf_8 : decode cX1_placeOf 8 = .ok (.aload_n 0, 1) := by decide +kernel
theorem dX1_placeOf_9 : decode cX1_placeOf 9 = .ok (.getfield 21, 3) := by decide +kernel
theorem dX1_placeOf_12 : decode cX1_placeOf 12 = .ok (.if_icmp .gt 20, 3) := by decide +kernel
theorem dX1_placeOf_15 : decode cX1_placeOf 15 = .ok (.aload_n 0, 1) := by decide +kernel
theorem dX1_placeOf_16 : decode cX1_placeOf 16 = .ok (.iload_n 2, 1) := by decide +kernel
theorem dX1_placeOf_17 : decode cX1_placeOf 17 = .ok (.aload_n 1, 1) := by decide +kernel
theorem dX1_placeOf_18 : decode cX1_placeOf 18 = .ok (.invokevirtual 39, 3) := by decide +kernel
theorem dX1_placeOf_21 : decode cX1_placeOf 21 = .ok (.ifCond .eq 5, 3) := by decide +kernel
theorem dX1_placeOf_24 : decode cX1_placeOf 24 = .ok (.iload_n 2, 1) := by decide +kernel
theorem dX1_placeOf_25 : decode cX1_placeOf 25 = .ok (.ireturn, 1) := by decide +kernel
theorem dX1_placeOf_26 : decode cX1_placeOf 26 = .ok (.iinc 2 1, 3) := by decide +kernel
theorem dX1_placeOf_29 : decode cX1_placeOf 29 = .ok (.goto (-27), 3) := by decide +kernel
theorem dX1_placeOf_32 : decode cX1_placeOf 32 = .ok (.iconst (-1), 1) := by decide +kernel
theorem dX1_placeOf_33 : decode cX1_placeOf 33 = .ok (.ireturn, 1) := by decide +kernel
theorem dX1_putAt_0 : decode cX1_putAt 0 = .ok (.iload_n 1, 1) := by decide +kernel
theorem dX1_putAt_1 : decode cX1_putAt 1 = .ok (.ifCond .lt 19, 3) := by decide +kernel
theorem dX1_putAt_4 : decode cX1_putAt 4 = .ok (.iload_n 1, 1) := by decide +kernel
theorem dX1_putAt_5 : decode cX1_putAt 5 = .ok (.aload_n 0, 1) := by decide +kernel
theorem dX1_putAt_6 : decode cX1_putAt 6 = .ok (.getfield 21, 3) := by decide +kernel
theorem dX1_putAt_9 : decode cX1_putAt 9 = .ok (.if_icmp .gt 11, 3) := by decide +kernel
theorem dX1_putAt_12 : decode cX1_putAt 12 = .ok (.aload_n 0, 1) := by decide +kernel
theorem dX1_putAt_13 : decode cX1_putAt 13 = .ok (.iconst 1, 1) := by decide +kernel
theorem dX1_putAt_14 : decode cX1_putAt 14 = .ok (.invokevirtual 29, 3) := by decide +kernel
theorem dX1_putAt_17 : decode cX1_putAt 17 = .ok (.ifCond .ne 4, 3) := by decide +kernel
theorem dX1_putAt_20 : decode cX1_putAt 20 = .ok (.return_, 1) := by decide +kernel
theorem dX1_putAt_21 : decode cX1_putAt 21 = .ok (.aload_n 0, 1) := by decide +kernel
theorem dX1_putAt_22 : decode cX1_putAt 22 = .ok (.getfield 15, 3) := by decide +kernel
theorem dX1_putAt_25 : decode cX1_putAt 25 = .ok (.iload_n 1, 1) := by decide +kernel
theorem dX1_putAt_26 : decode cX1_putAt 26 = .ok (.aload_n 0, 1) := by decide +kernel
theorem dX1_putAt_27 : decode cX1_putAt 27 = .ok (.getfield 15, 3) := by decide +kernel
theorem dX1_putAt_30 : decode cX1_putAt 30 = .ok (.iload_n 1, 1) := by decide +kernel
theorem dX1_putAt_31 : decode cX1_putAt 31 = .ok (.iconst 1, 1) := by decide +kernel
theorem dX1_putAt_32 : decode cX1_putAt 32 = .ok (.iadd, 1) := by decide +kernel
theorem dX1_putAt_33 : decode cX1_putAt 33 = .ok (.aload_n 0, 1) := by decide +kernel
theorem dX1_putAt_34 : decode cX1_putAt 34 = .ok (.getfield 21, 3) := by decide +kernel
theorem dX1_putAt_37 : decode cX1_putAt 37 = .ok (.iload_n 1, 1) := by decide +kernel
theorem dX1_putAt_38 : decode cX1_putAt 38 = .ok (.isub, 1) := by decide +kernel
theorem dX1_putAt_39 : decode cX1_putAt 39 = .ok (.invokestatic 33, 3) := by decide +kernel
theorem dX1_putAt_42 : decode cX1_putAt 42 = .ok (.aload_n 0, 1) := by decide +kernel
theorem dX1_putAt_43 : decode cX1_putAt 43 = .ok (.getfield 15, 3) := by decide +kernel
theorem dX1_putAt_46 : decode cX1_putAt 46 = .ok (.iload_n 1, 1) := by decide +kernel
theorem dX1_putAt_47 : decode cX1_putAt 47 = .ok (.iload_n 2, 1) := by decide +kernel
theorem dX1_putAt_48 : decode cX1_putAt 48 = .ok (.iastore, 1) := by decide +kernel
theorem dX1_putAt_49 : decode cX1_putAt 49 = .ok (.aload_n 0, 1) := by decide +kernel
theorem dX1_putAt_50 : decode cX1_putAt 50 = .ok (.dup, 1) := by decide +kernel
theorem dX1_putAt_51 : decode cX1_putAt 51 = .ok (.getfield 21, 3) := by decide +kernel
theorem dX1_putAt_54 : decode cX1_putAt 54 = .ok (.iconst 1, 1) := by decide +kernel
theorem dX1_putAt_55 : decode cX1_putAt 55 = .ok (.iadd, 1) := by decide +kernel
theorem dX1_putAt_56 : decode cX1_putAt 56 = .ok (.putfield 21, 3) := by decide +kernel
theorem dX1_putAt_59 : decode cX1_putAt 59 = .ok (.return_, 1) := by decide +kernel
theorem dX1_removeSpan_0 : decode cX1_removeSpan 0 = .ok (.iload_n 1, 1) := by decide +kernel
theorem dX1_removeSpan_1 : decode cX1_removeSpan 1 = .ok (.ifCond .lt 16, 3) := by decide +kernel
theorem dX1_removeSpan_4 : decode cX1_removeSpan 4 = .ok (.iload_n 2, 1) := by decide +kernel
theorem dX1_removeSpan_5 : decode cX1_removeSpan 5 = .ok (.iload_n 1, 1) := by decide +kernel
theorem dX1_removeSpan_6 : decode cX1_removeSpan 6 = .ok (.if_icmp .lt 11, 3) := by decide +kernel
theorem dX1_removeSpan_9 : decode cX1_removeSpan 9 = .ok (.iload_n 2, 1) := by decide +kernel
theorem dX1_removeSpan_10 : decode cX1_removeSpan 10 = .ok (.aload_n 0, 1) := by decide +kernel
theorem dX1_removeSpan_11 : decode cX1_removeSpan 11 = .ok (.getfield 21, 3) := by decide +kernel
theorem dX1_removeSpan_14 : decode cX1_removeSpan 14 = .ok (.if_icmp .le 4, 3) := by decide +kernel
theorem dX1_removeSpan_17 : decode cX1_removeSpan 17 = .ok (.return_, 1) := by decide +kernel
theorem dX1_removeSpan_18 : decode cX1_removeSpan 18 = .ok (.aload_n 0, 1) := by decide +kernel
theorem dX1_removeSpan_19 : decode cX1_removeSpan 19 = .ok (.getfield 15, 3) := by decide +kernel
theorem dX1_removeSpan_22 : decode cX1_removeSpan 22 = .ok (.iload_n 2, 1) := by decide +kernel
theorem dX1_removeSpan_23 : decode cX1_removeSpan 23 = .ok (.aload_n 0, 1) := by decide +kernel
theorem dX1_removeSpan_24 : decode cX1_removeSpan 24 = .ok (.getfield 15, 3) := by decide +kernel
theorem dX1_removeSpan_27 : decode cX1_removeSpan 27 = .ok (.iload_n 1, 1) := by decide +kernel
theorem dX1_removeSpan_28 : decode cX1_removeSpan 28 = .ok (.aload_n 0, 1) := by decide +kernel
theorem dX1_removeSpan_29 : decode cX1_removeSpan 29 = .ok (.getfield 21, 3) := by decide +kernel
theorem dX1_removeSpan_32 : decode cX1_removeSpan 32 = .ok (.iload_n 2, 1) := by decide +kernel
theorem dX1_removeSpan_33 : decode cX1_removeSpan 33 = .ok (.isub, 1) := by decide +kernel
theorem dX1_removeSpan_34 : decode cX1_removeSpan 34 = .ok (.invokestatic 33, 3) := by decide +kernel
theorem dX1_removeSpan_37 : decode cX1_removeSpan 37 = .ok (.aload_n 0, 1) := by decide +kernel
theorem dX1_removeSpan_38 : decode cX1_removeSpan 38 = .ok (.dup, 1) := by decide +kernel
theorem dX1_removeSpan_39 : decode cX1_removeSpan 39 = .ok (.getfield 21, 3) := by decide +kernel
theorem dX1_removeSpan_42 : decode cX1_removeSpan 42 = .ok (.iload_n 2, 1) := by decide +kernel
theorem dX1_removeSpan_43 : decode cX1_removeSpan 43 = .ok (.iload_n 1, 1) := by decide +kernel
theorem dX1_removeSpan_44 : decode cX1_removeSpan 44 = .ok (.isub, 1) := by decide +kernel
theorem dX1_removeSpan_45 : decode cX1_removeSpan 45 = .ok (.isub, 1) := by decide +kernel
theorem dX1_removeSpan_46 : decode cX1_removeSpan 46 = .ok (.putfield 21, 3) := by decide +kernel
theorem dX1_removeSpan_49 : decode cX1_removeSpan 49 = .ok (.return_, 1) := by decide +kernel
theorem dX1_ruleAt_0 : decode cX1_ruleAt 0 = .ok (.iconst 0, 1) := by decide +kernel
theorem dX1_ruleAt_1 : decode cX1_ruleAt 1 = .ok (.istore_n 3, 1) := by decide +kernel
theorem dX1_ruleAt_2 : decode cX1_ruleAt 2 = .ok (.iload_n 3, 1) := by decide +kernel
theorem dX1_ruleAt_3 : decode cX1_ruleAt 3 = .ok (.iconst 4, 1) := by decide +kernel
theorem dX1_ruleAt_4 : decode cX1_ruleAt 4 = .ok (.if_icmp .ge 24, 3) := by decide +kernel
theorem dX1_ruleAt_7 : decode cX1_ruleAt 7 = .ok (.aload_n 0, 1) := by decide +kernel
theorem dX1_ruleAt_8 : decode cX1_ruleAt 8 = .ok (.iload_n 1, 1) := by decide +kernel
theorem dX1_ruleAt_9 : decode cX1_ruleAt 9 = .ok (.iload_n 2, 1) := by decide +kernel
theorem dX1_ruleAt_10 : decode cX1_ruleAt 10 = .ok (.iload_n 3, 1) := by decide +kernel
theorem dX1_ruleAt_11 : decode cX1_ruleAt 11 = .ok (.invokestatic 52, 3) := by decide +kernel
theorem dX1_ruleAt_14 : decode cX1_ruleAt 14 = .ok (.invokevirtual 56, 3) := by decide +kernel
theorem dX1_ruleAt_17 : decode cX1_ruleAt 17 = .ok (.ifCond .eq 5, 3) := by decide +kernel
theorem dX1_ruleAt_20 : decode cX1_ruleAt 20 = .ok (.iload_n 3, 1) := by decide +kernel
theorem dX1_ruleAt_21 : decode cX1_ruleAt 21 = .ok (.ireturn, 1) := by decide +kernel
theorem dX1_ruleAt_22 : decode cX1_ruleAt 22 = .ok (.iinc 3 1, 3) := by decide +kernel
theorem dX1_ruleAt_25 : decode cX1_ruleAt 25 = .ok (.goto (-23), 3) := by decide +kernel
theorem dX1_ruleAt_28 : decode cX1_ruleAt 28 = .ok (.iconst (-1), 1) := by decide +kernel
theorem dX1_ruleAt_29 : decode cX1_ruleAt 29 = .ok (.ireturn, 1) := by decide +kernel
theorem dX1_standsAt_0 : decode cX1_standsAt 0 = .ok (.iconst 0, 1) := by decide +kernel
theorem dX1_standsAt_1 : decode cX1_standsAt 1 = .ok (.istore_n 3, 1) := by decide +kernel
theorem dX1_standsAt_2 : decode cX1_standsAt 2 = .ok (.iload_n 3, 1) := by decide +kernel
theorem dX1_standsAt_3 : decode cX1_standsAt 3 = .ok (.aload_n 2, 1) := by decide +kernel
theorem dX1_standsAt_4 : decode cX1_standsAt 4 = .ok (.getfield 21, 3) := by decide +kernel
theorem dX1_standsAt_7 : decode cX1_standsAt 7 = .ok (.if_icmp .ge 28, 3) := by decide +kernel
theorem dX1_standsAt_10 : decode cX1_standsAt 10 = .ok (.aload_n 0, 1) := by decide +kernel
theorem dX1_standsAt_11 : decode cX1_standsAt 11 = .ok (.getfield 15, 3) := by decide +kernel
theorem dX1_standsAt_14 : decode cX1_standsAt 14 = .ok (.iload_n 1, 1) := by decide +kernel
theorem dX1_standsAt_15 : decode cX1_standsAt 15 = .ok (.iload_n 3, 1) := by decide +kernel
theorem dX1_standsAt_16 : decode cX1_standsAt 16 = .ok (.iadd, 1) := by decide +kernel
theorem dX1_standsAt_17 : decode cX1_standsAt 17 = .ok (.iaload, 1) := by decide +kernel
theorem dX1_standsAt_18 : decode cX1_standsAt 18 = .ok (.aload_n 2, 1) := by decide +kernel
theorem dX1_standsAt_19 : decode cX1_standsAt 19 = .ok (.getfield 15, 3) := by decide +kernel
theorem dX1_standsAt_22 : decode cX1_standsAt 22 = .ok (.iload_n 3, 1) := by decide +kernel
theorem dX1_standsAt_23 : decode cX1_standsAt 23 = .ok (.iaload, 1) := by decide +kernel
theorem dX1_standsAt_24 : decode cX1_standsAt 24 = .ok (.if_icmp .eq 5, 3) := by decide +kernel
theorem dX1_standsAt_27 : decode cX1_standsAt 27 = .ok (.iconst 0, 1) := by decide +kernel
theorem dX1_standsAt_28 : decode cX1_standsAt 28 = .ok (.ireturn, 1) := by decide +kernel
theorem dX1_standsAt_29 : decode cX1_standsAt 29 = .ok (.iinc 3 1, 3) := by decide +kernel
theorem dX1_standsAt_32 : decode cX1_standsAt 32 = .ok (.goto (-30), 3) := by decide +kernel
theorem dX1_standsAt_35 : decode cX1_standsAt 35 = .ok (.iconst 1, 1) := by decide +kernel
theorem dX1_standsAt_36 : decode cX1_standsAt 36 = .ok (.ireturn, 1) := by decide +kernel
theorem dX2_addCase_0 : decode cX2_addCase 0 = .ok (.aload_n 0, 1) := by decide +kernel
theorem dX2_addCase_1 : decode cX2_addCase 1 = .ok (.getfield 61, 3) := by decide +kernel
theorem dX2_addCase_4 : decode cX2_addCase 4 = .ok (.bipush 20, 2) := by decide +kernel
theorem dX2_addCase_6 : decode cX2_addCase 6 = .ok (.if_icmp .lt 5, 3) := by decide +kernel
theorem dX2_addCase_9 : decode cX2_addCase 9 = .ok (.iconst (-1), 1) := by decide +kernel
theorem dX2_addCase_10 : decode cX2_addCase 10 = .ok (.ireturn, 1) := by decide +kernel
theorem dX2_addCase_11 : decode cX2_addCase 11 = .ok (.aload_n 0, 1) := by decide +kernel
theorem dX2_addCase_12 : decode cX2_addCase 12 = .ok (.iload_n 1, 1) := by decide +kernel
theorem dX2_addCase_13 : decode cX2_addCase 13 = .ok (.iload_n 2, 1) := by decide +kernel
theorem dX2_addCase_14 : decode cX2_addCase 14 = .ok (.invokevirtual 116, 3) := by decide +kernel
theorem dX2_addCase_17 : decode cX2_addCase 17 = .ok (.istore_n 3, 1) := by decide +kernel
theorem dX2_addCase_18 : decode cX2_addCase 18 = .ok (.aload_n 0, 1) := by decide +kernel
theorem dX2_addCase_19 : decode cX2_addCase 19 = .ok (.iload_n 3, 1) := by decide +kernel
theorem dX2_addCase_20 : decode cX2_addCase 20 = .ok (.invokevirtual 119, 3) := by decide +kernel
theorem dX2_addCase_23 : decode cX2_addCase 23 = .ok (.aload_n 0, 1) := by decide +kernel
theorem dX2_addCase_24 : decode cX2_addCase 24 = .ok (.getfield 24, 3) := by decide +kernel
theorem dX2_addCase_27 : decode cX2_addCase 27 = .ok (.aload_n 0, 1) := by decide +kernel
theorem dX2_addCase_28 : decode cX2_addCase 28 = .ok (.getfield 61, 3) := by decide +kernel
theorem dX2_addCase_31 : decode cX2_addCase 31 = .ok (.iload_n 1, 1) := by decide +kernel
theorem dX2_addCase_32 : decode cX2_addCase 32 = .ok (.iastore, 1) := by decide +kernel
theorem dX2_addCase_33 : decode cX2_addCase 33 = .ok (.aload_n 0, 1) := by decide +kernel
theorem dX2_addCase_34 : decode cX2_addCase 34 = .ok (.getfield 27, 3) := by decide +kernel
theorem dX2_addCase_37 : decode cX2_addCase 37 = .ok (.aload_n 0, 1) := by decide +kernel
theorem dX2_addCase_38 : decode cX2_addCase 38 = .ok (.getfield 61, 3) := by decide +kernel
theorem dX2_addCase_41 : decode cX2_addCase 41 = .ok (.iload_n 2, 1) := by decide +kernel
theorem dX2_addCase_42 : decode cX2_addCase 42 = .ok (.iastore, 1) := by decide +kernel
theorem dX2_addCase_43 : decode cX2_addCase 43 = .ok (.aload_n 0, 1) := by decide +kernel
theorem dX2_addCase_44 : decode cX2_addCase 44 = .ok (.getfield 30, 3) := by decide +kernel
theorem dX2_addCase_47 : decode cX2_addCase 47 = .ok (.aload_n 0, 1) := by decide +kernel
theorem dX2_addCase_48 : decode cX2_addCase 48 = .ok (.getfield 61, 3) := by decide +kernel
theorem dX2_addCase_51 : decode cX2_addCase 51 = .ok (.iload_n 3, 1) := by decide +kernel
theorem dX2_addCase_52 : decode cX2_addCase 52 = .ok (.iastore, 1) := by decide +kernel
theorem dX2_addCase_53 : decode cX2_addCase 53 = .ok (.aload_n 0, 1) := by decide +kernel
theorem dX2_addCase_54 : decode cX2_addCase 54 = .ok (.dup, 1) := by decide +kernel
theorem dX2_addCase_55 : decode cX2_addCase 55 = .ok (.getfield 61, 3) := by decide +kernel
theorem dX2_addCase_58 : decode cX2_addCase 58 = .ok (.iconst 1, 1) := by decide +kernel
theorem dX2_addCase_59 : decode cX2_addCase 59 = .ok (.iadd, 1) := by decide +kernel
theorem dX2_addCase_60 : decode cX2_addCase 60 = .ok (.putfield 61, 3) := by decide +kernel
theorem dX2_addCase_63 : decode cX2_addCase 63 = .ok (.iload_n 3, 1) := by decide +kernel
theorem dX2_addCase_64 : decode cX2_addCase 64 = .ok (.ireturn, 1) := by decide +kernel
theorem dX2_addJudge_0 : decode cX2_addJudge 0 = .ok (.aload_n 0, 1) := by decide +kernel
theorem dX2_addJudge_1 : decode cX2_addJudge 1 = .ok (.getfield 52, 3) := by decide +kernel
theorem dX2_addJudge_4 : decode cX2_addJudge 4 = .ok (.bipush 6, 2) := by decide +kernel
theorem dX2_addJudge_6 : decode cX2_addJudge 6 = .ok (.if_icmp .lt 4, 3) := by decide +kernel
theorem dX2_addJudge_9 : decode cX2_addJudge 9 = .ok (.return_, 1) := by decide +kernel
theorem dX2_addJudge_10 : decode cX2_addJudge 10 = .ok (.aload_n 0, 1) := by decide +kernel
theorem dX2_addJudge_11 : decode cX2_addJudge 11 = .ok (.getfield 9, 3) := by decide +kernel
theorem dX2_addJudge_14 : decode cX2_addJudge 14 = .ok (.aload_n 0, 1) := by decide +kernel
theorem dX2_addJudge_15 : decode cX2_addJudge 15 = .ok (.getfield 52, 3) := by decide +kernel
theorem dX2_addJudge_18 : decode cX2_addJudge 18 = .ok (.iload_n 1, 1) := by decide +kernel
theorem dX2_addJudge_19 : decode cX2_addJudge 19 = .ok (.iastore, 1) := by decide +kernel
theorem dX2_addJudge_20 : decode cX2_addJudge 20 = .ok (.aload_n 0, 1) := by decide +kernel
theorem dX2_addJudge_21 : decode cX2_addJudge 21 = .ok (.getfield 15, 3) := by decide +kernel
theorem dX2_addJudge_24 : decode cX2_addJudge 24 = .ok (.aload_n 0, 1) := by decide +kernel
theorem dX2_addJudge_25 : decode cX2_addJudge 25 = .ok (.getfield 52, 3) := by decide +kernel
theorem dX2_addJudge_28 : decode cX2_addJudge 28 = .ok (.iload_n 2, 1) := by decide +kernel
theorem dX2_addJudge_29 : decode cX2_addJudge 29 = .ok (.iastore, 1) := by decide +kernel
theorem dX2_addJudge_30 : decode cX2_addJudge 30 = .ok (.aload_n 0, 1) := by decide +kernel
theorem dX2_addJudge_31 : decode cX2_addJudge 31 = .ok (.getfield 18, 3) := by decide +kernel
theorem dX2_addJudge_34 : decode cX2_addJudge 34 = .ok (.aload_n 0, 1) := by decide +kernel
theorem dX2_addJudge_35 : decode cX2_addJudge 35 = .ok (.getfield 52, 3) := by decide +kernel
theorem dX2_addJudge_38 : decode cX2_addJudge 38 = .ok (.iconst 0, 1) := by decide +kernel
theorem dX2_addJudge_39 : decode cX2_addJudge 39 = .ok (.iastore, 1) := by decide +kernel
theorem dX2_addJudge_40 : decode cX2_addJudge 40 = .ok (.aload_n 0, 1) := by decide +kernel
theorem dX2_addJudge_41 : decode cX2_addJudge 41 = .ok (.getfield 21, 3) := by decide +kernel
theorem dX2_addJudge_44 : decode cX2_addJudge 44 = .ok (.aload_n 0, 1) := by decide +kernel
theorem dX2_addJudge_45 : decode cX2_addJudge 45 = .ok (.getfield 52, 3) := by decide +kernel
theorem dX2_addJudge_48 : decode cX2_addJudge 48 = .ok (.iconst 0, 1) := by decide +kernel
theorem dX2_addJudge_49 : decode cX2_addJudge 49 = .ok (.iastore, 1) := by decide +kernel
theorem dX2_addJudge_50 : decode cX2_addJudge 50 = .ok (.aload_n 0, 1) := by decide +kernel
theorem dX2_addJudge_51 : decode cX2_addJudge 51 = .ok (.dup, 1) := by decide +kernel
theorem dX2_addJudge_52 : decode cX2_addJudge 52 = .ok (.getfield 52, 3) := by decide +kernel
theorem dX2_addJudge_55 : decode cX2_addJudge 55 = .ok (.iconst 1, 1) := by decide +kernel
theorem dX2_addJudge_56 : decode cX2_addJudge 56 = .ok (.iadd, 1) := by decide +kernel
theorem dX2_addJudge_57 : decode cX2_addJudge 57 = .ok (.putfield 52, 3) := by decide +kernel
theorem dX2_addJudge_60 : decode cX2_addJudge 60 = .ok (.return_, 1) := by decide +kernel
theorem dX2_casesOf_0 : decode cX2_casesOf 0 = .ok (.iconst 0, 1) := by decide +kernel
theorem dX2_casesOf_1 : decode cX2_casesOf 1 = .ok (.istore_n 2, 1) := by decide +kernel
theorem dX2_casesOf_2 : decode cX2_casesOf 2 = .ok (.iconst 0, 1) := by decide +kernel
theorem dX2_casesOf_3 : decode cX2_casesOf 3 = .ok (.istore_n 3, 1) := by decide +kernel
theorem dX2_casesOf_4 : decode cX2_casesOf 4 = .ok (.iload_n 3, 1) := by decide +kernel
theorem dX2_casesOf_5 : decode cX2_casesOf 5 = .ok (.aload_n 0, 1) := by decide +kernel
theorem dX2_casesOf_6 : decode cX2_casesOf 6 = .ok (.getfield 61, 3) := by decide +kernel
theorem dX2_casesOf_9 : decode cX2_casesOf 9 = .ok (.if_icmp .ge 22, 3) := by decide +kernel
theorem dX2_casesOf_12 : decode cX2_casesOf 12 = .ok (.aload_n 0, 1) := by decide +kernel
theorem dX2_casesOf_13 : decode cX2_casesOf 13 = .ok (.getfield 30, 3) := by decide +kernel
theorem dX2_casesOf_16 : decode cX2_casesOf 16 = .ok (.iload_n 3, 1) := by decide +kernel
theorem dX2_casesOf_17 : decode cX2_casesOf 17 = .ok (.iaload, 1) := by decide +kernel
theorem dX2_casesOf_18 : decode cX2_casesOf 18 = .ok (.iload_n 1, 1) := by decide +kernel
theorem dX2_casesOf_19 : decode cX2_casesOf 19 = .ok (.if_icmp .ne 6, 3) := by decide +kernel
theorem dX2_casesOf_22 : decode cX2_casesOf 22 = .ok (.iinc 2 1, 3) := by decide +kernel
theorem dX2_casesOf_25 : decode cX2_casesOf 25 = .ok (.iinc 3 1, 3) := by decide +kernel
theorem dX2_casesOf_28 : decode cX2_casesOf 28 = .ok (.goto (-24), 3) := by decide +kernel
theorem dX2_casesOf_31 : decode cX2_casesOf 31 = .ok (.iload_n 2, 1) := by decide +kernel
theorem dX2_casesOf_32 : decode cX2_casesOf 32 = .ok (.ireturn, 1) := by decide +kernel
theorem dX2_clearAll_0 : decode cX2_clearAll 0 = .ok (.aload_n 0, 1) := by decide +kernel
theorem dX2_clearAll_1 : decode cX2_clearAll 1 = .ok (.iconst 0, 1) := by decide +kernel
theorem dX2_clearAll_2 : decode cX2_clearAll 2 = .ok (.putfield 52, 3) := by decide +kernel
theorem dX2_clearAll_5 : decode cX2_clearAll 5 = .ok (.aload_n 0, 1) := by decide +kernel
theorem dX2_clearAll_6 : decode cX2_clearAll 6 = .ok (.iconst 0, 1) := by decide +kernel
theorem dX2_clearAll_7 : decode cX2_clearAll 7 = .ok (.putfield 55, 3) := by decide +kernel
theorem dX2_clearAll_10 : decode cX2_clearAll 10 = .ok (.aload_n 0, 1) := by decide +kernel
theorem dX2_clearAll_11 : decode cX2_clearAll 11 = .ok (.iconst 0, 1) := by decide +kernel
theorem dX2_clearAll_12 : decode cX2_clearAll 12 = .ok (.putfield 36, 3) := by decide +kernel
theorem dX2_clearAll_15 : decode cX2_clearAll 15 = .ok (.aload_n 0, 1) := by decide +kernel
theorem dX2_clearAll_16 : decode cX2_clearAll 16 = .ok (.iconst 1, 1) := by decide +kernel
theorem dX2_clearAll_17 : decode cX2_clearAll 17 = .ok (.invokevirtual 64, 3) := by decide +kernel
theorem dX2_clearAll_20 : decode cX2_clearAll 20 = .ok (.return_, 1) := by decide +kernel
theorem dX2_copyFrom_0 : decode cX2_copyFrom 0 = .ok (.aload_n 1, 1) := by decide +kernel
theorem dX2_copyFrom_1 : decode cX2_copyFrom 1 = .ok (.getfield 9, 3) := by decide +kernel
theorem dX2_copyFrom_4 : decode cX2_copyFrom 4 = .ok (.iconst 0, 1) := by decide +kernel
theorem dX2_copyFrom_5 : decode cX2_copyFrom 5 = .ok (.aload_n 0, 1) := by decide +kernel
theorem dX2_copyFrom_6 : decode cX2_copyFrom 6 = .ok (.getfield 9, 3) := by decide +kernel
theorem dX2_copyFrom_9 : decode cX2_copyFrom 9 = .ok (.iconst 0, 1) := by decide +kernel
theorem dX2_copyFrom_10 : decode cX2_copyFrom 10 = .ok (.bipush 6, 2) := by decide +kernel
theorem dX2_copyFrom_12 : decode cX2_copyFrom 12 = .ok (.invokestatic 46, 3) := by decide +kernel
theorem dX2_copyFrom_15 : decode cX2_copyFrom 15 = .ok (.aload_n 1, 1) := by decide +kernel
theorem dX2_copyFrom_16 : decode cX2_copyFrom 16 = .ok (.getfield 15, 3) := by decide +kernel
theorem dX2_copyFrom_19 : decode cX2_copyFrom 19 = .ok (.iconst 0, 1) := by decide +kernel
theorem dX2_copyFrom_20 : decode cX2_copyFrom 20 = .ok (.aload_n 0, 1) := by decide +kernel
theorem dX2_copyFrom_21 : decode cX2_copyFrom 21 = .ok (.getfield 15, 3) := by decide +kernel
theorem dX2_copyFrom_24 : decode cX2_copyFrom 24 = .ok (.iconst 0, 1) := by decide +kernel
theorem dX2_copyFrom_25 : decode cX2_copyFrom 25 = .ok (.bipush 6, 2) := by decide +kernel
theorem dX2_copyFrom_27 : decode cX2_copyFrom 27 = .ok (.invokestatic 46, 3) := by decide +kernel
theorem dX2_copyFrom_30 : decode cX2_copyFrom 30 = .ok (.aload_n 1, 1) := by decide +kernel
theorem dX2_copyFrom_31 : decode cX2_copyFrom 31 = .ok (.getfield 18, 3) := by decide +kernel
theorem dX2_copyFrom_34 : decode cX2_copyFrom 34 = .ok (.iconst 0, 1) := by decide +kernel
theorem dX2_copyFrom_35 : decode cX2_copyFrom 35 = .ok (.aload_n 0, 1) := by decide +kernel
theorem dX2_copyFrom_36 : decode cX2_copyFrom 36 = .ok (.getfield 18, 3) := by decide +kernel
theorem dX2_copyFrom_39 : decode cX2_copyFrom 39 = .ok (.iconst 0, 1) := by decide +kernel
theorem dX2_copyFrom_40 : decode cX2_copyFrom 40 = .ok (.bipush 6, 2) := by decide +kernel
theorem dX2_copyFrom_42 : decode cX2_copyFrom 42 = .ok (.invokestatic 46, 3) := by decide +kernel
theorem dX2_copyFrom_45 : decode cX2_copyFrom 45 = .ok (.aload_n 1, 1) := by decide +kernel
theorem dX2_copyFrom_46 : decode cX2_copyFrom 46 = .ok (.getfield 21, 3) := by decide +kernel
theorem dX2_copyFrom_49 : decode cX2_copyFrom 49 = .ok (.iconst 0, 1) := by decide +kernel
theorem dX2_copyFrom_50 : decode cX2_copyFrom 50 = .ok (.aload_n 0, 1) := by decide +kernel
theorem dX2_copyFrom_51 : decode cX2_copyFrom 51 = .ok (.getfield 21, 3) := by decide +kernel
theorem dX2_copyFrom_54 : decode cX2_copyFrom 54 = .ok (.iconst 0, 1) := by decide +kernel
theorem dX2_copyFrom_55 : decode cX2_copyFrom 55 = .ok (.bipush 6, 2) := by decide +kernel
theorem dX2_copyFrom_57 : decode cX2_copyFrom 57 = .ok (.invokestatic 46, 3) := by decide +kernel
theorem dX2_copyFrom_60 : decode cX2_copyFrom 60 = .ok (.aload_n 1, 1) := by decide +kernel
theorem dX2_copyFrom_61 : decode cX2_copyFrom 61 = .ok (.getfield 24, 3) := by decide +kernel
theorem dX2_copyFrom_64 : decode cX2_copyFrom 64 = .ok (.iconst 0, 1) := by decide +kernel
theorem dX2_copyFrom_65 : decode cX2_copyFrom 65 = .ok (.aload_n 0, 1) := by decide +kernel
theorem dX2_copyFrom_66 : decode cX2_copyFrom 66 = .ok (.getfield 24, 3) := by decide +kernel
theorem dX2_copyFrom_69 : decode cX2_copyFrom 69 = .ok (.iconst 0, 1) := by decide +kernel
theorem dX2_copyFrom_70 : decode cX2_copyFrom 70 = .ok (.bipush 20, 2) := by decide +kernel
theorem dX2_copyFrom_72 : decode cX2_copyFrom 72 = .ok (.invokestatic 46, 3) := by decide +kernel
theorem dX2_copyFrom_75 : decode cX2_copyFrom 75 = .ok (.aload_n 1, 1) := by decide +kernel
theorem dX2_copyFrom_76 : decode cX2_copyFrom 76 = .ok (.getfield 27, 3) := by decide +kernel
theorem dX2_copyFrom_79 : decode cX2_copyFrom 79 = .ok (.iconst 0, 1) := by decide +kernel
theorem dX2_copyFrom_80 : decode cX2_copyFrom 80 = .ok (.aload_n 0, 1) := by decide +kernel
theorem dX2_copyFrom_81 : decode cX2_copyFrom 81 = .ok (.getfield 27, 3) := by decide +kernel
theorem dX2_copyFrom_84 : decode cX2_copyFrom 84 = .ok (.iconst 0, 1) := by decide +kernel
theorem dX2_copyFrom_85 : decode cX2_copyFrom 85 = .ok (.bipush 20, 2) := by decide +kernel
theorem dX2_copyFrom_87 : decode cX2_copyFrom 87 = .ok (.invokestatic 46, 3) := by decide +kernel
theorem dX2_copyFrom_90 : decode cX2_copyFrom 90 = .ok (.aload_n 1, 1) := by decide +kernel
theorem dX2_copyFrom_91 : decode cX2_copyFrom 91 = .ok (.getfield 30, 3) := by decide +kernel
theorem dX2_copyFrom_94 : decode cX2_copyFrom 94 = .ok (.iconst 0, 1) := by decide +kernel
theorem dX2_copyFrom_95 : decode cX2_copyFrom 95 = .ok (.aload_n 0, 1) := by decide +kernel
theorem dX2_copyFrom_96 : decode cX2_copyFrom 96 = .ok (.getfield 30, 3) := by decide +kernel
theorem dX2_copyFrom_99 : decode cX2_copyFrom 99 = .ok (.iconst 0, 1) := by decide +kernel
theorem dX2_copyFrom_100 : decode cX2_copyFrom 100 = .ok (.bipush 20, 2) := by decide +kernel
theorem dX2_copyFrom_102 : decode cX2_copyFrom 102 = .ok (.invokestatic 46, 3) := by decide +kernel
theorem dX2_copyFrom_105 : decode cX2_copyFrom 105 = .ok (.aload_n 0, 1) := by decide +kernel
theorem dX2_copyFrom_106 : decode cX2_copyFrom 106 = .ok (.aload_n 1, 1) := by decide +kernel
theorem dX2_copyFrom_107 : decode cX2_copyFrom 107 = .ok (.getfield 52, 3) := by decide +kernel
theorem dX2_copyFrom_110 : decode cX2_copyFrom 110 = .ok (.putfield 52, 3) := by decide +kernel
theorem dX2_copyFrom_113 : decode cX2_copyFrom 113 = .ok (.aload_n 0, 1) := by decide +kernel
theorem dX2_copyFrom_114 : decode cX2_copyFrom 114 = .ok (.aload_n 1, 1) := by decide +kernel
theorem dX2_copyFrom_115 : decode cX2_copyFrom 115 = .ok (.getfield 55, 3) := by decide +kernel
theorem dX2_copyFrom_118 : decode cX2_copyFrom 118 = .ok (.putfield 55, 3) := by decide +kernel
theorem dX2_copyFrom_121 : decode cX2_copyFrom 121 = .ok (.aload_n 0, 1) := by decide +kernel
theorem dX2_copyFrom_122 : decode cX2_copyFrom 122 = .ok (.aload_n 1, 1) := by decide +kernel
theorem dX2_copyFrom_123 : decode cX2_copyFrom 123 = .ok (.getfield 36, 3) := by decide +kernel
theorem dX2_copyFrom_126 : decode cX2_copyFrom 126 = .ok (.putfield 36, 3) := by decide +kernel
theorem dX2_copyFrom_129 : decode cX2_copyFrom 129 = .ok (.aload_n 0, 1) := by decide +kernel
theorem dX2_copyFrom_130 : decode cX2_copyFrom 130 = .ok (.aload_n 1, 1) := by decide +kernel
theorem dX2_copyFrom_131 : decode cX2_copyFrom 131 = .ok (.getfield 40, 3) := by decide +kernel
theorem dX2_copyFrom_134 : decode cX2_copyFrom 134 = .ok (.putfield 40, 3) := by decide +kernel
theorem dX2_copyFrom_137 : decode cX2_copyFrom 137 = .ok (.aload_n 0, 1) := by decide +kernel
theorem dX2_copyFrom_138 : decode cX2_copyFrom 138 = .ok (.aload_n 1, 1) := by decide +kernel
theorem dX2_copyFrom_139 : decode cX2_copyFrom 139 = .ok (.getfield 43, 3) := by decide +kernel
theorem dX2_copyFrom_142 : decode cX2_copyFrom 142 = .ok (.putfield 43, 3) := by decide +kernel
theorem dX2_copyFrom_145 : decode cX2_copyFrom 145 = .ok (.aload_n 0, 1) := by decide +kernel
theorem dX2_copyFrom_146 : decode cX2_copyFrom 146 = .ok (.aload_n 1, 1) := by decide +kernel
theorem dX2_copyFrom_147 : decode cX2_copyFrom 147 = .ok (.getfield 58, 3) := by decide +kernel
theorem dX2_copyFrom_150 : decode cX2_copyFrom 150 = .ok (.putfield 58, 3) := by decide +kernel
theorem dX2_copyFrom_153 : decode cX2_copyFrom 153 = .ok (.aload_n 0, 1) := by decide +kernel
theorem dX2_copyFrom_154 : decode cX2_copyFrom 154 = .ok (.aload_n 1, 1) := by decide +kernel
theorem dX2_copyFrom_155 : decode cX2_copyFrom 155 = .ok (.getfield 61, 3) := by decide +kernel
theorem dX2_copyFrom_158 : decode cX2_copyFrom 158 = .ok (.putfield 61, 3) := by decide +kernel
theorem dX2_copyFrom_161 : decode cX2_copyFrom 161 = .ok (.return_, 1) := by decide +kernel
theorem dX2_drawBelow_0 : decode cX2_drawBelow 0 = .ok (.iload_n 1, 1) := by decide +kernel
theorem dX2_drawBelow_1 : decode cX2_drawBelow 1 = .ok (.iconst 1, 1) := by decide +kernel
theorem dX2_drawBelow_2 : decode cX2_drawBelow 2 = .ok (.if_icmp .ge 5, 3) := by decide +kernel
theorem dX2_drawBelow_5 : decode cX2_drawBelow 5 = .ok (.iconst 0, 1) := by decide +kernel
theorem dX2_drawBelow_6 : decode cX2_drawBelow 6 = .ok (.ireturn, 1) := by decide +kernel
theorem dX2_drawBelow_7 : decode cX2_drawBelow 7 = .ok (.iload_n 1, 1) := by decide +kernel
theorem dX2_drawBelow_8 : decode cX2_drawBelow 8 = .ok (.i2l, 1) := by decide +kernel
theorem dX2_drawBelow_9 : decode cX2_drawBelow 9 = .ok (.ldc2_w 108, 3) := by decide +kernel
theorem dX2_drawBelow_12 : decode cX2_drawBelow 12 = .ok (.iload_n 1, 1) := by decide +kernel
theorem dX2_drawBelow_13 : decode cX2_drawBelow 13 = .ok (.i2l, 1) := by decide +kernel
theorem dX2_drawBelow_14 : decode cX2_drawBelow 14 = .ok (.ldiv, 1) := by decide +kernel
theorem dX2_drawBelow_15 : decode cX2_drawBelow 15 = .ok (.lmul, 1) := by decide +kernel
theorem dX2_drawBelow_16 : decode cX2_drawBelow 16 = .ok (.lstore_n 2, 1) := by decide +kernel
theorem dX2_drawBelow_17 : decode cX2_drawBelow 17 = .ok (.iconst 0, 1) := by decide +kernel
theorem dX2_drawBelow_18 : decode cX2_drawBelow 18 = .ok (.istore 4, 2) := by decide +kernel
theorem dX2_drawBelow_20 : decode cX2_drawBelow 20 = .ok (.iload 4, 2) := by decide +kernel
theorem dX2_drawBelow_22 : decode cX2_drawBelow 22 = .ok (.ldc 101, 2) := by decide +kernel
theorem dX2_drawBelow_24 : decode cX2_drawBelow 24 = .ok (.if_icmp .ge 51, 3) := by decide +kernel
theorem dX2_drawBelow_27 : decode cX2_drawBelow 27 = .ok (.aload_n 0, 1) := by decide +kernel
theorem dX2_drawBelow_28 : decode cX2_drawBelow 28 = .ok (.aload_n 0, 1) := by decide +kernel
theorem dX2_drawBelow_29 : decode cX2_drawBelow 29 = .ok (.getfield 43, 3) := by decide +kernel
theorem dX2_drawBelow_32 : decode cX2_drawBelow 32 = .ok (.invokestatic 110, 3) := by decide +kernel
theorem dX2_drawBelow_35 : decode cX2_drawBelow 35 = .ok (.putfield 43, 3) := by decide +kernel
theorem dX2_drawBelow_38 : decode cX2_drawBelow 38 = .ok (.aload_n 0, 1) := by decide +kernel
theorem dX2_drawBelow_39 : decode cX2_drawBelow 39 = .ok (.dup, 1) := by decide +kernel
theorem dX2_drawBelow_40 : decode cX2_drawBelow 40 = .ok (.getfield 58, 3) := by decide +kernel
theorem dX2_drawBelow_43 : decode cX2_drawBelow 43 = .ok (.iconst 1, 1) := by decide +kernel
theorem dX2_drawBelow_44 : decode cX2_drawBelow 44 = .ok (.iadd, 1) := by decide +kernel
theorem dX2_drawBelow_45 : decode cX2_drawBelow 45 = .ok (.putfield 58, 3) := by decide +kernel
theorem dX2_drawBelow_48 : decode cX2_drawBelow 48 = .ok (.aload_n 0, 1) := by decide +kernel
theorem dX2_drawBelow_49 : decode cX2_drawBelow 49 = .ok (.getfield 43, 3) := by decide +kernel
theorem dX2_drawBelow_52 : decode cX2_drawBelow 52 = .ok (.iconst 1, 1) := by decide +kernel
theorem dX2_drawBelow_53 : decode cX2_drawBelow 53 = .ok (.iushr, 1) := by decide +kernel
theorem dX2_drawBelow_54 : decode cX2_drawBelow 54 = .ok (.istore 5, 2) := by decide +kernel
theorem dX2_drawBelow_56 : decode cX2_drawBelow 56 = .ok (.iload 5, 2) := by decide +kernel
theorem dX2_drawBelow_58 : decode cX2_drawBelow 58 = .ok (.i2l, 1) := by decide +kernel
theorem dX2_drawBelow_59 : decode cX2_drawBelow 59 = .ok (.lload_n 2, 1) := by decide +kernel
theorem dX2_drawBelow_60 : decode cX2_drawBelow 60 = .ok (.lcmp, 1) := by decide +kernel
theorem dX2_drawBelow_61 : decode cX2_drawBelow 61 = .ok (.ifCond .ge 8, 3) := by decide +kernel
theorem dX2_drawBelow_64 : decode cX2_drawBelow 64 = .ok (.iload 5, 2) := by decide +kernel
theorem dX2_drawBelow_66 : decode cX2_drawBelow 66 = .ok (.iload_n 1, 1) := by decide +kernel
theorem dX2_drawBelow_67 : decode cX2_drawBelow 67 = .ok (.irem, 1) := by decide +kernel
theorem dX2_drawBelow_68 : decode cX2_drawBelow 68 = .ok (.ireturn, 1) := by decide +kernel
theorem dX2_drawBelow_69 : decode cX2_drawBelow 69 = .ok (.iinc 4 1, 3) := by decide +kernel
theorem dX2_drawBelow_72 : decode cX2_drawBelow 72 = .ok (.goto (-52), 3) := by decide +kernel
theorem dX2_drawBelow_75 : decode cX2_drawBelow 75 = .ok (.iconst 0, 1) := by decide +kernel
theorem dX2_drawBelow_76 : decode cX2_drawBelow 76 = .ok (.ireturn, 1) := by decide +kernel
theorem dX2_drawCaseAgain_0 : decode cX2_drawCaseAgain 0 = .ok (.aload_n 0, 1) := by decide +kernel
theorem dX2_drawCaseAgain_1 : decode cX2_drawCaseAgain 1 = .ok (.getfield 18, 3) := by decide +kernel
theorem dX2_drawCaseAgain_4 : decode cX2_drawCaseAgain 4 = .ok (.aload_n 0, 1) := by decide +kernel
theorem dX2_drawCaseAgain_5 : decode cX2_drawCaseAgain 5 = .ok (.getfield 30, 3) := by decide +kernel
theorem dX2_drawCaseAgain_8 : decode cX2_drawCaseAgain 8 = .ok (.iload_n 1, 1) := by decide +kernel
theorem dX2_drawCaseAgain_9 : decode cX2_drawCaseAgain 9 = .ok (.iaload, 1) := by decide +kernel
theorem dX2_drawCaseAgain_10 : decode cX2_drawCaseAgain 10 = .ok (.dup2, 1) := by decide +kernel
theorem dX2_drawCaseAgain_11 : decode cX2_drawCaseAgain 11 = .ok (.iaload, 1) := by decide +kernel
theorem dX2_drawCaseAgain_12 : decode cX2_drawCaseAgain 12 = .ok (.iconst 1, 1) := by decide +kernel
theorem dX2_drawCaseAgain_13 : decode cX2_drawCaseAgain 13 = .ok (.aload_n 0, 1) := by decide +kernel
theorem dX2_drawCaseAgain_14 : decode cX2_drawCaseAgain 14 = .ok (.getfield 27, 3) := by decide +kernel
theorem dX2_drawCaseAgain_17 : decode cX2_drawCaseAgain 17 = .ok (.iload_n 1, 1) := by decide +kernel
theorem dX2_drawCaseAgain_18 : decode cX2_drawCaseAgain 18 = .ok (.iaload, 1) := by decide +kernel
theorem dX2_drawCaseAgain_19 : decode cX2_drawCaseAgain 19 = .ok (.ishl, 1) := by decide +kernel
theorem dX2_drawCaseAgain_20 : decode cX2_drawCaseAgain 20 = .ok (.ior, 1) := by decide +kernel
theorem dX2_drawCaseAgain_21 : decode cX2_drawCaseAgain 21 = .ok (.iastore, 1) := by decide +kernel
theorem dX2_drawCaseAgain_22 : decode cX2_drawCaseAgain 22 = .ok (.aload_n 0, 1) := by decide +kernel
theorem dX2_drawCaseAgain_23 : decode cX2_drawCaseAgain 23 = .ok (.aload_n 0, 1) := by decide +kernel
theorem dX2_drawCaseAgain_24 : decode cX2_drawCaseAgain 24 = .ok (.getfield 24, 3) := by decide +kernel
theorem dX2_drawCaseAgain_27 : decode cX2_drawCaseAgain 27 = .ok (.iload_n 1, 1) := by decide +kernel
theorem dX2_drawCaseAgain_28 : decode cX2_drawCaseAgain 28 = .ok (.iaload, 1) := by decide +kernel
theorem dX2_drawCaseAgain_29 : decode cX2_drawCaseAgain 29 = .ok (.aload_n 0, 1) := by decide +kernel
theorem dX2_drawCaseAgain_30 : decode cX2_drawCaseAgain 30 = .ok (.getfield 27, 3) := by decide +kernel
theorem dX2_drawCaseAgain_33 : decode cX2_drawCaseAgain 33 = .ok (.iload_n 1, 1) := by decide +kernel
theorem dX2_drawCaseAgain_34 : decode cX2_drawCaseAgain 34 = .ok (.iaload, 1) := by decide +kernel
theorem dX2_drawCaseAgain_35 : decode cX2_drawCaseAgain 35 = .ok (.invokevirtual 116, 3) := by decide +kernel
theorem dX2_drawCaseAgain_38 : decode cX2_drawCaseAgain 38 = .ok (.istore_n 2, 1) := by decide +kernel
theorem dX2_drawCaseAgain_39 : decode cX2_drawCaseAgain 39 = .ok (.aload_n 0, 1) := by decide +kernel
theorem dX2_drawCaseAgain_40 : decode cX2_drawCaseAgain 40 = .ok (.iload_n 2, 1) := by decide +kernel
theorem dX2_drawCaseAgain_41 : decode cX2_drawCaseAgain 41 = .ok (.invokevirtual 119, 3) := by decide +kernel
theorem dX2_drawCaseAgain_44 : decode cX2_drawCaseAgain 44 = .ok (.aload_n 0, 1) := by decide +kernel
theorem dX2_drawCaseAgain_45 : decode cX2_drawCaseAgain 45 = .ok (.getfield 30, 3) := by decide +kernel
theorem dX2_drawCaseAgain_48 : decode cX2_drawCaseAgain 48 = .ok (.iload_n 1, 1) := by decide +kernel
theorem dX2_drawCaseAgain_49 : decode cX2_drawCaseAgain 49 = .ok (.iload_n 2, 1) := by decide +kernel
theorem dX2_drawCaseAgain_50 : decode cX2_drawCaseAgain 50 = .ok (.iastore, 1) := by decide +kernel
theorem dX2_drawCaseAgain_51 : decode cX2_drawCaseAgain 51 = .ok (.iload_n 2, 1) := by decide +kernel
theorem dX2_drawCaseAgain_52 : decode cX2_drawCaseAgain 52 = .ok (.ireturn, 1) := by decide +kernel
theorem dX2_drawJudge_0 : decode cX2_drawJudge 0 = .ok (.aload_n 0, 1) := by decide +kernel
theorem dX2_drawJudge_1 : decode cX2_drawJudge 1 = .ok (.iload_n 1, 1) := by decide +kernel
theorem dX2_drawJudge_2 : decode cX2_drawJudge 2 = .ok (.invokevirtual 97, 3) := by decide +kernel
theorem dX2_drawJudge_5 : decode cX2_drawJudge 5 = .ok (.istore_n 3, 1) := by decide +kernel
theorem dX2_drawJudge_6 : decode cX2_drawJudge 6 = .ok (.iconst 0, 1) := by decide +kernel
theorem dX2_drawJudge_7 : decode cX2_drawJudge 7 = .ok (.istore 4, 2) := by decide +kernel
theorem dX2_drawJudge_9 : decode cX2_drawJudge 9 = .ok (.iload 4, 2) := by decide +kernel
theorem dX2_drawJudge_11 : decode cX2_drawJudge 11 = .ok (.ldc 101, 2) := by decide +kernel
theorem dX2_drawJudge_13 : decode cX2_drawJudge 13 = .ok (.if_icmp .ge 33, 3) := by decide +kernel
theorem dX2_drawJudge_16 : decode cX2_drawJudge 16 = .ok (.aload_n 0, 1) := by decide +kernel
theorem dX2_drawJudge_17 : decode cX2_drawJudge 17 = .ok (.aload_n 0, 1) := by decide +kernel
theorem dX2_drawJudge_18 : decode cX2_drawJudge 18 = .ok (.iload_n 3, 1) := by decide +kernel
theorem dX2_drawJudge_19 : decode cX2_drawJudge 19 = .ok (.invokevirtual 102, 3) := by decide +kernel
theorem dX2_drawJudge_22 : decode cX2_drawJudge 22 = .ok (.invokevirtual 105, 3) := by decide +kernel
theorem dX2_drawJudge_25 : decode cX2_drawJudge 25 = .ok (.istore 5, 2) := by decide +kernel
theorem dX2_drawJudge_27 : decode cX2_drawJudge 27 = .ok (.aload_n 0, 1) := by decide +kernel
theorem dX2_drawJudge_28 : decode cX2_drawJudge 28 = .ok (.iload 5, 2) := by decide +kernel
theorem dX2_drawJudge_30 : decode cX2_drawJudge 30 = .ok (.iload_n 2, 1) := by decide +kernel
theorem dX2_drawJudge_31 : decode cX2_drawJudge 31 = .ok (.invokevirtual 82, 3) := by decide +kernel
theorem dX2_drawJudge_34 : decode cX2_drawJudge 34 = .ok (.ifCond .eq 6, 3) := by decide +kernel
theorem dX2_drawJudge_37 : decode cX2_drawJudge 37 = .ok (.iload 5, 2) := by decide +kernel
theorem dX2_drawJudge_39 : decode cX2_drawJudge 39 = .ok (.ireturn, 1) := by decide +kernel
theorem dX2_drawJudge_40 : decode cX2_drawJudge 40 = .ok (.iinc 4 1, 3) := by decide +kernel
theorem dX2_drawJudge_43 : decode cX2_drawJudge 43 = .ok (.goto (-34), 3) := by decide +kernel
theorem dX2_drawJudge_46 : decode cX2_drawJudge 46 = .ok (.iconst 0, 1) := by decide +kernel
theorem dX2_drawJudge_47 : decode cX2_drawJudge 47 = .ok (.ireturn, 1) := by decide +kernel
theorem dX2_everyCaseHasSomeone_0 : decode cX2_everyCaseHasSomeone 0 = .ok (.iconst 0, 1) := by decide +kernel
theorem dX2_everyCaseHasSomeone_1 : decode cX2_everyCaseHasSomeone 1 = .ok (.istore_n 1, 1) := by decide +kernel
theorem dX2_everyCaseHasSomeone_2 : decode cX2_everyCaseHasSomeone 2 = .ok (.iload_n 1, 1) := by decide +kernel
theorem dX2_everyCaseHasSomeone_3 : decode cX2_everyCaseHasSomeone 3 = .ok (.aload_n 0, 1) := by decide +kernel
theorem dX2_everyCaseHasSomeone_4 : decode cX2_everyCaseHasSomeone 4 = .ok (.getfield 61, 3) := by decide +kernel
theorem dX2_everyCaseHasSomeone_7 : decode cX2_everyCaseHasSomeone 7 = .ok (.if_icmp .ge 25, 3) := by decide +kernel
theorem dX2_everyCaseHasSomeone_10 : decode cX2_everyCaseHasSomeone 10 = .ok (.aload_n 0, 1) := by decide +kernel
theorem dX2_everyCaseHasSomeone_11 : decode cX2_everyCaseHasSomeone 11 = .ok (.aload_n 0, 1) := by decide +kernel
theorem dX2_everyCaseHasSomeone_12 : decode cX2_everyCaseHasSomeone 12 = .ok (.getfield 27, 3) := by decide +kernel
theorem dX2_everyCaseHasSomeone_15 : decode cX2_everyCaseHasSomeone 15 = .ok (.iload_n 1, 1) := by decide +kernel
theorem dX2_everyCaseHasSomeone_16 : decode cX2_everyCaseHasSomeone 16 = .ok (.iaload, 1) := by decide +kernel
theorem dX2_everyCaseHasSomeone_17 : decode cX2_everyCaseHasSomeone 17 = .ok (.iconst (-1), 1) := by decide +kernel
theorem dX2_everyCaseHasSomeone_18 : decode cX2_everyCaseHasSomeone 18 = .ok (.invokevirtual 85, 3) := by decide +kernel
theorem dX2_everyCaseHasSomeone_21 : decode cX2_everyCaseHasSomeone 21 = .ok (.ifCond .ne 5, 3) := by decide +kernel
theorem dX2_everyCaseHasSomeone_24 : decode cX2_everyCaseHasSomeone 24 = .ok (.iconst 0, 1) := by decide +kernel
theorem dX2_everyCaseHasSomeone_25 : decode cX2_everyCaseHasSomeone 25 = .ok (.ireturn, 1) := by decide +kernel
theorem dX2_everyCaseHasSomeone_26 : decode cX2_everyCaseHasSomeone 26 = .ok (.iinc 1 1, 3) := by decide +kernel
theorem dX2_everyCaseHasSomeone_29 : decode cX2_everyCaseHasSomeone 29 = .ok (.goto (-27), 3) := by decide +kernel
theorem dX2_everyCaseHasSomeone_32 : decode cX2_everyCaseHasSomeone 32 = .ok (.iconst 1, 1) := by decide +kernel
theorem dX2_everyCaseHasSomeone_33 : decode cX2_everyCaseHasSomeone 33 = .ok (.ireturn, 1) := by decide +kernel
theorem dX2_hasCase_0 : decode cX2_hasCase 0 = .ok (.iload_n 1, 1) := by decide +kernel
theorem dX2_hasCase_1 : decode cX2_hasCase 1 = .ok (.ifCond .lt 15, 3) := by decide +kernel
theorem dX2_hasCase_4 : decode cX2_hasCase 4 = .ok (.iload_n 1, 1) := by decide +kernel
theorem dX2_hasCase_5 : decode cX2_hasCase 5 = .ok (.aload_n 0, 1) := by decide +kernel
theorem dX2_hasCase_6 : decode cX2_hasCase 6 = .ok (.getfield 61, 3) := by decide +kernel
theorem dX2_hasCase_9 : decode cX2_hasCase 9 = .ok (.if_icmp .ge 7, 3) := by decide +kernel
theorem dX2_hasCase_12 : decode cX2_hasCase 12 = .ok (.iconst 1, 1) := by decide +kernel
theorem dX2_hasCase_13 : decode cX2_hasCase 13 = .ok (.goto 4, 3) := by decide +kernel
theorem dX2_hasCase_16 : decode cX2_hasCase 16 = .ok (.iconst 0, 1) := by decide +kernel
theorem dX2_hasCase_17 : decode cX2_hasCase 17 = .ok (.ireturn, 1) := by decide +kernel
theorem dX2_hasJudge_0 : decode cX2_hasJudge 0 = .ok (.iload_n 1, 1) := by decide +kernel
theorem dX2_hasJudge_1 : decode cX2_hasJudge 1 = .ok (.ifCond .lt 15, 3) := by decide +kernel
theorem dX2_hasJudge_4 : decode cX2_hasJudge 4 = .ok (.iload_n 1, 1) := by decide +kernel
theorem dX2_hasJudge_5 : decode cX2_hasJudge 5 = .ok (.aload_n 0, 1) := by decide +kernel
theorem dX2_hasJudge_6 : decode cX2_hasJudge 6 = .ok (.getfield 52, 3) := by decide +kernel
theorem dX2_hasJudge_9 : decode cX2_hasJudge 9 = .ok (.if_icmp .ge 7, 3) := by decide +kernel
theorem dX2_hasJudge_12 : decode cX2_hasJudge 12 = .ok (.iconst 1, 1) := by decide +kernel
theorem dX2_hasJudge_13 : decode cX2_hasJudge 13 = .ok (.goto 4, 3) := by decide +kernel
theorem dX2_hasJudge_16 : decode cX2_hasJudge 16 = .ok (.iconst 0, 1) := by decide +kernel
theorem dX2_hasJudge_17 : decode cX2_hasJudge 17 = .ok (.ireturn, 1) := by decide +kernel
theorem dX2_hasSomeoneFor_0 : decode cX2_hasSomeoneFor 0 = .ok (.iconst 0, 1) := by decide +kernel
theorem dX2_hasSomeoneFor_1 : decode cX2_hasSomeoneFor 1 = .ok (.istore_n 3, 1) := by decide +kernel
theorem dX2_hasSomeoneFor_2 : decode cX2_hasSomeoneFor 2 = .ok (.iload_n 3, 1) := by decide +kernel
theorem dX2_hasSomeoneFor_3 : decode cX2_hasSomeoneFor 3 = .ok (.aload_n 0, 1) := by decide +kernel
theorem dX2_hasSomeoneFor_4 : decode cX2_hasSomeoneFor 4 = .ok (.getfield 52, 3) := by decide +kernel
theorem dX2_hasSomeoneFor_7 : decode cX2_hasSomeoneFor 7 = .ok (.if_icmp .ge 25, 3) := by decide +kernel
theorem dX2_hasSomeoneFor_10 : decode cX2_hasSomeoneFor 10 = .ok (.iload_n 3, 1) := by decide +kernel
theorem dX2_hasSomeoneFor_11 : decode cX2_hasSomeoneFor 11 = .ok (.iload_n 2, 1) := by decide +kernel
theorem dX2_hasSomeoneFor_12 : decode cX2_hasSomeoneFor 12 = .ok (.if_icmp .eq 14, 3) := by decide +kernel
theorem dX2_hasSomeoneFor_15 : decode cX2_hasSomeoneFor 15 = .ok (.aload_n 0, 1) := by decide +kernel
theorem dX2_hasSomeoneFor_16 : decode cX2_hasSomeoneFor 16 = .ok (.iload_n 3, 1) := by decide +kernel
theorem dX2_hasSomeoneFor_17 : decode cX2_hasSomeoneFor 17 = .ok (.iload_n 1, 1) := by decide +kernel
theorem dX2_hasSomeoneFor_18 : decode cX2_hasSomeoneFor 18 = .ok (.invokevirtual 82, 3) := by decide +kernel
theorem dX2_hasSomeoneFor_21 : decode cX2_hasSomeoneFor 21 = .ok (.ifCond .eq 5, 3) := by decide +kernel
theorem dX2_hasSomeoneFor_24 : decode cX2_hasSomeoneFor 24 = .ok (.iconst 1, 1) := by decide +kernel
theorem dX2_hasSomeoneFor_25 : decode cX2_hasSomeoneFor 25 = .ok (.ireturn, 1) := by decide +kernel
theorem dX2_hasSomeoneFor_26 : decode cX2_hasSomeoneFor 26 = .ok (.iinc 3 1, 3) := by decide +kernel
theorem dX2_hasSomeoneFor_29 : decode cX2_hasSomeoneFor 29 = .ok (.goto (-27), 3) := by decide +kernel
theorem dX2_hasSomeoneFor_32 : decode cX2_hasSomeoneFor 32 = .ok (.iconst 0, 1) := by decide +kernel
theorem dX2_hasSomeoneFor_33 : decode cX2_hasSomeoneFor 33 = .ok (.ireturn, 1) := by decide +kernel
theorem dX2_init_0 : decode cX2_init 0 = .ok (.aload_n 0, 1) := by decide +kernel
theorem dX2_init_1 : decode cX2_init 1 = .ok (.invokespecial 3, 3) := by decide +kernel
theorem dX2_init_4 : decode cX2_init 4 = .ok (.aload_n 0, 1) := by decide +kernel
theorem dX2_init_5 : decode cX2_init 5 = .ok (.bipush 6, 2) := by decide +kernel
theorem dX2_init_7 : decode cX2_init 7 = .ok (.newarray .int, 2) := by decide +kernel
theorem dX2_init_9 : decode cX2_init 9 = .ok (.putfield 9, 3) := by decide +kernel
theorem dX2_init_12 : decode cX2_init 12 = .ok (.aload_n 0, 1) := by decide +kernel
theorem dX2_init_13 : decode cX2_init 13 = .ok (.bipush 6, 2) := by decide +kernel
theorem dX2_init_15 : decode cX2_init 15 = .ok (.newarray .int, 2) := by decide +kernel
theorem dX2_init_17 : decode cX2_init 17 = .ok (.putfield 15, 3) := by decide +kernel
theorem dX2_init_20 : decode cX2_init 20 = .ok (.aload_n 0, 1) := by decide +kernel
theorem dX2_init_21 : decode cX2_init 21 = .ok (.bipush 6, 2) := by decide +kernel
theorem dX2_init_23 : decode cX2_init 23 = .ok (.newarray .int, 2) := by decide +kernel
theorem dX2_init_25 : decode cX2_init 25 = .ok (.putfield 18, 3) := by decide +kernel
theorem dX2_init_28 : decode cX2_init 28 = .ok (.aload_n 0, 1) := by decide +kernel
theorem dX2_init_29 : decode cX2_init 29 = .ok (.bipush 6, 2) := by decide +kernel
theorem dX2_init_31 : decode cX2_init 31 = .ok (.newarray .int, 2) := by decide +kernel
theorem dX2_init_33 : decode cX2_init 33 = .ok (.putfield 21, 3) := by decide +kernel
theorem dX2_init_36 : decode cX2_init 36 = .ok (.aload_n 0, 1) := by decide +kernel
theorem dX2_init_37 : decode cX2_init 37 = .ok (.bipush 20, 2) := by decide +kernel
theorem dX2_init_39 : decode cX2_init 39 = .ok (.newarray .int, 2) := by decide +kernel
theorem dX2_init_41 : decode cX2_init 41 = .ok (.putfield 24, 3) := by decide +kernel
theorem dX2_init_44 : decode cX2_init 44 = .ok (.aload_n 0, 1) := by decide +kernel
theorem dX2_init_45 : decode cX2_init 45 = .ok (.bipush 20, 2) := by decide +kernel
theorem dX2_init_47 : decode cX2_init 47 = .ok (.newarray .int, 2) := by decide +kernel
theorem dX2_init_49 : decode cX2_init 49 = .ok (.putfield 27, 3) := by decide +kernel
theorem dX2_init_52 : decode cX2_init 52 = .ok (.aload_n 0, 1) := by decide +kernel
theorem dX2_init_53 : decode cX2_init 53 = .ok (.bipush 20, 2) := by decide +kernel
theorem dX2_init_55 : decode cX2_init 55 = .ok (.newarray .int, 2) := by decide +kernel
theorem dX2_init_57 : decode cX2_init 57 = .ok (.putfield 30, 3) := by decide +kernel
theorem dX2_init_60 : decode cX2_init 60 = .ok (.aload_n 0, 1) := by decide +kernel
theorem dX2_init_61 : decode cX2_init 61 = .ok (.bipush 6, 2) := by decide +kernel
theorem dX2_init_63 : decode cX2_init 63 = .ok (.newarray .int, 2) := by decide +kernel
theorem dX2_init_65 : decode cX2_init 65 = .ok (.putfield 33, 3) := by decide +kernel
theorem dX2_init_68 : decode cX2_init 68 = .ok (.aload_n 0, 1) := by decide +kernel
theorem dX2_init_69 : decode cX2_init 69 = .ok (.iconst 0, 1) := by decide +kernel
theorem dX2_init_70 : decode cX2_init 70 = .ok (.putfield 36, 3) := by decide +kernel
theorem dX2_init_73 : decode cX2_init 73 = .ok (.aload_n 0, 1) := by decide +kernel
theorem dX2_init_74 : decode cX2_init 74 = .ok (.iconst 1, 1) := by decide +kernel
theorem dX2_init_75 : decode cX2_init 75 = .ok (.putfield 40, 3) := by decide +kernel
theorem dX2_init_78 : decode cX2_init 78 = .ok (.aload_n 0, 1) := by decide +kernel
theorem dX2_init_79 : decode cX2_init 79 = .ok (.iconst 1, 1) := by decide +kernel
theorem dX2_init_80 : decode cX2_init 80 = .ok (.putfield 43, 3) := by decide +kernel
theorem dX2_init_83 : decode cX2_init 83 = .ok (.return_, 1) := by decide +kernel
theorem dX2_isAway_0 : decode cX2_isAway 0 = .ok (.aload_n 0, 1) := by decide +kernel
theorem dX2_isAway_1 : decode cX2_isAway 1 = .ok (.getfield 55, 3) := by decide +kernel
theorem dX2_isAway_4 : decode cX2_isAway 4 = .ok (.iload_n 1, 1) := by decide +kernel
theorem dX2_isAway_5 : decode cX2_isAway 5 = .ok (.ishr, 1) := by decide +kernel
theorem dX2_isAway_6 : decode cX2_isAway 6 = .ok (.iconst 1, 1) := by decide +kernel
theorem dX2_isAway_7 : decode cX2_isAway 7 = .ok (.iand, 1) := by decide +kernel
theorem dX2_isAway_8 : decode cX2_isAway 8 = .ok (.iconst 1, 1) := by decide +kernel
theorem dX2_isAway_9 : decode cX2_isAway 9 = .ok (.if_icmp .ne 7, 3) := by decide +kernel
theorem dX2_isAway_12 : decode cX2_isAway 12 = .ok (.iconst 1, 1) := by decide +kernel
theorem dX2_isAway_13 : decode cX2_isAway 13 = .ok (.goto 4, 3) := by decide +kernel
theorem dX2_isAway_16 : decode cX2_isAway 16 = .ok (.iconst 0, 1) := by decide +kernel
theorem dX2_isAway_17 : decode cX2_isAway 17 = .ok (.ireturn, 1) := by decide +kernel
theorem dX2_isBarred_0 : decode cX2_isBarred 0 = .ok (.aload_n 0, 1) := by decide +kernel
theorem dX2_isBarred_1 : decode cX2_isBarred 1 = .ok (.getfield 18, 3) := by decide +kernel
theorem dX2_isBarred_4 : decode cX2_isBarred 4 = .ok (.iload_n 1, 1) := by decide +kernel
theorem dX2_isBarred_5 : decode cX2_isBarred 5 = .ok (.iaload, 1) := by decide +kernel
theorem dX2_isBarred_6 : decode cX2_isBarred 6 = .ok (.iload_n 2, 1) := by decide +kernel
theorem dX2_isBarred_7 : decode cX2_isBarred 7 = .ok (.ishr, 1) := by decide +kernel
theorem dX2_isBarred_8 : decode cX2_isBarred 8 = .ok (.iconst 1, 1) := by decide +kernel
theorem dX2_isBarred_9 : decode cX2_isBarred 9 = .ok (.iand, 1) := by decide +kernel
theorem dX2_isBarred_10 : decode cX2_isBarred 10 = .ok (.iconst 1, 1) := by decide +kernel
theorem dX2_isBarred_11 : decode cX2_isBarred 11 = .ok (.if_icmp .ne 7, 3) := by decide +kernel
theorem dX2_isBarred_14 : decode cX2_isBarred 14 = .ok (.iconst 1, 1) := by decide +kernel
theorem dX2_isBarred_15 : decode cX2_isBarred 15 = .ok (.goto 4, 3) := by decide +kernel
theorem dX2_isBarred_18 : decode cX2_isBarred 18 = .ok (.iconst 0, 1) := by decide +kernel
theorem dX2_isBarred_19 : decode cX2_isBarred 19 = .ok (.ireturn, 1) := by decide +kernel
theorem dX2_isFreeFor_0 : decode cX2_isFreeFor 0 = .ok (.aload_n 0, 1) := by decide +kernel
theorem dX2_isFreeFor_1 : decode cX2_isFreeFor 1 = .ok (.iload_n 1, 1) := by decide +kernel
theorem dX2_isFreeFor_2 : decode cX2_isFreeFor 2 = .ok (.invokevirtual 74, 3) := by decide +kernel
theorem dX2_isFreeFor_5 : decode cX2_isFreeFor 5 = .ok (.ifCond .ne 16, 3) := by decide +kernel
theorem dX2_isFreeFor_8 : decode cX2_isFreeFor 8 = .ok (.aload_n 0, 1) := by decide +kernel
theorem dX2_isFreeFor_9 : decode cX2_isFreeFor 9 = .ok (.iload_n 1, 1) := by decide +kernel
theorem dX2_isFreeFor_10 : decode cX2_isFreeFor 10 = .ok (.iload_n 2, 1) := by decide +kernel
theorem dX2_isFreeFor_11 : decode cX2_isFreeFor 11 = .ok (.invokevirtual 78, 3) := by decide +kernel
theorem dX2_isFreeFor_14 : decode cX2_isFreeFor 14 = .ok (.ifCond .ne 7, 3) := by decide +kernel
theorem dX2_isFreeFor_17 : decode cX2_isFreeFor 17 = .ok (.iconst 1, 1) := by decide +kernel
theorem dX2_isFreeFor_18 : decode cX2_isFreeFor 18 = .ok (.goto 4, 3) := by decide +kernel
theorem dX2_isFreeFor_21 : decode cX2_isFreeFor 21 = .ok (.iconst 0, 1) := by decide +kernel
theorem dX2_isFreeFor_22 : decode cX2_isFreeFor 22 = .ok (.ireturn, 1) := by decide +kernel
theorem dX2_judgeReaching_0 : decode cX2_judgeReaching 0 = .ok (.iconst 0, 1) := by decide +kernel
theorem dX2_judgeReaching_1 : decode cX2_judgeReaching 1 = .ok (.istore_n 2, 1) := by decide +kernel
theorem dX2_judgeReaching_2 : decode cX2_judgeReaching 2 = .ok (.iload_n 2, 1) := by decide +kernel
theorem dX2_judgeReaching_3 : decode cX2_judgeReaching 3 = .ok (.aload_n 0, 1) := by decide +kernel
theorem dX2_judgeReaching_4 : decode cX2_judgeReaching 4 = .ok (.getfield 52, 3) := by decide +kernel
theorem dX2_judgeReaching_7 : decode cX2_judgeReaching 7 = .ok (.if_icmp .ge 21, 3) := by decide +kernel
theorem dX2_judgeReaching_10 : decode cX2_judgeReaching 10 = .ok (.aload_n 0, 1) := by decide +kernel
theorem dX2_judgeReaching_11 : decode cX2_judgeReaching 11 = .ok (.getfield 33, 3) := by decide +kernel
theorem dX2_judgeReaching_14 : decode cX2_judgeReaching 14 = .ok (.iload_n 2, 1) := by decide +kernel
theorem dX2_judgeReaching_15 : decode cX2_judgeReaching 15 = .ok (.iaload, 1) := by decide +kernel
theorem dX2_judgeReaching_16 : decode cX2_judgeReaching 16 = .ok (.iload_n 1, 1) := by decide +kernel
theorem dX2_judgeReaching_17 : decode cX2_judgeReaching 17 = .ok (.if_icmp .le 5, 3) := by decide +kernel
theorem dX2_judgeReaching_20 : decode cX2_judgeReaching 20 = .ok (.iload_n 2, 1) := by decide +kernel
theorem dX2_judgeReaching_21 : decode cX2_judgeReaching 21 = .ok (.ireturn, 1) := by decide +kernel
theorem dX2_judgeReaching_22 : decode cX2_judgeReaching 22 = .ok (.iinc 2 1, 3) := by decide +kernel
theorem dX2_judgeReaching_25 : decode cX2_judgeReaching 25 = .ok (.goto (-23), 3) := by decide +kernel
theorem dX2_judgeReaching_28 : decode cX2_judgeReaching 28 = .ok (.iconst 0, 1) := by decide +kernel
theorem dX2_judgeReaching_29 : decode cX2_judgeReaching 29 = .ok (.ireturn, 1) := by decide +kernel
theorem dX2_settleDebts_0 : decode cX2_settleDebts 0 = .ok (.iconst 0, 1) := by decide +kernel
theorem dX2_settleDebts_1 : decode cX2_settleDebts 1 = .ok (.istore_n 2, 1) := by decide +kernel
theorem dX2_settleDebts_2 : decode cX2_settleDebts 2 = .ok (.iconst 0, 1) := by decide +kernel
theorem dX2_settleDebts_3 : decode cX2_settleDebts 3 = .ok (.istore_n 3, 1) := by decide +kernel
theorem dX2_settleDebts_4 : decode cX2_settleDebts 4 = .ok (.iload_n 3, 1) := by decide +kernel
theorem dX2_settleDebts_5 : decode cX2_settleDebts 5 = .ok (.aload_n 0, 1) := by decide +kernel
theorem dX2_settleDebts_6 : decode cX2_settleDebts 6 = .ok (.getfield 52, 3) := by decide +kernel
theorem dX2_settleDebts_9 : decode cX2_settleDebts 9 = .ok (.if_icmp .ge 30, 3) := by decide +kernel
theorem dX2_settleDebts_12 : decode cX2_settleDebts 12 = .ok (.iload_n 2, 1) := by decide +kernel
theorem dX2_settleDebts_13 : decode cX2_settleDebts 13 = .ok (.aload_n 0, 1) := by decide +kernel
theorem dX2_settleDebts_14 : decode cX2_settleDebts 14 = .ok (.iload_n 3, 1) := by decide +kernel
theorem dX2_settleDebts_15 : decode cX2_settleDebts 15 = .ok (.invokevirtual 74, 3) := by decide +kernel
theorem dX2_settleDebts_18 : decode cX2_settleDebts 18 = .ok (.ifCond .eq 7, 3) := by decide +kernel
theorem dX2_settleDebts_21 : decode cX2_settleDebts 21 = .ok (.iconst 0, 1) := by decide +kernel
theorem dX2_settleDebts_22 : decode cX2_settleDebts 22 = .ok (.goto 9, 3) := by decide +kernel
theorem dX2_settleDebts_25 : decode cX2_settleDebts 25 = .ok (.aload_n 0, 1) := by decide +kernel
theorem dX2_settleDebts_26 : decode cX2_settleDebts 26 = .ok (.getfield 9, 3) := by decide +kernel
theorem dX2_settleDebts_29 : decode cX2_settleDebts 29 = .ok (.iload_n 3, 1) := by decide +kernel
theorem dX2_settleDebts_30 : decode cX2_settleDebts 30 = .ok (.iaload, 1) := by decide +kernel
theorem dX2_settleDebts_31 : decode cX2_settleDebts 31 = .ok (.iadd, 1) := by decide +kernel
theorem dX2_settleDebts_32 : decode cX2_settleDebts 32 = .ok (.istore_n 2, 1) := by decide +kernel
theorem dX2_settleDebts_33 : decode cX2_settleDebts 33 = .ok (.iinc 3 1, 3) := by decide +kernel
theorem dX2_settleDebts_36 : decode cX2_settleDebts 36 = .ok (.goto (-32), 3) := by decide +kernel
theorem dX2_settleDebts_39 : decode cX2_settleDebts 39 = .ok (.iconst 0, 1) := by decide +kernel
theorem dX2_settleDebts_40 : decode cX2_settleDebts 40 = .ok (.istore_n 3, 1) := by decide +kernel
theorem dX2_settleDebts_41 : decode cX2_settleDebts 41 = .ok (.iload_n 3, 1) := by decide +kernel
theorem dX2_settleDebts_42 : decode cX2_settleDebts 42 = .ok (.aload_n 0, 1) := by decide +kernel
theorem dX2_settleDebts_43 : decode cX2_settleDebts 43 = .ok (.getfield 52, 3) := by decide +kernel
theorem dX2_settleDebts_46 : decode cX2_settleDebts 46 = .ok (.if_icmp .ge 65, 3) := by decide +kernel
theorem dX2_settleDebts_49 : decode cX2_settleDebts 49 = .ok (.aload_n 0, 1) := by decide +kernel
theorem dX2_settleDebts_50 : decode cX2_settleDebts 50 = .ok (.getfield 21, 3) := by decide +kernel
theorem dX2_settleDebts_53 : decode cX2_settleDebts 53 = .ok (.iload_n 3, 1) := by decide +kernel
theorem dX2_settleDebts_54 : decode cX2_settleDebts 54 = .ok (.iaload, 1) := by decide +kernel
theorem dX2_settleDebts_55 : decode cX2_settleDebts 55 = .ok (.aload_n 0, 1) := by decide +kernel
theorem dX2_settleDebts_56 : decode cX2_settleDebts 56 = .ok (.iload_n 3, 1) := by decide +kernel
theorem dX2_settleDebts_57 : decode cX2_settleDebts 57 = .ok (.invokevirtual 74, 3) := by decide +kernel
theorem dX2_settleDebts_60 : decode cX2_settleDebts 60 = .ok (.ifCond .eq 7, 3) := by decide +kernel
theorem dX2_settleDebts_63 : decode cX2_settleDebts 63 = .ok (.iconst 0, 1) := by decide +kernel
theorem dX2_settleDebts_64 : decode cX2_settleDebts 64 = .ok (.goto 9, 3) := by decide +kernel
theorem dX2_settleDebts_67 : decode cX2_settleDebts 67 = .ok (.aload_n 0, 1) := by decide +kernel
theorem dX2_settleDebts_68 : decode cX2_settleDebts 68 = .ok (.getfield 9, 3) := by decide +kernel
theorem dX2_settleDebts_71 : decode cX2_settleDebts 71 = .ok (.iload_n 3, 1) := by decide +kernel
theorem dX2_settleDebts_72 : decode cX2_settleDebts 72 = .ok (.iaload, 1) := by decide +kernel
theorem dX2_settleDebts_73 : decode cX2_settleDebts 73 = .ok (.iadd, 1) := by decide +kernel
theorem dX2_settleDebts_74 : decode cX2_settleDebts 74 = .ok (.istore 4, 2) := by decide +kernel
theorem dX2_settleDebts_76 : decode cX2_settleDebts 76 = .ok (.iload_n 3, 1) := by decide +kernel
theorem dX2_settleDebts_77 : decode cX2_settleDebts 77 = .ok (.iload_n 1, 1) := by decide +kernel
theorem dX2_settleDebts_78 : decode cX2_settleDebts 78 = .ok (.if_icmp .ne 9, 3) := by decide +kernel
theorem dX2_settleDebts_81 : decode cX2_settleDebts 81 = .ok (.iload 4, 2) := by decide +kernel
theorem dX2_settleDebts_83 : decode cX2_settleDebts 83 = .ok (.iload_n 2, 1) := by decide +kernel
theorem dX2_settleDebts_84 : decode cX2_settleDebts 84 = .ok (.isub, 1) := by decide +kernel
theorem dX2_settleDebts_85 : decode cX2_settleDebts 85 = .ok (.istore 4, 2) := by decide +kernel
theorem dX2_settleDebts_87 : decode cX2_settleDebts 87 = .ok (.aload_n 0, 1) := by decide +kernel
theorem dX2_settleDebts_88 : decode cX2_settleDebts 88 = .ok (.getfield 21, 3) := by decide +kernel
theorem dX2_settleDebts_91 : decode cX2_settleDebts 91 = .ok (.iload_n 3, 1) := by decide +kernel
theorem dX2_settleDebts_92 : decode cX2_settleDebts 92 = .ok (.bipush (-99), 2) := by decide +kernel
theorem dX2_settleDebts_94 : decode cX2_settleDebts 94 = .ok (.bipush 99, 2) := by decide +kernel
theorem dX2_settleDebts_96 : decode cX2_settleDebts 96 = .ok (.iload 4, 2) := by decide +kernel
theorem dX2_settleDebts_98 : decode cX2_settleDebts 98 = .ok (.invokestatic 113, 3) := by decide +kernel
theorem dX2_settleDebts_101 : decode cX2_settleDebts 101 = .ok (.invokestatic 88, 3) := by decide +kernel
theorem dX2_settleDebts_104 : decode cX2_settleDebts 104 = .ok (.iastore, 1) := by decide +kernel
theorem dX2_settleDebts_105 : decode cX2_settleDebts 105 = .ok (.iinc 3 1, 3) := by decide +kernel
theorem dX2_settleDebts_108 : decode cX2_settleDebts 108 = .ok (.goto (-67), 3) := by decide +kernel
theorem dX2_settleDebts_111 : decode cX2_settleDebts 111 = .ok (.return_, 1) := by decide +kernel
theorem dX2_startAnew_0 : decode cX2_startAnew 0 = .ok (.aload_n 0, 1) := by decide +kernel
theorem dX2_startAnew_1 : decode cX2_startAnew 1 = .ok (.iload_n 1, 1) := by decide +kernel
theorem dX2_startAnew_2 : decode cX2_startAnew 2 = .ok (.putfield 40, 3) := by decide +kernel
theorem dX2_startAnew_5 : decode cX2_startAnew 5 = .ok (.aload_n 0, 1) := by decide +kernel
theorem dX2_startAnew_6 : decode cX2_startAnew 6 = .ok (.iload_n 1, 1) := by decide +kernel
theorem dX2_startAnew_7 : decode cX2_startAnew 7 = .ok (.putfield 43, 3) := by decide +kernel
theorem dX2_startAnew_10 : decode cX2_startAnew 10 = .ok (.aload_n 0, 1) := by decide +kernel
theorem dX2_startAnew_11 : decode cX2_startAnew 11 = .ok (.iconst 0, 1) := by decide +kernel
theorem dX2_startAnew_12 : decode cX2_startAnew 12 = .ok (.putfield 58, 3) := by decide +kernel
theorem dX2_startAnew_15 : decode cX2_startAnew 15 = .ok (.aload_n 0, 1) := by decide +kernel
theorem dX2_startAnew_16 : decode cX2_startAnew 16 = .ok (.iconst 0, 1) := by decide +kernel
theorem dX2_startAnew_17 : decode cX2_startAnew 17 = .ok (.putfield 61, 3) := by decide +kernel
theorem dX2_startAnew_20 : decode cX2_startAnew 20 = .ok (.aload_n 0, 1) := by decide +kernel
theorem dX2_startAnew_21 : decode cX2_startAnew 21 = .ok (.getfield 21, 3) := by decide +kernel
theorem dX2_startAnew_24 : decode cX2_startAnew 24 = .ok (.iconst 0, 1) := by decide +kernel
theorem dX2_startAnew_25 : decode cX2_startAnew 25 = .ok (.invokestatic 68, 3) := by decide +kernel
theorem dX2_startAnew_28 : decode cX2_startAnew 28 = .ok (.return_, 1) := by decide +kernel
theorem dX2_weighAll_0 : decode cX2_weighAll 0 = .ok (.iconst 0, 1) := by decide +kernel
theorem dX2_weighAll_1 : decode cX2_weighAll 1 = .ok (.istore_n 2, 1) := by decide +kernel
theorem dX2_weighAll_2 : decode cX2_weighAll 2 = .ok (.iconst 0, 1) := by decide +kernel
theorem dX2_weighAll_3 : decode cX2_weighAll 3 = .ok (.istore_n 3, 1) := by decide +kernel
theorem dX2_weighAll_4 : decode cX2_weighAll 4 = .ok (.iload_n 3, 1) := by decide +kernel
theorem dX2_weighAll_5 : decode cX2_weighAll 5 = .ok (.aload_n 0, 1) := by decide +kernel
theorem dX2_weighAll_6 : decode cX2_weighAll 6 = .ok (.getfield 52, 3) := by decide +kernel
theorem dX2_weighAll_9 : decode cX2_weighAll 9 = .ok (.if_icmp .ge 25, 3) := by decide +kernel
theorem dX2_weighAll_12 : decode cX2_weighAll 12 = .ok (.iload_n 2, 1) := by decide +kernel
theorem dX2_weighAll_13 : decode cX2_weighAll 13 = .ok (.aload_n 0, 1) := by decide +kernel
theorem dX2_weighAll_14 : decode cX2_weighAll 14 = .ok (.iload_n 3, 1) := by decide +kernel
theorem dX2_weighAll_15 : decode cX2_weighAll 15 = .ok (.iload_n 1, 1) := by decide +kernel
theorem dX2_weighAll_16 : decode cX2_weighAll 16 = .ok (.invokevirtual 94, 3) := by decide +kernel
theorem dX2_weighAll_19 : decode cX2_weighAll 19 = .ok (.iadd, 1) := by decide +kernel
theorem dX2_weighAll_20 : decode cX2_weighAll 20 = .ok (.istore_n 2, 1) := by decide +kernel
theorem dX2_weighAll_21 : decode cX2_weighAll 21 = .ok (.aload_n 0, 1) := by decide +kernel
theorem dX2_weighAll_22 : decode cX2_weighAll 22 = .ok (.getfield 33, 3) := by decide +kernel
theorem dX2_weighAll_25 : decode cX2_weighAll 25 = .ok (.iload_n 3, 1) := by decide +kernel
theorem dX2_weighAll_26 : decode cX2_weighAll 26 = .ok (.iload_n 2, 1) := by decide +kernel
theorem dX2_weighAll_27 : decode cX2_weighAll 27 = .ok (.iastore, 1) := by decide +kernel
theorem dX2_weighAll_28 : decode cX2_weighAll 28 = .ok (.iinc 3 1, 3) := by decide +kernel
theorem dX2_weighAll_31 : decode cX2_weighAll 31 = .ok (.goto (-27), 3) := by decide +kernel
theorem dX2_weighAll_34 : decode cX2_weighAll 34 = .ok (.iload_n 2, 1) := by decide +kernel
theorem dX2_weighAll_35 : decode cX2_weighAll 35 = .ok (.ireturn, 1) := by decide +kernel
theorem dX2_weightOf_0 : decode cX2_weightOf 0 = .ok (.aload_n 0, 1) := by decide +kernel
theorem dX2_weightOf_1 : decode cX2_weightOf 1 = .ok (.iload_n 1, 1) := by decide +kernel
theorem dX2_weightOf_2 : decode cX2_weightOf 2 = .ok (.invokevirtual 74, 3) := by decide +kernel
theorem dX2_weightOf_5 : decode cX2_weightOf 5 = .ok (.ifCond .eq 5, 3) := by decide +kernel
theorem dX2_weightOf_8 : decode cX2_weightOf 8 = .ok (.iconst 0, 1) := by decide +kernel
theorem dX2_weightOf_9 : decode cX2_weightOf 9 = .ok (.ireturn, 1) := by decide +kernel
theorem dX2_weightOf_10 : decode cX2_weightOf 10 = .ok (.aload_n 0, 1) := by decide +kernel
theorem dX2_weightOf_11 : decode cX2_weightOf 11 = .ok (.getfield 9, 3) := by decide +kernel
theorem dX2_weightOf_14 : decode cX2_weightOf 14 = .ok (.iload_n 1, 1) := by decide +kernel
theorem dX2_weightOf_15 : decode cX2_weightOf 15 = .ok (.iaload, 1) := by decide +kernel
theorem dX2_weightOf_16 : decode cX2_weightOf 16 = .ok (.istore_n 3, 1) := by decide +kernel
theorem dX2_weightOf_17 : decode cX2_weightOf 17 = .ok (.aload_n 0, 1) := by decide +kernel
theorem dX2_weightOf_18 : decode cX2_weightOf 18 = .ok (.getfield 36, 3) := by decide +kernel
theorem dX2_weightOf_21 : decode cX2_weightOf 21 = .ok (.iconst 1, 1) := by decide +kernel
theorem dX2_weightOf_22 : decode cX2_weightOf 22 = .ok (.iand, 1) := by decide +kernel
theorem dX2_weightOf_23 : decode cX2_weightOf 23 = .ok (.ifCond .eq 21, 3) := by decide +kernel
theorem dX2_weightOf_26 : decode cX2_weightOf 26 = .ok (.aload_n 0, 1) := by decide +kernel
theorem dX2_weightOf_27 : decode cX2_weightOf 27 = .ok (.getfield 15, 3) := by decide +kernel
theorem dX2_weightOf_30 : decode cX2_weightOf 30 = .ok (.iload_n 1, 1) := by decide +kernel
theorem dX2_weightOf_31 : decode cX2_weightOf 31 = .ok (.iaload, 1) := by decide +kernel
theorem dX2_weightOf_32 : decode cX2_weightOf 32 = .ok (.iload_n 2, 1) := by decide +kernel
theorem dX2_weightOf_33 : decode cX2_weightOf 33 = .ok (.ishr, 1) := by decide +kernel
theorem dX2_weightOf_34 : decode cX2_weightOf 34 = .ok (.iconst 1, 1) := by decide +kernel
theorem dX2_weightOf_35 : decode cX2_weightOf 35 = .ok (.iand, 1) := by decide +kernel
theorem dX2_weightOf_36 : decode cX2_weightOf 36 = .ok (.iconst 1, 1) := by decide +kernel
theorem dX2_weightOf_37 : decode cX2_weightOf 37 = .ok (.if_icmp .ne 7, 3) := by decide +kernel
theorem dX2_weightOf_40 : decode cX2_weightOf 40 = .ok (.iload_n 3, 1) := by decide +kernel
theorem dX2_weightOf_41 : decode cX2_weightOf 41 = .ok (.iload_n 3, 1) := by decide +kernel
theorem dX2_weightOf_42 : decode cX2_weightOf 42 = .ok (.iadd, 1) := by decide +kernel
theorem dX2_weightOf_43 : decode cX2_weightOf 43 = .ok (.istore_n 3, 1) := by decide +kernel
theorem dX2_weightOf_44 : decode cX2_weightOf 44 = .ok (.aload_n 0, 1) := by decide +kernel
theorem dX2_weightOf_45 : decode cX2_weightOf 45 = .ok (.getfield 36, 3) := by decide +kernel
theorem dX2_weightOf_48 : decode cX2_weightOf 48 = .ok (.iconst 2, 1) := by decide +kernel
theorem dX2_weightOf_49 : decode cX2_weightOf 49 = .ok (.iand, 1) := by decide +kernel
theorem dX2_weightOf_50 : decode cX2_weightOf 50 = .ok (.ifCond .eq 12, 3) := by decide +kernel
theorem dX2_weightOf_53 : decode cX2_weightOf 53 = .ok (.iload_n 3, 1) := by decide +kernel
theorem dX2_weightOf_54 : decode cX2_weightOf 54 = .ok (.aload_n 0, 1) := by decide +kernel
theorem dX2_weightOf_55 : decode cX2_weightOf 55 = .ok (.getfield 21, 3) := by decide +kernel
theorem dX2_weightOf_58 : decode cX2_weightOf 58 = .ok (.iload_n 1, 1) := by decide +kernel
theorem dX2_weightOf_59 : decode cX2_weightOf 59 = .ok (.iaload, 1) := by decide +kernel
theorem dX2_weightOf_60 : decode cX2_weightOf 60 = .ok (.iadd, 1) := by decide +kernel
theorem dX2_weightOf_61 : decode cX2_weightOf 61 = .ok (.istore_n 3, 1) := by decide +kernel
theorem dX2_weightOf_62 : decode cX2_weightOf 62 = .ok (.iload_n 3, 1) := by decide +kernel
theorem dX2_weightOf_63 : decode cX2_weightOf 63 = .ok (.iconst 1, 1) := by decide +kernel
theorem dX2_weightOf_64 : decode cX2_weightOf 64 = .ok (.invokestatic 88, 3) := by decide +kernel
theorem dX2_weightOf_67 : decode cX2_weightOf 67 = .ok (.ireturn, 1) := by decide +kernel
theorem dX2_weightsFreeFor_0 : decode cX2_weightsFreeFor 0 = .ok (.iconst 0, 1) := by decide +kernel
theorem dX2_weightsFreeFor_1 : decode cX2_weightsFreeFor 1 = .ok (.istore_n 3, 1) := by decide +kernel
theorem dX2_weightsFreeFor_2 : decode cX2_weightsFreeFor 2 = .ok (.iconst 0, 1) := by decide +kernel
theorem dX2_weightsFreeFor_3 : decode cX2_weightsFreeFor 3 = .ok (.istore 4, 2) := by decide +kernel
theorem dX2_weightsFreeFor_5 : decode cX2_weightsFreeFor 5 = .ok (.iload 4, 2) := by decide +kernel
theorem dX2_weightsFreeFor_7 : decode cX2_weightsFreeFor 7 = .ok (.aload_n 0, 1) := by decide +kernel
theorem dX2_weightsFreeFor_8 : decode cX2_weightsFreeFor 8 = .ok (.getfield 52, 3) := by decide +kernel
theorem dX2_weightsFreeFor_11 : decode cX2_weightsFreeFor 11 = .ok (.if_icmp .ge 29, 3) := by decide +kernel
theorem dX2_weightsFreeFor_14 : decode cX2_weightsFreeFor 14 = .ok (.aload_n 0, 1) := by decide +kernel
theorem dX2_weightsFreeFor_15 : decode cX2_weightsFreeFor 15 = .ok (.iload 4, 2) := by decide +kernel
theorem dX2_weightsFreeFor_17 : decode cX2_weightsFreeFor 17 = .ok (.iload_n 2, 1) := by decide +kernel
theorem dX2_weightsFreeFor_18 : decode cX2_weightsFreeFor 18 = .ok (.invokevirtual 78, 3) := by decide +kernel
theorem dX2_weightsFreeFor_21 : decode cX2_weightsFreeFor 21 = .ok (.ifCond .ne 13, 3) := by decide +kernel
theorem dX2_weightsFreeFor_24 : decode cX2_weightsFreeFor 24 = .ok (.iload_n 3, 1) := by decide +kernel
theorem dX2_weightsFreeFor_25 : decode cX2_weightsFreeFor 25 = .ok (.aload_n 0, 1) := by decide +kernel
theorem dX2_weightsFreeFor_26 : decode cX2_weightsFreeFor 26 = .ok (.iload 4, 2) := by decide +kernel
theorem dX2_weightsFreeFor_28 : decode cX2_weightsFreeFor 28 = .ok (.iload_n 1, 1) := by decide +kernel
theorem dX2_weightsFreeFor_29 : decode cX2_weightsFreeFor 29 = .ok (.invokevirtual 94, 3) := by decide +kernel
theorem dX2_weightsFreeFor_32 : decode cX2_weightsFreeFor 32 = .ok (.iadd, 1) := by decide +kernel
theorem dX2_weightsFreeFor_33 : decode cX2_weightsFreeFor 33 = .ok (.istore_n 3, 1) := by decide +kernel
theorem dX2_weightsFreeFor_34 : decode cX2_weightsFreeFor 34 = .ok (.iinc 4 1, 3) := by decide +kernel
theorem dX2_weightsFreeFor_37 : decode cX2_weightsFreeFor 37 = .ok (.goto (-32), 3) := by decide +kernel
theorem dX2_weightsFreeFor_40 : decode cX2_weightsFreeFor 40 = .ok (.iload_n 3, 1) := by decide +kernel
theorem dX2_weightsFreeFor_41 : decode cX2_weightsFreeFor 41 = .ok (.ireturn, 1) := by decide +kernel
theorem dX3_init_0 : decode cX3_init 0 = .ok (.aload_n 0, 1) := by decide +kernel
theorem dX3_init_1 : decode cX3_init 1 = .ok (.invokespecial 3, 3) := by decide +kernel
theorem dX3_init_4 : decode cX3_init 4 = .ok (.aload_n 0, 1) := by decide +kernel
theorem dX3_init_5 : decode cX3_init 5 = .ok (.aload_n 1, 1) := by decide +kernel
theorem dX3_init_6 : decode cX3_init 6 = .ok (.putfield 9, 3) := by decide +kernel
theorem dX3_init_9 : decode cX3_init 9 = .ok (.return_, 1) := by decide +kernel
theorem dX3_isOther_0 : decode cX3_isOther 0 = .ok (.aload_n 0, 1) := by decide +kernel
theorem dX3_isOther_1 : decode cX3_isOther 1 = .ok (.getfield 32, 3) := by decide +kernel
theorem dX3_isOther_4 : decode cX3_isOther 4 = .ok (.iconst 3, 1) := by decide +kernel
theorem dX3_isOther_5 : decode cX3_isOther 5 = .ok (.if_icmp .ne 37, 3) := by decide +kernel
theorem dX3_isOther_8 : decode cX3_isOther 8 = .ok (.aload_n 0, 1) := by decide +kernel
theorem dX3_isOther_9 : decode cX3_isOther 9 = .ok (.getfield 29, 3) := by decide +kernel
theorem dX3_isOther_12 : decode cX3_isOther 12 = .ok (.aload_n 0, 1) := by decide +kernel
theorem dX3_isOther_13 : decode cX3_isOther 13 = .ok (.getfield 9, 3) := by decide +kernel
theorem dX3_isOther_16 : decode cX3_isOther 16 = .ok (.getfield 39, 3) := by decide +kernel
theorem dX3_isOther_19 : decode cX3_isOther 19 = .ok (.if_icmp .ge 23, 3) := by decide +kernel
theorem dX3_isOther_22 : decode cX3_isOther 22 = .ok (.aload_n 0, 1) := by decide +kernel
theorem dX3_isOther_23 : decode cX3_isOther 23 = .ok (.getfield 9, 3) := by decide +kernel
theorem dX3_isOther_26 : decode cX3_isOther 26 = .ok (.getfield 44, 3) := by decide +kernel
theorem dX3_isOther_29 : decode cX3_isOther 29 = .ok (.aload_n 0, 1) := by decide +kernel
theorem dX3_isOther_30 : decode cX3_isOther 30 = .ok (.getfield 29, 3) := by decide +kernel
theorem dX3_isOther_33 : decode cX3_isOther 33 = .ok (.iaload, 1) := by decide +kernel
theorem dX3_isOther_34 : decode cX3_isOther 34 = .ok (.iload_n 1, 1) := by decide +kernel
theorem dX3_isOther_35 : decode cX3_isOther 35 = .ok (.if_icmp .ne 7, 3) := by decide +kernel
theorem dX3_isOther_38 : decode cX3_isOther 38 = .ok (.iconst 1, 1) := by decide +kernel
theorem dX3_isOther_39 : decode cX3_isOther 39 = .ok (.goto 4, 3) := by decide +kernel
theorem dX3_isOther_42 : decode cX3_isOther 42 = .ok (.iconst 0, 1) := by decide +kernel
theorem dX3_isOther_43 : decode cX3_isOther 43 = .ok (.ireturn, 1) := by decide +kernel
theorem dX3_isWord_0 : decode cX3_isWord 0 = .ok (.aload_n 0, 1) := by decide +kernel
theorem dX3_isWord_1 : decode cX3_isWord 1 = .ok (.getfield 32, 3) := by decide +kernel
theorem dX3_isWord_4 : decode cX3_isWord 4 = .ok (.iconst 1, 1) := by decide +kernel
theorem dX3_isWord_5 : decode cX3_isWord 5 = .ok (.if_icmp .ne 26, 3) := by decide +kernel
theorem dX3_isWord_8 : decode cX3_isWord 8 = .ok (.aload_n 0, 1) := by decide +kernel
theorem dX3_isWord_9 : decode cX3_isWord 9 = .ok (.getfield 9, 3) := by decide +kernel
theorem dX3_isWord_12 : decode cX3_isWord 12 = .ok (.aload_n 0, 1) := by decide +kernel
theorem dX3_isWord_13 : decode cX3_isWord 13 = .ok (.getfield 29, 3) := by decide +kernel
theorem dX3_isWord_16 : decode cX3_isWord 16 = .ok (.aload_n 0, 1) := by decide +kernel
theorem dX3_isWord_17 : decode cX3_isWord 17 = .ok (.getfield 15, 3) := by decide +kernel
theorem dX3_isWord_20 : decode cX3_isWord 20 = .ok (.aload_n 1, 1) := by decide +kernel
theorem dX3_isWord_21 : decode cX3_isWord 21 = .ok (.invokevirtual 54, 3) := by decide +kernel
theorem dX3_isWord_24 : decode cX3_isWord 24 = .ok (.ifCond .eq 7, 3) := by decide +kernel
theorem dX3_isWord_27 : decode cX3_isWord 27 = .ok (.iconst 1, 1) := by decide +kernel
theorem dX3_isWord_28 : decode cX3_isWord 28 = .ok (.goto 4, 3) := by decide +kernel
theorem dX3_isWord_31 : decode cX3_isWord 31 = .ok (.iconst 0, 1) := by decide +kernel
theorem dX3_isWord_32 : decode cX3_isWord 32 = .ok (.ireturn, 1) := by decide +kernel
theorem dX3_numberWithin_0 : decode cX3_numberWithin 0 = .ok (.aload_n 0, 1) := by decide +kernel
theorem dX3_numberWithin_1 : decode cX3_numberWithin 1 = .ok (.getfield 32, 3) := by decide +kernel
theorem dX3_numberWithin_4 : decode cX3_numberWithin 4 = .ok (.iconst 2, 1) := by decide +kernel
theorem dX3_numberWithin_5 : decode cX3_numberWithin 5 = .ok (.if_icmp .ne 22, 3) := by decide +kernel
theorem dX3_numberWithin_8 : decode cX3_numberWithin 8 = .ok (.aload_n 0, 1) := by decide +kernel
theorem dX3_numberWithin_9 : decode cX3_numberWithin 9 = .ok (.getfield 9, 3) := by decide +kernel
theorem dX3_numberWithin_12 : decode cX3_numberWithin 12 = .ok (.aload_n 0, 1) := by decide +kernel
theorem dX3_numberWithin_13 : decode cX3_numberWithin 13 = .ok (.getfield 29, 3) := by decide +kernel
theorem dX3_numberWithin_16 : decode cX3_numberWithin 16 = .ok (.aload_n 0, 1) := by decide +kernel
theorem dX3_numberWithin_17 : decode cX3_numberWithin 17 = .ok (.getfield 15, 3) := by decide +kernel
theorem dX3_numberWithin_20 : decode cX3_numberWithin 20 = .ok (.iconst 2, 1) := by decide +kernel
theorem dX3_numberWithin_21 : decode cX3_numberWithin 21 = .ok (.invokevirtual 58, 3) := by decide +kernel
theorem dX3_numberWithin_24 : decode cX3_numberWithin 24 = .ok (.goto 4, 3) := by decide +kernel
theorem dX3_numberWithin_27 : decode cX3_numberWithin 27 = .ok (.iconst (-1), 1) := by decide +kernel
theorem dX3_numberWithin_28 : decode cX3_numberWithin 28 = .ok (.istore_n 3, 1) := by decide +kernel
theorem dX3_numberWithin_29 : decode cX3_numberWithin 29 = .ok (.iload_n 3, 1) := by decide +kernel
theorem dX3_numberWithin_30 : decode cX3_numberWithin 30 = .ok (.iload_n 1, 1) := by decide +kernel
theorem dX3_numberWithin_31 : decode cX3_numberWithin 31 = .ok (.if_icmp .lt 12, 3) := by decide +kernel
theorem dX3_numberWithin_34 : decode cX3_numberWithin 34 = .ok (.iload_n 3, 1) := by decide +kernel
theorem dX3_numberWithin_35 : decode cX3_numberWithin 35 = .ok (.iload_n 2, 1) := by decide +kernel
theorem dX3_numberWithin_36 : decode cX3_numberWithin 36 = .ok (.if_icmp .gt 7, 3) := by decide +kernel
theorem dX3_numberWithin_39 : decode cX3_numberWithin 39 = .ok (.iload_n 3, 1) := by decide +kernel
theorem dX3_numberWithin_40 : decode cX3_numberWithin 40 = .ok (.goto 4, 3) := by decide +kernel
theorem dX3_numberWithin_43 : decode cX3_numberWithin 43 = .ok (.iconst (-1), 1) := by decide +kernel
theorem dX3_numberWithin_44 : decode cX3_numberWithin 44 = .ok (.ireturn, 1) := by decide +kernel
theorem dX3_readAway_0 : decode cX3_readAway 0 = .ok (.aload_n 0, 1) := by decide +kernel
theorem dX3_readAway_1 : decode cX3_readAway 1 = .ok (.invokevirtual 22, 3) := by decide +kernel
theorem dX3_readAway_4 : decode cX3_readAway 4 = .ok (.aload_n 0, 1) := by decide +kernel
theorem dX3_readAway_5 : decode cX3_readAway 5 = .ok (.iconst 0, 1) := by decide +kernel
theorem dX3_readAway_6 : decode cX3_readAway 6 = .ok (.aload_n 1, 1) := by decide +kernel
theorem dX3_readAway_7 : decode cX3_readAway 7 = .ok (.getfield 93, 3) := by decide +kernel
theorem dX3_readAway_10 : decode cX3_readAway 10 = .ok (.iconst 1, 1) := by decide +kernel
theorem dX3_readAway_11 : decode cX3_readAway 11 = .ok (.isub, 1) := by decide +kernel
theorem dX3_readAway_12 : decode cX3_readAway 12 = .ok (.invokevirtual 96, 3) := by decide +kernel
theorem dX3_readAway_15 : decode cX3_readAway 15 = .ok (.istore_n 2, 1) := by decide +kernel
theorem dX3_readAway_16 : decode cX3_readAway 16 = .ok (.iload_n 2, 1) := by decide +kernel
theorem dX3_readAway_17 : decode cX3_readAway 17 = .ok (.iconst (-1), 1) := by decide +kernel
theorem dX3_readAway_18 : decode cX3_readAway 18 = .ok (.if_icmp .ne 5, 3) := by decide +kernel
theorem dX3_readAway_21 : decode cX3_readAway 21 = .ok (.iconst 0, 1) := by decide +kernel
theorem dX3_readAway_22 : decode cX3_readAway 22 = .ok (.ireturn, 1) := by decide +kernel
theorem dX3_readAway_23 : decode cX3_readAway 23 = .ok (.aload_n 1, 1) := by decide +kernel
theorem dX3_readAway_24 : decode cX3_readAway 24 = .ok (.dup, 1) := by decide +kernel
theorem dX3_readAway_25 : decode cX3_readAway 25 = .ok (.getfield 114, 3) := by decide +kernel
theorem dX3_readAway_28 : decode cX3_readAway 28 = .ok (.iconst 1, 1) := by decide +kernel
theorem dX3_readAway_29 : decode cX3_readAway 29 = .ok (.iload_n 2, 1) := by decide +kernel
theorem dX3_readAway_30 : decode cX3_readAway 30 = .ok (.ishl, 1) := by decide +kernel
theorem dX3_readAway_31 : decode cX3_readAway 31 = .ok (.ior, 1) := by decide +kernel
theorem dX3_readAway_32 : decode cX3_readAway 32 = .ok (.putfield 114, 3) := by decide +kernel
theorem dX3_readAway_35 : decode cX3_readAway 35 = .ok (.aload_n 0, 1) := by decide +kernel
theorem dX3_readAway_36 : decode cX3_readAway 36 = .ok (.invokevirtual 22, 3) := by decide +kernel
theorem dX3_readAway_39 : decode cX3_readAway 39 = .ok (.iconst 1, 1) := by decide +kernel
theorem dX3_readAway_40 : decode cX3_readAway 40 = .ok (.ireturn, 1) := by decide +kernel
theorem dX3_readBar_0 : decode cX3_readBar 0 = .ok (.aload_n 0, 1) := by decide +kernel
theorem dX3_readBar_1 : decode cX3_readBar 1 = .ok (.invokevirtual 22, 3) := by decide +kernel
theorem dX3_readBar_4 : decode cX3_readBar 4 = .ok (.aload_n 0, 1) := by decide +kernel
theorem dX3_readBar_5 : decode cX3_readBar 5 = .ok (.iconst 0, 1) := by decide +kernel
theorem dX3_readBar_6 : decode cX3_readBar 6 = .ok (.aload_n 1, 1) := by decide +kernel
theorem dX3_readBar_7 : decode cX3_readBar 7 = .ok (.getfield 93, 3) := by decide +kernel
theorem dX3_readBar_10 : decode cX3_readBar 10 = .ok (.iconst 1, 1) := by decide +kernel
theorem dX3_readBar_11 : decode cX3_readBar 11 = .ok (.isub, 1) := by decide +kernel
theorem dX3_readBar_12 : decode cX3_readBar 12 = .ok (.invokevirtual 96, 3) := by decide +kernel
theorem dX3_readBar_15 : decode cX3_readBar 15 = .ok (.istore_n 2, 1) := by decide +kernel
theorem dX3_readBar_16 : decode cX3_readBar 16 = .ok (.iload_n 2, 1) := by decide +kernel
theorem dX3_readBar_17 : decode cX3_readBar 17 = .ok (.iconst (-1), 1) := by decide +kernel
theorem dX3_readBar_18 : decode cX3_readBar 18 = .ok (.if_icmp .ne 5, 3) := by decide +kernel
theorem dX3_readBar_21 : decode cX3_readBar 21 = .ok (.iconst 0, 1) := by decide +kernel
theorem dX3_readBar_22 : decode cX3_readBar 22 = .ok (.ireturn, 1) := by decide +kernel
theorem dX3_readBar_23 : decode cX3_readBar 23 = .ok (.aload_n 0, 1) := by decide +kernel
theorem dX3_readBar_24 : decode cX3_readBar 24 = .ok (.invokevirtual 22, 3) := by decide +kernel
theorem dX3_readBar_27 : decode cX3_readBar 27 = .ok (.aload_n 0, 1) := by decide +kernel
theorem dX3_readBar_28 : decode cX3_readBar 28 = .ok (.iconst 0, 1) := by decide +kernel
theorem dX3_readBar_29 : decode cX3_readBar 29 = .ok (.bipush 9, 2) := by decide +kernel
theorem dX3_readBar_31 : decode cX3_readBar 31 = .ok (.invokevirtual 96, 3) := by decide +kernel
theorem dX3_readBar_34 : decode cX3_readBar 34 = .ok (.istore_n 3, 1) := by decide +kernel
theorem dX3_readBar_35 : decode cX3_readBar 35 = .ok (.iload_n 3, 1) := by decide +kernel
theorem dX3_readBar_36 : decode cX3_readBar 36 = .ok (.iconst (-1), 1) := by decide +kernel
theorem dX3_readBar_37 : decode cX3_readBar 37 = .ok (.if_icmp .ne 5, 3) := by decide +kernel
theorem dX3_readBar_40 : decode cX3_readBar 40 = .ok (.iconst 0, 1) := by decide +kernel
theorem dX3_readBar_41 : decode cX3_readBar 41 = .ok (.ireturn, 1) := by decide +kernel
theorem dX3_readBar_42 : decode cX3_readBar 42 = .ok (.aload_n 1, 1) := by decide +kernel
theorem dX3_readBar_43 : decode cX3_readBar 43 = .ok (.getfield 111, 3) := by decide +kernel
theorem dX3_readBar_46 : decode cX3_readBar 46 = .ok (.iload_n 2, 1) := by decide +kernel
theorem dX3_readBar_47 : decode cX3_readBar 47 = .ok (.dup2, 1) := by decide +kernel
theorem dX3_readBar_48 : decode cX3_readBar 48 = .ok (.iaload, 1) := by decide +kernel
theorem dX3_readBar_49 : decode cX3_readBar 49 = .ok (.iconst 1, 1) := by decide +kernel
theorem dX3_readBar_50 : decode cX3_readBar 50 = .ok (.iload_n 3, 1) := by decide +kernel
theorem dX3_readBar_51 : decode cX3_readBar 51 = .ok (.ishl, 1) := by decide +kernel
theorem dX3_readBar_52 : decode cX3_readBar 52 = .ok (.ior, 1) := by decide +kernel
theorem dX3_readBar_53 : decode cX3_readBar 53 = .ok (.iastore, 1) := by decide +kernel
theorem dX3_readBar_54 : decode cX3_readBar 54 = .ok (.aload_n 0, 1) := by decide +kernel
theorem dX3_readBar_55 : decode cX3_readBar 55 = .ok (.invokevirtual 22, 3) := by decide +kernel
theorem dX3_readBar_58 : decode cX3_readBar 58 = .ok (.iconst 1, 1) := by decide +kernel
theorem dX3_readBar_59 : decode cX3_readBar 59 = .ok (.ireturn, 1) := by decide +kernel
theorem dX3_readClause_0 : decode cX3_readClause 0 = .ok (.aload_n 0, 1) := by decide +kernel
theorem dX3_readClause_1 : decode cX3_readClause 1 = .ok (.ldc 62, 2) := by decide +kernel
theorem dX3_readClause_3 : decode cX3_readClause 3 = .ok (.invokevirtual 64, 3) := by decide +kernel
theorem dX3_readClause_6 : decode cX3_readClause 6 = .ok (.ifCond .eq 13, 3) := by decide +kernel
theorem dX3_readClause_9 : decode cX3_readClause 9 = .ok (.aload_n 1, 1) := by decide +kernel
theorem dX3_readClause_10 : decode cX3_readClause 10 = .ok (.invokevirtual 68, 3) := by decide +kernel
theorem dX3_readClause_13 : decode cX3_readClause 13 = .ok (.aload_n 0, 1) := by decide +kernel
theorem dX3_readClause_14 : decode cX3_readClause 14 = .ok (.invokevirtual 22, 3) := by decide +kernel
theorem dX3_readClause_17 : decode cX3_readClause 17 = .ok (.iconst 1, 1) := by decide +kernel
theorem dX3_readClause_18 : decode cX3_readClause 18 = .ok (.ireturn, 1) := by decide +kernel
theorem dX3_readClause_19 : decode cX3_readClause 19 = .ok (.aload_n 0, 1) := by decide +kernel
theorem dX3_readClause_20 : decode cX3_readClause 20 = .ok (.ldc 73, 2) := by decide +kernel
theorem dX3_readClause_22 : decode cX3_readClause 22 = .ok (.invokevirtual 64, 3) := by decide +kernel
theorem dX3_readClause_25 : decode cX3_readClause 25 = .ok (.ifCond .eq 9, 3) := by decide +kernel
theorem dX3_readClause_28 : decode cX3_readClause 28 = .ok (.aload_n 0, 1) := by decide +kernel
theorem dX3_readClause_29 : decode cX3_readClause 29 = .ok (.aload_n 1, 1) := by decide +kernel
theorem dX3_readClause_30 : decode cX3_readClause 30 = .ok (.invokevirtual 75, 3) := by decide +kernel
theorem dX3_readClause_33 : decode cX3_readClause 33 = .ok (.ireturn, 1) := by decide +kernel
theorem dX3_readClause_34 : decode cX3_readClause 34 = .ok (.aload_n 0, 1) := by decide +kernel
theorem dX3_readClause_35 : decode cX3_readClause 35 = .ok (.ldc 78, 2) := by decide +kernel
theorem dX3_readClause_37 : decode cX3_readClause 37 = .ok (.invokevirtual 64, 3) := by decide +kernel
theorem dX3_readClause_40 : decode cX3_readClause 40 = .ok (.ifCond .eq 9, 3) := by decide +kernel
theorem dX3_readClause_43 : decode cX3_readClause 43 = .ok (.aload_n 0, 1) := by decide +kernel
theorem dX3_readClause_44 : decode cX3_readClause 44 = .ok (.aload_n 1, 1) := by decide +kernel
theorem dX3_readClause_45 : decode cX3_readClause 45 = .ok (.invokevirtual 80, 3) := by decide +kernel
theorem dX3_readClause_48 : decode cX3_readClause 48 = .ok (.ireturn, 1) := by decide +kernel
theorem dX3_readClause_49 : decode cX3_readClause 49 = .ok (.aload_n 0, 1) := by decide +kernel
theorem dX3_readClause_50 : decode cX3_readClause 50 = .ok (.ldc 83, 2) := by decide +kernel
theorem dX3_readClause_52 : decode cX3_readClause 52 = .ok (.invokevirtual 64, 3) := by decide +kernel
theorem dX3_readClause_55 : decode cX3_readClause 55 = .ok (.ifCond .eq 9, 3) := by decide +kernel
theorem dX3_readClause_58 : decode cX3_readClause 58 = .ok (.aload_n 0, 1) := by decide +kernel
theorem dX3_readClause_59 : decode cX3_readClause 59 = .ok (.aload_n 1, 1) := by decide +kernel
theorem dX3_readClause_60 : decode cX3_readClause 60 = .ok (.invokevirtual 85, 3) := by decide +kernel
theorem dX3_readClause_63 : decode cX3_readClause 63 = .ok (.ireturn, 1) := by decide +kernel
theorem dX3_readClause_64 : decode cX3_readClause 64 = .ok (.aload_n 0, 1) := by decide +kernel
theorem dX3_readClause_65 : decode cX3_readClause 65 = .ok (.ldc 88, 2) := by decide +kernel
theorem dX3_readClause_67 : decode cX3_readClause 67 = .ok (.invokevirtual 64, 3) := by decide +kernel
theorem dX3_readClause_70 : decode cX3_readClause 70 = .ok (.ifCond .eq 15, 3) := by decide +kernel
theorem dX3_readClause_73 : decode cX3_readClause 73 = .ok (.aload_n 0, 1) := by decide +kernel
theorem dX3_readClause_74 : decode cX3_readClause 74 = .ok (.aload_n 1, 1) := by decide +kernel
theorem dX3_readClause_75 : decode cX3_readClause 75 = .ok (.invokevirtual 90, 3) := by decide +kernel
theorem dX3_readClause_78 : decode cX3_readClause 78 = .ok (.ifCond .eq 7, 3) := by decide +kernel
theorem dX3_readClause_81 : decode cX3_readClause 81 = .ok (.iconst 1, 1) := by decide +kernel
theorem dX3_readClause_82 : decode cX3_readClause 82 = .ok (.goto 4, 3) := by decide +kernel
theorem dX3_readClause_85 : decode cX3_readClause 85 = .ok (.iconst 0, 1) := by decide +kernel
theorem dX3_readClause_86 : decode cX3_readClause 86 = .ok (.ireturn, 1) := by decide +kernel
theorem dX3_readInto_0 : decode cX3_readInto 0 = .ok (.aload_n 0, 1) := by decide +kernel
theorem dX3_readInto_1 : decode cX3_readInto 1 = .ok (.iconst 0, 1) := by decide +kernel
theorem dX3_readInto_2 : decode cX3_readInto 2 = .ok (.putfield 15, 3) := by decide +kernel
theorem dX3_readInto_5 : decode cX3_readInto 5 = .ok (.aload_n 0, 1) := by decide +kernel
theorem dX3_readInto_6 : decode cX3_readInto 6 = .ok (.iconst 0, 1) := by decide +kernel
theorem dX3_readInto_7 : decode cX3_readInto 7 = .ok (.putfield 19, 3) := by decide +kernel
theorem dX3_readInto_10 : decode cX3_readInto 10 = .ok (.iconst 0, 1) := by decide +kernel
theorem dX3_readInto_11 : decode cX3_readInto 11 = .ok (.istore_n 2, 1) := by decide +kernel
theorem dX3_readInto_12 : decode cX3_readInto 12 = .ok (.iload_n 2, 1) := by decide +kernel
theorem dX3_readInto_13 : decode cX3_readInto 13 = .ok (.bipush 24, 2) := by decide +kernel
theorem dX3_readInto_15 : decode cX3_readInto 15 = .ok (.if_icmp .ge 59, 3) := by decide +kernel
theorem dX3_readInto_18 : decode cX3_readInto 18 = .ok (.aload_n 0, 1) := by decide +kernel
theorem dX3_readInto_19 : decode cX3_readInto 19 = .ok (.invokevirtual 22, 3) := by decide +kernel
theorem dX3_readInto_22 : decode cX3_readInto 22 = .ok (.aload_n 0, 1) := by decide +kernel
theorem dX3_readInto_23 : decode cX3_readInto 23 = .ok (.aload_n 1, 1) := by decide +kernel
theorem dX3_readInto_24 : decode cX3_readInto 24 = .ok (.invokevirtual 25, 3) := by decide +kernel
theorem dX3_readInto_27 : decode cX3_readInto 27 = .ok (.ifCond .ne 8, 3) := by decide +kernel
theorem dX3_readInto_30 : decode cX3_readInto 30 = .ok (.aload_n 0, 1) := by decide +kernel
theorem dX3_readInto_31 : decode cX3_readInto 31 = .ok (.getfield 29, 3) := by decide +kernel
theorem dX3_readInto_34 : decode cX3_readInto 34 = .ok (.ireturn, 1) := by decide +kernel
theorem dX3_readInto_35 : decode cX3_readInto 35 = .ok (.aload_n 0, 1) := by decide +kernel
theorem dX3_readInto_36 : decode cX3_readInto 36 = .ok (.dup, 1) := by decide +kernel
theorem dX3_readInto_37 : decode cX3_readInto 37 = .ok (.getfield 19, 3) := by decide +kernel
theorem dX3_readInto_40 : decode cX3_readInto 40 = .ok (.iconst 1, 1) := by decide +kernel
theorem dX3_readInto_41 : decode cX3_readInto 41 = .ok (.iadd, 1) := by decide +kernel
theorem dX3_readInto_42 : decode cX3_readInto 42 = .ok (.putfield 19, 3) := by decide +kernel
theorem dX3_readInto_45 : decode cX3_readInto 45 = .ok (.aload_n 0, 1) := by decide +kernel
theorem dX3_readInto_46 : decode cX3_readInto 46 = .ok (.getfield 32, 3) := by decide +kernel
theorem dX3_readInto_49 : decode cX3_readInto 49 = .ok (.ifCond .ne 5, 3) := by decide +kernel
theorem dX3_readInto_52 : decode cX3_readInto 52 = .ok (.iconst (-1), 1) := by decide +kernel
theorem dX3_readInto_53 : decode cX3_readInto 53 = .ok (.ireturn, 1) := by decide +kernel
theorem dX3_readInto_54 : decode cX3_readInto 54 = .ok (.aload_n 0, 1) := by decide +kernel
theorem dX3_readInto_55 : decode cX3_readInto 55 = .ok (.bipush 59, 2) := by decide +kernel
theorem dX3_readInto_57 : decode cX3_readInto 57 = .ok (.invokevirtual 35, 3) := by decide +kernel
theorem dX3_readInto_60 : decode cX3_readInto 60 = .ok (.ifCond .ne 8, 3) := by decide +kernel
theorem dX3_readInto_63 : decode cX3_readInto 63 = .ok (.aload_n 0, 1) := by decide +kernel
theorem dX3_readInto_64 : decode cX3_readInto 64 = .ok (.getfield 29, 3) := by decide +kernel
theorem dX3_readInto_67 : decode cX3_readInto 67 = .ok (.ireturn, 1) := by decide +kernel
theorem dX3_readInto_68 : decode cX3_readInto 68 = .ok (.iinc 2 1, 3) := by decide +kernel
theorem dX3_readInto_71 : decode cX3_readInto 71 = .ok (.goto (-59), 3) := by decide +kernel
theorem dX3_readInto_74 : decode cX3_readInto 74 = .ok (.aload_n 0, 1) := by decide +kernel
theorem dX3_readInto_75 : decode cX3_readInto 75 = .ok (.getfield 29, 3) := by decide +kernel
theorem dX3_readInto_78 : decode cX3_readInto 78 = .ok (.ireturn, 1) := by decide +kernel
theorem dX3_readJudge_0 : decode cX3_readJudge 0 = .ok (.aload_n 1, 1) := by decide +kernel
theorem dX3_readJudge_1 : decode cX3_readJudge 1 = .ok (.getfield 93, 3) := by decide +kernel
theorem dX3_readJudge_4 : decode cX3_readJudge 4 = .ok (.bipush 6, 2) := by decide +kernel
theorem dX3_readJudge_6 : decode cX3_readJudge 6 = .ok (.if_icmp .lt 5, 3) := by decide +kernel
theorem dX3_readJudge_9 : decode cX3_readJudge 9 = .ok (.iconst 0, 1) := by decide +kernel
theorem dX3_readJudge_10 : decode cX3_readJudge 10 = .ok (.ireturn, 1) := by decide +kernel
theorem dX3_readJudge_11 : decode cX3_readJudge 11 = .ok (.aload_n 0, 1) := by decide +kernel
theorem dX3_readJudge_12 : decode cX3_readJudge 12 = .ok (.invokevirtual 22, 3) := by decide +kernel
theorem dX3_readJudge_15 : decode cX3_readJudge 15 = .ok (.aload_n 0, 1) := by decide +kernel
theorem dX3_readJudge_16 : decode cX3_readJudge 16 = .ok (.iconst 1, 1) := by decide +kernel
theorem dX3_readJudge_17 : decode cX3_readJudge 17 = .ok (.bipush 9, 2) := by decide +kernel
theorem dX3_readJudge_19 : decode cX3_readJudge 19 = .ok (.invokevirtual 96, 3) := by decide +kernel
theorem dX3_readJudge_22 : decode cX3_readJudge 22 = .ok (.istore_n 2, 1) := by decide +kernel
theorem dX3_readJudge_23 : decode cX3_readJudge 23 = .ok (.iload_n 2, 1) := by decide +kernel
theorem dX3_readJudge_24 : decode cX3_readJudge 24 = .ok (.iconst (-1), 1) := by decide +kernel
theorem dX3_readJudge_25 : decode cX3_readJudge 25 = .ok (.if_icmp .ne 5, 3) := by decide +kernel
theorem dX3_readJudge_28 : decode cX3_readJudge 28 = .ok (.iconst 0, 1) := by decide +kernel
theorem dX3_readJudge_29 : decode cX3_readJudge 29 = .ok (.ireturn, 1) := by decide +kernel
theorem dX3_readJudge_30 : decode cX3_readJudge 30 = .ok (.aload_n 0, 1) := by decide +kernel
theorem dX3_readJudge_31 : decode cX3_readJudge 31 = .ok (.invokevirtual 22, 3) := by decide +kernel
theorem dX3_readJudge_34 : decode cX3_readJudge 34 = .ok (.iconst 0, 1) := by decide +kernel
theorem dX3_readJudge_35 : decode cX3_readJudge 35 = .ok (.istore_n 3, 1) := by decide +kernel
theorem dX3_readJudge_36 : decode cX3_readJudge 36 = .ok (.aload_n 0, 1) := by decide +kernel
theorem dX3_readJudge_37 : decode cX3_readJudge 37 = .ok (.getfield 32, 3) := by decide +kernel
theorem dX3_readJudge_40 : decode cX3_readJudge 40 = .ok (.iconst 1, 1) := by decide +kernel
theorem dX3_readJudge_41 : decode cX3_readJudge 41 = .ok (.if_icmp .ne 18, 3) := by decide +kernel
theorem dX3_readJudge_44 : decode cX3_readJudge 44 = .ok (.aload_n 0, 1) := by decide +kernel
theorem dX3_readJudge_45 : decode cX3_readJudge 45 = .ok (.invokevirtual 100, 3) := by decide +kernel
theorem dX3_readJudge_48 : decode cX3_readJudge 48 = .ok (.istore_n 3, 1) := by decide +kernel
theorem dX3_readJudge_49 : decode cX3_readJudge 49 = .ok (.iload_n 3, 1) := by decide +kernel
theorem dX3_readJudge_50 : decode cX3_readJudge 50 = .ok (.ifCond .ne 5, 3) := by decide +kernel
theorem dX3_readJudge_53 : decode cX3_readJudge 53 = .ok (.iconst 0, 1) := by decide +kernel
theorem dX3_readJudge_54 : decode cX3_readJudge 54 = .ok (.ireturn, 1) := by decide +kernel
theorem dX3_readJudge_55 : decode cX3_readJudge 55 = .ok (.aload_n 0, 1) := by decide +kernel
theorem dX3_readJudge_56 : decode cX3_readJudge 56 = .ok (.invokevirtual 22, 3) := by decide +kernel
theorem dX3_readJudge_59 : decode cX3_readJudge 59 = .ok (.aload_n 1, 1) := by decide +kernel
theorem dX3_readJudge_60 : decode cX3_readJudge 60 = .ok (.iload_n 2, 1) := by decide +kernel
theorem dX3_readJudge_61 : decode cX3_readJudge 61 = .ok (.iload_n 3, 1) := by decide +kernel
theorem dX3_readJudge_62 : decode cX3_readJudge 62 = .ok (.invokevirtual 104, 3) := by decide +kernel
theorem dX3_readJudge_65 : decode cX3_readJudge 65 = .ok (.iconst 1, 1) := by decide +kernel
theorem dX3_readJudge_66 : decode cX3_readJudge 66 = .ok (.ireturn, 1) := by decide +kernel
theorem dX3_readRule_0 : decode cX3_readRule 0 = .ok (.aload_n 0, 1) := by decide +kernel
theorem dX3_readRule_1 : decode cX3_readRule 1 = .ok (.invokevirtual 22, 3) := by decide +kernel
theorem dX3_readRule_4 : decode cX3_readRule 4 = .ok (.aload_n 0, 1) := by decide +kernel
theorem dX3_readRule_5 : decode cX3_readRule 5 = .ok (.getfield 32, 3) := by decide +kernel
theorem dX3_readRule_8 : decode cX3_readRule 8 = .ok (.iconst 1, 1) := by decide +kernel
theorem dX3_readRule_9 : decode cX3_readRule 9 = .ok (.if_icmp .ne 21, 3) := by decide +kernel
theorem dX3_readRule_12 : decode cX3_readRule 12 = .ok (.aload_n 0, 1) := by decide +kernel
theorem dX3_readRule_13 : decode cX3_readRule 13 = .ok (.getfield 9, 3) := by decide +kernel
theorem dX3_readRule_16 : decode cX3_readRule 16 = .ok (.aload_n 0, 1) := by decide +kernel
theorem dX3_readRule_17 : decode cX3_readRule 17 = .ok (.getfield 29, 3) := by decide +kernel
theorem dX3_readRule_20 : decode cX3_readRule 20 = .ok (.aload_n 0, 1) := by decide +kernel
theorem dX3_readRule_21 : decode cX3_readRule 21 = .ok (.getfield 15, 3) := by decide +kernel
theorem dX3_readRule_24 : decode cX3_readRule 24 = .ok (.invokevirtual 116, 3) := by decide +kernel
theorem dX3_readRule_27 : decode cX3_readRule 27 = .ok (.goto 4, 3) := by decide +kernel
theorem dX3_readRule_30 : decode cX3_readRule 30 = .ok (.iconst (-1), 1) := by decide +kernel
theorem dX3_readRule_31 : decode cX3_readRule 31 = .ok (.istore_n 2, 1) := by decide +kernel
theorem dX3_readRule_32 : decode cX3_readRule 32 = .ok (.iload_n 2, 1) := by decide +kernel
theorem dX3_readRule_33 : decode cX3_readRule 33 = .ok (.iconst (-1), 1) := by decide +kernel
theorem dX3_readRule_34 : decode cX3_readRule 34 = .ok (.if_icmp .ne 5, 3) := by decide +kernel
theorem dX3_readRule_37 : decode cX3_readRule 37 = .ok (.iconst 0, 1) := by decide +kernel
theorem dX3_readRule_38 : decode cX3_readRule 38 = .ok (.ireturn, 1) := by decide +kernel
theorem dX3_readRule_39 : decode cX3_readRule 39 = .ok (.aload_n 1, 1) := by decide +kernel
theorem dX3_readRule_40 : decode cX3_readRule 40 = .ok (.iload_n 2, 1) := by decide +kernel
theorem dX3_readRule_41 : decode cX3_readRule 41 = .ok (.putfield 119, 3) := by decide +kernel
theorem dX3_readRule_44 : decode cX3_readRule 44 = .ok (.aload_n 0, 1) := by decide +kernel
theorem dX3_readRule_45 : decode cX3_readRule 45 = .ok (.invokevirtual 22, 3) := by decide +kernel
theorem dX3_readRule_48 : decode cX3_readRule 48 = .ok (.iconst 1, 1) := by decide +kernel
theorem dX3_readRule_49 : decode cX3_readRule 49 = .ok (.ireturn, 1) := by decide +kernel
theorem dX3_step_0 : decode cX3_step 0 = .ok (.aload_n 0, 1) := by decide +kernel
theorem dX3_step_1 : decode cX3_step 1 = .ok (.aload_n 0, 1) := by decide +kernel
theorem dX3_step_2 : decode cX3_step 2 = .ok (.getfield 15, 3) := by decide +kernel
theorem dX3_step_5 : decode cX3_step 5 = .ok (.putfield 29, 3) := by decide +kernel
theorem dX3_step_8 : decode cX3_step 8 = .ok (.aload_n 0, 1) := by decide +kernel
theorem dX3_step_9 : decode cX3_step 9 = .ok (.getfield 29, 3) := by decide +kernel
theorem dX3_step_12 : decode cX3_step 12 = .ok (.aload_n 0, 1) := by decide +kernel
theorem dX3_step_13 : decode cX3_step 13 = .ok (.getfield 9, 3) := by decide +kernel
theorem dX3_step_16 : decode cX3_step 16 = .ok (.getfield 39, 3) := by decide +kernel
theorem dX3_step_19 : decode cX3_step 19 = .ok (.if_icmp .ge 33, 3) := by decide +kernel
theorem dX3_step_22 : decode cX3_step 22 = .ok (.aload_n 0, 1) := by decide +kernel
theorem dX3_step_23 : decode cX3_step 23 = .ok (.getfield 9, 3) := by decide +kernel
theorem dX3_step_26 : decode cX3_step 26 = .ok (.getfield 44, 3) := by decide +kernel
theorem dX3_step_29 : decode cX3_step 29 = .ok (.aload_n 0, 1) := by decide +kernel
theorem dX3_step_30 : decode cX3_step 30 = .ok (.getfield 29, 3) := by decide +kernel
theorem dX3_step_33 : decode cX3_step 33 = .ok (.iaload, 1) := by decide +kernel
theorem dX3_step_34 : decode cX3_step 34 = .ok (.bipush 32, 2) := by decide +kernel
theorem dX3_step_36 : decode cX3_step 36 = .ok (.if_icmp .ne 16, 3) := by decide +kernel
theorem dX3_step_39 : decode cX3_step 39 = .ok (.aload_n 0, 1) := by decide +kernel
theorem dX3_step_40 : decode cX3_step 40 = .ok (.dup, 1) := by decide +kernel
theorem dX3_step_41 : decode cX3_step 41 = .ok (.getfield 29, 3) := by decide +kernel
theorem dX3_step_44 : decode cX3_step 44 = .ok (.iconst 1, 1) := by decide +kernel
theorem dX3_step_45 : decode cX3_step 45 = .ok (.iadd, 1) := by decide +kernel
theorem dX3_step_46 : decode cX3_step 46 = .ok (.putfield 29, 3) := by decide +kernel
theorem dX3_step_49 : decode cX3_step 49 = .ok (.goto (-41), 3) := by decide +kernel
theorem dX3_step_52 : decode cX3_step 52 = .ok (.aload_n 0, 1) := by decide +kernel
theorem dX3_step_53 : decode cX3_step 53 = .ok (.aload_n 0, 1) := by decide +kernel
theorem dX3_step_54 : decode cX3_step 54 = .ok (.getfield 29, 3) := by decide +kernel
theorem dX3_step_57 : decode cX3_step 57 = .ok (.putfield 15, 3) := by decide +kernel
theorem dX3_step_60 : decode cX3_step 60 = .ok (.aload_n 0, 1) := by decide +kernel
theorem dX3_step_61 : decode cX3_step 61 = .ok (.getfield 29, 3) := by decide +kernel
theorem dX3_step_64 : decode cX3_step 64 = .ok (.aload_n 0, 1) := by decide +kernel
theorem dX3_step_65 : decode cX3_step 65 = .ok (.getfield 9, 3) := by decide +kernel
theorem dX3_step_68 : decode cX3_step 68 = .ok (.getfield 39, 3) := by decide +kernel
theorem dX3_step_71 : decode cX3_step 71 = .ok (.if_icmp .lt 11, 3) := by decide +kernel
theorem dX3_step_74 : decode cX3_step 74 = .ok (.aload_n 0, 1) := by decide +kernel
theorem dX3_step_75 : decode cX3_step 75 = .ok (.iconst 0, 1) := by decide +kernel
theorem dX3_step_76 : decode cX3_step 76 = .ok (.putfield 32, 3) := by decide +kernel
theorem dX3_step_79 : decode cX3_step 79 = .ok (.goto 154, 3) := by decide +kernel
theorem dX3_step_82 : decode cX3_step 82 = .ok (.aload_n 0, 1) := by decide +kernel
theorem dX3_step_83 : decode cX3_step 83 = .ok (.getfield 9, 3) := by decide +kernel
theorem dX3_step_86 : decode cX3_step 86 = .ok (.getfield 44, 3) := by decide +kernel
theorem dX3_step_89 : decode cX3_step 89 = .ok (.aload_n 0, 1) := by decide +kernel
theorem dX3_step_90 : decode cX3_step 90 = .ok (.getfield 29, 3) := by decide +kernel
theorem dX3_step_93 : decode cX3_step 93 = .ok (.iaload, 1) := by decide +kernel
theorem dX3_step_94 : decode cX3_step 94 = .ok (.invokestatic 48, 3) := by decide +kernel
theorem dX3_step_97 : decode cX3_step 97 = .ok (.ifCond .eq 53, 3) := by decide +kernel
theorem dX3_step_100 : decode cX3_step 100 = .ok (.aload_n 0, 1) := by decide +kernel
theorem dX3_step_101 : decode cX3_step 101 = .ok (.iconst 1, 1) := by decide +kernel
theorem dX3_step_102 : decode cX3_step 102 = .ok (.putfield 32, 3) := by decide +kernel
theorem dX3_step_105 : decode cX3_step 105 = .ok (.aload_n 0, 1) := by decide +kernel
theorem dX3_step_106 : decode cX3_step 106 = .ok (.getfield 15, 3) := by decide +kernel
theorem dX3_step_109 : decode cX3_step 109 = .ok (.aload_n 0, 1) := by decide +kernel
theorem dX3_step_110 : decode cX3_step 110 = .ok (.getfield 9, 3) := by decide +kernel
theorem dX3_step_113 : decode cX3_step 113 = .ok (.getfield 39, 3) := by decide +kernel
theorem dX3_step_116 : decode cX3_step 116 = .ok (.if_icmp .ge 117, 3) := by decide +kernel
theorem dX3_step_119 : decode cX3_step 119 = .ok (.aload_n 0, 1) := by decide +kernel
theorem dX3_step_120 : decode cX3_step 120 = .ok (.getfield 9, 3) := by decide +kernel
theorem dX3_step_123 : decode cX3_step 123 = .ok (.getfield 44, 3) := by decide +kernel
theorem dX3_step_126 : decode cX3_step 126 = .ok (.aload_n 0, 1) := by decide +kernel
theorem dX3_step_127 : decode cX3_step 127 = .ok (.getfield 15, 3) := by decide +kernel
theorem dX3_step_130 : decode cX3_step 130 = .ok (.iaload, 1) := by decide +kernel
theorem dX3_step_131 : decode cX3_step 131 = .ok (.invokestatic 48, 3) := by decide +kernel
theorem dX3_step_134 : decode cX3_step 134 = .ok (.ifCond .eq 99, 3) := by decide +kernel
theorem dX3_step_137 : decode cX3_step 137 = .ok (.aload_n 0, 1) := by decide +kernel
theorem dX3_step_138 : decode cX3_step 138 = .ok (.dup, 1) := by decide +kernel
theorem dX3_step_139 : decode cX3_step 139 = .ok (.getfield 15, 3) := by decide +kernel
theorem dX3_step_142 : decode cX3_step 142 = .ok (.iconst 1, 1) := by decide +kernel
theorem dX3_step_143 : decode cX3_step 143 = .ok (.iadd, 1) := by decide +kernel
theorem dX3_step_144 : decode cX3_step 144 = .ok (.putfield 15, 3) := by decide +kernel
theorem dX3_step_147 : decode cX3_step 147 = .ok (.goto (-42), 3) := by decide +kernel
theorem dX3_step_150 : decode cX3_step 150 = .ok (.aload_n 0, 1) := by decide +kernel
theorem dX3_step_151 : decode cX3_step 151 = .ok (.getfield 9, 3) := by decide +kernel
theorem dX3_step_154 : decode cX3_step 154 = .ok (.getfield 44, 3) := by decide +kernel
theorem dX3_step_157 : decode cX3_step 157 = .ok (.aload_n 0, 1) := by decide +kernel
theorem dX3_step_158 : decode cX3_step 158 = .ok (.getfield 29, 3) := by decide +kernel
theorem dX3_step_161 : decode cX3_step 161 = .ok (.iaload, 1) := by decide +kernel
theorem dX3_step_162 : decode cX3_step 162 = .ok (.invokestatic 51, 3) := by decide +kernel
theorem dX3_step_165 : decode cX3_step 165 = .ok (.ifCond .eq 53, 3) := by decide +kernel
theorem dX3_step_168 : decode cX3_step 168 = .ok (.aload_n 0, 1) := by decide +kernel
theorem dX3_step_169 : decode cX3_step 169 = .ok (.iconst 2, 1) := by decide +kernel
theorem dX3_step_170 : decode cX3_step 170 = .ok (.putfield 32, 3) := by decide +kernel
theorem dX3_step_173 : decode cX3_step 173 = .ok (.aload_n 0, 1) := by decide +kernel
theorem dX3_step_174 : decode cX3_step 174 = .ok (.getfield 15, 3) := by decide +kernel
theorem dX3_step_177 : decode cX3_step 177 = .ok (.aload_n 0, 1) := by decide +kernel
theorem dX3_step_178 : decode cX3_step 178 = .ok (.getfield 9, 3) := by decide +kernel
theorem dX3_step_181 : decode cX3_step 181 = .ok (.getfield 39, 3) := by decide +kernel
theorem dX3_step_184 : decode cX3_step 184 = .ok (.if_icmp .ge 49, 3) := by decide +kernel
theorem dX3_step_187 : decode cX3_step 187 = .ok (.aload_n 0, 1) := by decide +kernel
theorem dX3_step_188 : decode cX3_step 188 = .ok (.getfield 9, 3) := by decide +kernel
theorem dX3_step_191 : decode cX3_step 191 = .ok (.getfield 44, 3) := by decide +kernel
theorem dX3_step_194 : decode cX3_step 194 = .ok (.aload_n 0, 1) := by decide +kernel
theorem dX3_step_195 : decode cX3_step 195 = .ok (.getfield 15, 3) := by decide +kernel
theorem dX3_step_198 : decode cX3_step 198 = .ok (.iaload, 1) := by decide +kernel
theorem dX3_step_199 : decode cX3_step 199 = .ok (.invokestatic 51, 3) := by decide +kernel
theorem dX3_step_202 : decode cX3_step 202 = .ok (.ifCond .eq 31, 3) := by decide +kernel
theorem dX3_step_205 : decode cX3_step 205 = .ok (.aload_n 0, 1) := by decide +kernel
theorem dX3_step_206 : decode cX3_step 206 = .ok (.dup, 1) := by decide +kernel
theorem dX3_step_207 : decode cX3_step 207 = .ok (.getfield 15, 3) := by decide +kernel
theorem dX3_step_210 : decode cX3_step 210 = .ok (.iconst 1, 1) := by decide +kernel
theorem dX3_step_211 : decode cX3_step 211 = .ok (.iadd, 1) := by decide +kernel
theorem dX3_step_212 : decode cX3_step 212 = .ok (.putfield 15, 3) := by decide +kernel
theorem dX3_step_215 : decode cX3_step 215 = .ok (.goto (-42), 3) := by decide +kernel
theorem dX3_step_218 : decode cX3_step 218 = .ok (.aload_n 0, 1) := by decide +kernel
theorem dX3_step_219 : decode cX3_step 219 = .ok (.iconst 3, 1) := by decide +kernel
theorem dX3_step_220 : decode cX3_step 220 = .ok (.putfield 32, 3) := by decide +kernel
theorem dX3_step_223 : decode cX3_step 223 = .ok (.aload_n 0, 1) := by decide +kernel
theorem dX3_step_224 : decode cX3_step 224 = .ok (.dup, 1) := by decide +kernel
theorem dX3_step_225 : decode cX3_step 225 = .ok (.getfield 15, 3) := by decide +kernel
theorem dX3_step_228 : decode cX3_step 228 = .ok (.iconst 1, 1) := by decide +kernel
theorem dX3_step_229 : decode cX3_step 229 = .ok (.iadd, 1) := by decide +kernel
theorem dX3_step_230 : decode cX3_step 230 = .ok (.putfield 15, 3) := by decide +kernel
theorem dX3_step_233 : decode cX3_step 233 = .ok (.return_, 1) := by decide +kernel
theorem dX3_versedTold_0 : decode cX3_versedTold 0 = .ok (.iconst 0, 1) := by decide +kernel
theorem dX3_versedTold_1 : decode cX3_versedTold 1 = .ok (.istore_n 1, 1) := by decide +kernel
theorem dX3_versedTold_2 : decode cX3_versedTold 2 = .ok (.aload_n 0, 1) := by decide +kernel
theorem dX3_versedTold_3 : decode cX3_versedTold 3 = .ok (.getfield 29, 3) := by decide +kernel
theorem dX3_versedTold_6 : decode cX3_versedTold 6 = .ok (.istore_n 2, 1) := by decide +kernel
theorem dX3_versedTold_7 : decode cX3_versedTold 7 = .ok (.iload_n 2, 1) := by decide +kernel
theorem dX3_versedTold_8 : decode cX3_versedTold 8 = .ok (.aload_n 0, 1) := by decide +kernel
theorem dX3_versedTold_9 : decode cX3_versedTold 9 = .ok (.getfield 15, 3) := by decide +kernel
theorem dX3_versedTold_12 : decode cX3_versedTold 12 = .ok (.if_icmp .ge 46, 3) := by decide +kernel
theorem dX3_versedTold_15 : decode cX3_versedTold 15 = .ok (.aload_n 0, 1) := by decide +kernel
theorem dX3_versedTold_16 : decode cX3_versedTold 16 = .ok (.getfield 9, 3) := by decide +kernel
theorem dX3_versedTold_19 : decode cX3_versedTold 19 = .ok (.getfield 44, 3) := by decide +kernel
theorem dX3_versedTold_22 : decode cX3_versedTold 22 = .ok (.iload_n 2, 1) := by decide +kernel
theorem dX3_versedTold_23 : decode cX3_versedTold 23 = .ok (.iaload, 1) := by decide +kernel
theorem dX3_versedTold_24 : decode cX3_versedTold 24 = .ok (.bipush 97, 2) := by decide +kernel
theorem dX3_versedTold_26 : decode cX3_versedTold 26 = .ok (.isub, 1) := by decide +kernel
theorem dX3_versedTold_27 : decode cX3_versedTold 27 = .ok (.istore_n 3, 1) := by decide +kernel
theorem dX3_versedTold_28 : decode cX3_versedTold 28 = .ok (.iload_n 3, 1) := by decide +kernel
theorem dX3_versedTold_29 : decode cX3_versedTold 29 = .ok (.invokestatic 108, 3) := by decide +kernel
theorem dX3_versedTold_32 : decode cX3_versedTold 32 = .ok (.ifCond .eq 12, 3) := by decide +kernel
theorem dX3_versedTold_35 : decode cX3_versedTold 35 = .ok (.iload_n 1, 1) := by decide +kernel
theorem dX3_versedTold_36 : decode cX3_versedTold 36 = .ok (.iload_n 3, 1) := by decide +kernel
theorem dX3_versedTold_37 : decode cX3_versedTold 37 = .ok (.ishr, 1) := by decide +kernel
theorem dX3_versedTold_38 : decode cX3_versedTold 38 = .ok (.iconst 1, 1) := by decide +kernel
theorem dX3_versedTold_39 : decode cX3_versedTold 39 = .ok (.iand, 1) := by decide +kernel
theorem dX3_versedTold_40 : decode cX3_versedTold 40 = .ok (.iconst 1, 1) := by decide +kernel
theorem dX3_versedTold_41 : decode cX3_versedTold 41 = .ok (.if_icmp .ne 5, 3) := by decide +kernel
theorem dX3_versedTold_44 : decode cX3_versedTold 44 = .ok (.iconst 0, 1) := by decide +kernel
theorem dX3_versedTold_45 : decode cX3_versedTold 45 = .ok (.ireturn, 1) := by decide +kernel
theorem dX3_versedTold_46 : decode cX3_versedTold 46 = .ok (.iload_n 1, 1) := by decide +kernel
theorem dX3_versedTold_47 : decode cX3_versedTold 47 = .ok (.iconst 1, 1) := by decide +kernel
theorem dX3_versedTold_48 : decode cX3_versedTold 48 = .ok (.iload_n 3, 1) := by decide +kernel
theorem dX3_versedTold_49 : decode cX3_versedTold 49 = .ok (.ishl, 1) := by decide +kernel
theorem dX3_versedTold_50 : decode cX3_versedTold 50 = .ok (.ior, 1) := by decide +kernel
theorem dX3_versedTold_51 : decode cX3_versedTold 51 = .ok (.istore_n 1, 1) := by decide +kernel
theorem dX3_versedTold_52 : decode cX3_versedTold 52 = .ok (.iinc 2 1, 3) := by decide +kernel
theorem dX3_versedTold_55 : decode cX3_versedTold 55 = .ok (.goto (-48), 3) := by decide +kernel
theorem dX3_versedTold_58 : decode cX3_versedTold 58 = .ok (.iload_n 1, 1) := by decide +kernel
theorem dX3_versedTold_59 : decode cX3_versedTold 59 = .ok (.ireturn, 1) := by decide +kernel
end
section
theorem dX4_assign_0 : decode cX4_assign 0 = .ok (.iload_n 1, 1) := by decide +kernel
theorem dX4_assign_1 : decode cX4_assign 1 = .ok (.invokestatic 144, 3) := by decide +kernel
theorem dX4_assign_4 : decode cX4_assign 4 = .ok (.ifCond .eq 10, 3) := by decide +kernel
theorem dX4_assign_7 : decode cX4_assign 7 = .ok (.iload_n 2, 1) := by decide +kernel
theorem dX4_assign_8 : decode cX4_assign 8 = .ok (.invokestatic 147, 3) := by decide +kernel
theorem dX4_assign_11 : decode cX4_assign 11 = .ok (.ifCond .ne 6, 3) := by decide +kernel
theorem dX4_assign_14 : decode cX4_assign 14 = .ok (.bipush (-3), 2) := by decide +kernel
theorem dX4_assign_16 : decode cX4_assign 16 = .ok (.ireturn, 1) := by decide +kernel
theorem dX4_assign_17 : decode cX4_assign 17 = .ok (.aload_n 0, 1) := by decide +kernel
theorem dX4_assign_18 : decode cX4_assign 18 = .ok (.getfield 48, 3) := by decide +kernel
theorem dX4_assign_21 : decode cX4_assign 21 = .ok (.iload_n 2, 1) := by decide +kernel
theorem dX4_assign_22 : decode cX4_assign 22 = .ok (.iconst (-1), 1) := by decide +kernel
theorem dX4_assign_23 : decode cX4_assign 23 = .ok (.invokevirtual 150, 3) := by decide +kernel
theorem dX4_assign_26 : decode cX4_assign 26 = .ok (.ifCond .ne 6, 3) := by decide +kernel
theorem dX4_assign_29 : decode cX4_assign 29 = .ok (.bipush (-4), 2) := by decide +kernel
theorem dX4_assign_31 : decode cX4_assign 31 = .ok (.ireturn, 1) := by decide +kernel
theorem dX4_assign_32 : decode cX4_assign 32 = .ok (.aload_n 0, 1) := by decide +kernel
theorem dX4_assign_33 : decode cX4_assign 33 = .ok (.getfield 48, 3) := by decide +kernel
theorem dX4_assign_36 : decode cX4_assign 36 = .ok (.getfield 138, 3) := by decide +kernel
theorem dX4_assign_39 : decode cX4_assign 39 = .ok (.bipush 20, 2) := by decide +kernel
theorem dX4_assign_41 : decode cX4_assign 41 = .ok (.if_icmp .lt 6, 3) := by decide +kernel
theorem dX4_assign_44 : decode cX4_assign 44 = .ok (.bipush (-5), 2) := by decide +kernel
theorem dX4_assign_46 : decode cX4_assign 46 = .ok (.ireturn, 1) := by decide +kernel
theorem dX4_assign_47 : decode cX4_assign 47 = .ok (.aload_n 0, 1) := by decide +kernel
theorem dX4_assign_48 : decode cX4_assign 48 = .ok (.getfield 57, 3) := by decide +kernel
theorem dX4_assign_51 : decode cX4_assign 51 = .ok (.aload_n 0, 1) := by decide +kernel
theorem dX4_assign_52 : decode cX4_assign 52 = .ok (.getfield 48, 3) := by decide +kernel
theorem dX4_assign_55 : decode cX4_assign 55 = .ok (.invokevirtual 154, 3) := by decide +kernel
theorem dX4_assign_58 : decode cX4_assign 58 = .ok (.aload_n 0, 1) := by decide +kernel
theorem dX4_assign_59 : decode cX4_assign 59 = .ok (.getfield 48, 3) := by decide +kernel
theorem dX4_assign_62 : decode cX4_assign 62 = .ok (.iload_n 1, 1) := by decide +kernel
theorem dX4_assign_63 : decode cX4_assign 63 = .ok (.iload_n 2, 1) := by decide +kernel
theorem dX4_assign_64 : decode cX4_assign 64 = .ok (.invokevirtual 157, 3) := by decide +kernel
theorem dX4_assign_67 : decode cX4_assign 67 = .ok (.ireturn, 1) := by decide +kernel
theorem dX4_away_0 : decode cX4_away 0 = .ok (.aload_n 0, 1) := by decide +kernel
theorem dX4_away_1 : decode cX4_away 1 = .ok (.getfield 48, 3) := by decide +kernel
theorem dX4_away_4 : decode cX4_away 4 = .ok (.iload_n 1, 1) := by decide +kernel
theorem dX4_away_5 : decode cX4_away 5 = .ok (.invokevirtual 100, 3) := by decide +kernel
theorem dX4_away_8 : decode cX4_away 8 = .ok (.ifCond .ne 6, 3) := by decide +kernel
theorem dX4_away_11 : decode cX4_away 11 = .ok (.bipush (-2), 2) := by decide +kernel
theorem dX4_away_13 : decode cX4_away 13 = .ok (.ireturn, 1) := by decide +kernel
theorem dX4_away_14 : decode cX4_away 14 = .ok (.iload_n 2, 1) := by decide +kernel
theorem dX4_away_15 : decode cX4_away 15 = .ok (.ifCond .lt 8, 3) := by decide +kernel
theorem dX4_away_18 : decode cX4_away 18 = .ok (.iload_n 2, 1) := by decide +kernel
theorem dX4_away_19 : decode cX4_away 19 = .ok (.iconst 1, 1) := by decide +kernel
theorem dX4_away_20 : decode cX4_away 20 = .ok (.if_icmp .le 6, 3) := by decide +kernel
theorem dX4_away_23 : decode cX4_away 23 = .ok (.bipush (-3), 2) := by decide +kernel
theorem dX4_away_25 : decode cX4_away 25 = .ok (.ireturn, 1) := by decide +kernel
theorem dX4_away_26 : decode cX4_away 26 = .ok (.aload_n 0, 1) := by decide +kernel
theorem dX4_away_27 : decode cX4_away 27 = .ok (.getfield 48, 3) := by decide +kernel
theorem dX4_away_30 : decode cX4_away 30 = .ok (.iload_n 1, 1) := by decide +kernel
theorem dX4_away_31 : decode cX4_away 31 = .ok (.invokevirtual 113, 3) := by decide +kernel
theorem dX4_away_34 : decode cX4_away 34 = .ok (.iload_n 2, 1) := by decide +kernel
theorem dX4_away_35 : decode cX4_away 35 = .ok (.iconst 1, 1) := by decide +kernel
theorem dX4_away_36 : decode cX4_away 36 = .ok (.if_icmp .ne 7, 3) := by decide +kernel
theorem dX4_away_39 : decode cX4_away 39 = .ok (.iconst 1, 1) := by decide +kernel
theorem dX4_away_40 : decode cX4_away 40 = .ok (.goto 4, 3) := by decide +kernel
theorem dX4_away_43 : decode cX4_away 43 = .ok (.iconst 0, 1) := by decide +kernel
theorem dX4_away_44 : decode cX4_away 44 = .ok (.if_icmp .ne 6, 3) := by decide +kernel
theorem dX4_away_47 : decode cX4_away 47 = .ok (.bipush (-4), 2) := by decide +kernel
theorem dX4_away_49 : decode cX4_away 49 = .ok (.ireturn, 1) := by decide +kernel
theorem dX4_away_50 : decode cX4_away 50 = .ok (.aload_n 0, 1) := by decide +kernel
theorem dX4_away_51 : decode cX4_away 51 = .ok (.getfield 57, 3) := by decide +kernel
theorem dX4_away_54 : decode cX4_away 54 = .ok (.aload_n 0, 1) := by decide +kernel
theorem dX4_away_55 : decode cX4_away 55 = .ok (.getfield 48, 3) := by decide +kernel
theorem dX4_away_58 : decode cX4_away 58 = .ok (.invokevirtual 154, 3) := by decide +kernel
theorem dX4_away_61 : decode cX4_away 61 = .ok (.aload_n 0, 1) := by decide +kernel
theorem dX4_away_62 : decode cX4_away 62 = .ok (.getfield 48, 3) := by decide +kernel
theorem dX4_away_65 : decode cX4_away 65 = .ok (.dup, 1) := by decide +kernel
theorem dX4_away_66 : decode cX4_away 66 = .ok (.getfield 164, 3) := by decide +kernel
theorem dX4_away_69 : decode cX4_away 69 = .ok (.iconst 1, 1) := by decide +kernel
theorem dX4_away_70 : decode cX4_away 70 = .ok (.iload_n 1, 1) := by decide +kernel
theorem dX4_away_71 : decode cX4_away 71 = .ok (.ishl, 1) := by decide +kernel
theorem dX4_away_72 : decode cX4_away 72 = .ok (.ixor, 1) := by decide +kernel
theorem dX4_away_73 : decode cX4_away 73 = .ok (.putfield 164, 3) := by decide +kernel
theorem dX4_away_76 : decode cX4_away 76 = .ok (.iconst 1, 1) := by decide +kernel
theorem dX4_away_77 : decode cX4_away 77 = .ok (.ireturn, 1) := by decide +kernel
theorem dX4_back_0 : decode cX4_back 0 = .ok (.iload_n 1, 1) := by decide +kernel
theorem dX4_back_1 : decode cX4_back 1 = .ok (.ifCond .lt 8, 3) := by decide +kernel
theorem dX4_back_4 : decode cX4_back 4 = .ok (.iload_n 1, 1) := by decide +kernel
theorem dX4_back_5 : decode cX4_back 5 = .ok (.iconst 2, 1) := by decide +kernel
theorem dX4_back_6 : decode cX4_back 6 = .ok (.if_icmp .lt 6, 3) := by decide +kernel
theorem dX4_back_9 : decode cX4_back 9 = .ok (.bipush (-2), 2) := by decide +kernel
theorem dX4_back_11 : decode cX4_back 11 = .ok (.ireturn, 1) := by decide +kernel
theorem dX4_back_12 : decode cX4_back 12 = .ok (.aload_n 0, 1) := by decide +kernel
theorem dX4_back_13 : decode cX4_back 13 = .ok (.getfield 65, 3) := by decide +kernel
theorem dX4_back_16 : decode cX4_back 16 = .ok (.iload_n 1, 1) := by decide +kernel
theorem dX4_back_17 : decode cX4_back 17 = .ok (.baload, 1) := by decide +kernel
theorem dX4_back_18 : decode cX4_back 18 = .ok (.ifCond .ne 6, 3) := by decide +kernel
theorem dX4_back_21 : decode cX4_back 21 = .ok (.bipush (-4), 2) := by decide +kernel
theorem dX4_back_23 : decode cX4_back 23 = .ok (.ireturn, 1) := by decide +kernel
theorem dX4_back_24 : decode cX4_back 24 = .ok (.aload_n 0, 1) := by decide +kernel
theorem dX4_back_25 : decode cX4_back 25 = .ok (.getfield 48, 3) := by decide +kernel
theorem dX4_back_28 : decode cX4_back 28 = .ok (.aload_n 0, 1) := by decide +kernel
theorem dX4_back_29 : decode cX4_back 29 = .ok (.getfield 61, 3) := by decide +kernel
theorem dX4_back_32 : decode cX4_back 32 = .ok (.iload_n 1, 1) := by decide +kernel
theorem dX4_back_33 : decode cX4_back 33 = .ok (.aaload, 1) := by decide +kernel
theorem dX4_back_34 : decode cX4_back 34 = .ok (.invokevirtual 84, 3) := by decide +kernel
theorem dX4_back_37 : decode cX4_back 37 = .ok (.aload_n 0, 1) := by decide +kernel
theorem dX4_back_38 : decode cX4_back 38 = .ok (.getfield 57, 3) := by decide +kernel
theorem dX4_back_41 : decode cX4_back 41 = .ok (.invokevirtual 88, 3) := by decide +kernel
theorem dX4_back_44 : decode cX4_back 44 = .ok (.aload_n 0, 1) := by decide +kernel
theorem dX4_back_45 : decode cX4_back 45 = .ok (.getfield 48, 3) := by decide +kernel
theorem dX4_back_48 : decode cX4_back 48 = .ok (.getfield 138, 3) := by decide +kernel
theorem dX4_back_51 : decode cX4_back 51 = .ok (.ireturn, 1) := by decide +kernel
theorem dX4_caseOf_0 : decode cX4_caseOf 0 = .ok (.aload_n 0, 1) := by decide +kernel
theorem dX4_caseOf_1 : decode cX4_caseOf 1 = .ok (.getfield 48, 3) := by decide +kernel
theorem dX4_caseOf_4 : decode cX4_caseOf 4 = .ok (.iload_n 1, 1) := by decide +kernel
theorem dX4_caseOf_5 : decode cX4_caseOf 5 = .ok (.invokevirtual 123, 3) := by decide +kernel
theorem dX4_caseOf_8 : decode cX4_caseOf 8 = .ok (.ifCond .ne 6, 3) := by decide +kernel
theorem dX4_caseOf_11 : decode cX4_caseOf 11 = .ok (.bipush (-2), 2) := by decide +kernel
theorem dX4_caseOf_13 : decode cX4_caseOf 13 = .ok (.ireturn, 1) := by decide +kernel
theorem dX4_caseOf_14 : decode cX4_caseOf 14 = .ok (.iload_n 2, 1) := by decide +kernel
theorem dX4_caseOf_15 : decode cX4_caseOf 15 = .ok (.tableswitch 55 0 2 #[25, 35, 45], 25) := by decide +kernel
theorem dX4_caseOf_40 : decode cX4_caseOf 40 = .ok (.aload_n 0, 1) := by decide +kernel
theorem dX4_caseOf_41 : decode cX4_caseOf 41 = .ok (.getfield 48, 3) := by decide +kernel
theorem dX4_caseOf_44 : decode cX4_caseOf 44 = .ok (.getfield 126, 3) := by decide +kernel
theorem dX4_caseOf_47 : decode cX4_caseOf 47 = .ok (.iload_n 1, 1) := by decide +kernel
theorem dX4_caseOf_48 : decode cX4_caseOf 48 = .ok (.iaload, 1) := by decide +kernel
theorem dX4_caseOf_49 : decode cX4_caseOf 49 = .ok (.ireturn, 1) := by decide +kernel
theorem dX4_caseOf_50 : decode cX4_caseOf 50 = .ok (.aload_n 0, 1) := by decide +kernel
theorem dX4_caseOf_51 : decode cX4_caseOf 51 = .ok (.getfield 48, 3) := by decide +kernel
theorem dX4_caseOf_54 : decode cX4_caseOf 54 = .ok (.getfield 129, 3) := by decide +kernel
theorem dX4_caseOf_57 : decode cX4_caseOf 57 = .ok (.iload_n 1, 1) := by decide +kernel
theorem dX4_caseOf_58 : decode cX4_caseOf 58 = .ok (.iaload, 1) := by decide +kernel
theorem dX4_caseOf_59 : decode cX4_caseOf 59 = .ok (.ireturn, 1) := by decide +kernel
theorem dX4_caseOf_60 : decode cX4_caseOf 60 = .ok (.aload_n 0, 1) := by decide +kernel
theorem dX4_caseOf_61 : decode cX4_caseOf 61 = .ok (.getfield 48, 3) := by decide +kernel
theorem dX4_caseOf_64 : decode cX4_caseOf 64 = .ok (.getfield 132, 3) := by decide +kernel
theorem dX4_caseOf_67 : decode cX4_caseOf 67 = .ok (.iload_n 1, 1) := by decide +kernel
theorem dX4_caseOf_68 : decode cX4_caseOf 68 = .ok (.iaload, 1) := by decide +kernel
theorem dX4_caseOf_69 : decode cX4_caseOf 69 = .ok (.ireturn, 1) := by decide +kernel
theorem dX4_caseOf_70 : decode cX4_caseOf 70 = .ok (.bipush (-3), 2) := by decide +kernel
theorem dX4_caseOf_72 : decode cX4_caseOf 72 = .ok (.ireturn, 1) := by decide +kernel
theorem dX4_commonDivisor_0 : decode cX4_commonDivisor 0 = .ok (.iload_n 0, 1) := by decide +kernel
theorem dX4_commonDivisor_1 : decode cX4_commonDivisor 1 = .ok (.iconst 1, 1) := by decide +kernel
theorem dX4_commonDivisor_2 : decode cX4_commonDivisor 2 = .ok (.invokestatic 259, 3) := by decide +kernel
theorem dX4_commonDivisor_5 : decode cX4_commonDivisor 5 = .ok (.istore_n 2, 1) := by decide +kernel
theorem dX4_commonDivisor_6 : decode cX4_commonDivisor 6 = .ok (.iload_n 1, 1) := by decide +kernel
theorem dX4_commonDivisor_7 : decode cX4_commonDivisor 7 = .ok (.iconst 0, 1) := by decide +kernel
theorem dX4_commonDivisor_8 : decode cX4_commonDivisor 8 = .ok (.invokestatic 259, 3) := by decide +kernel
theorem dX4_commonDivisor_11 : decode cX4_commonDivisor 11 = .ok (.istore_n 3, 1) := by decide +kernel
theorem dX4_commonDivisor_12 : decode cX4_commonDivisor 12 = .ok (.iconst 0, 1) := by decide +kernel
theorem dX4_commonDivisor_13 : decode cX4_commonDivisor 13 = .ok (.istore 4, 2) := by decide +kernel
theorem dX4_commonDivisor_15 : decode cX4_commonDivisor 15 = .ok (.iload 4, 2) := by decide +kernel
theorem dX4_commonDivisor_17 : decode cX4_commonDivisor 17 = .ok (.ldc_w 264, 3) := by decide +kernel
theorem dX4_commonDivisor_20 : decode cX4_commonDivisor 20 = .ok (.if_icmp .ge 23, 3) := by decide +kernel
theorem dX4_commonDivisor_23 : decode cX4_commonDivisor 23 = .ok (.iload_n 3, 1) := by decide +kernel
theorem dX4_commonDivisor_24 : decode cX4_commonDivisor 24 = .ok (.ifCond .le 19, 3) := by decide +kernel
theorem dX4_commonDivisor_27 : decode cX4_commonDivisor 27 = .ok (.iload_n 2, 1) := by decide +kernel
theorem dX4_commonDivisor_28 : decode cX4_commonDivisor 28 = .ok (.iload_n 3, 1) := by decide +kernel
theorem dX4_commonDivisor_29 : decode cX4_commonDivisor 29 = .ok (.irem, 1) := by decide +kernel
theorem dX4_commonDivisor_30 : decode cX4_commonDivisor 30 = .ok (.istore 5, 2) := by decide +kernel
theorem dX4_commonDivisor_32 : decode cX4_commonDivisor 32 = .ok (.iload_n 3, 1) := by decide +kernel
theorem dX4_commonDivisor_33 : decode cX4_commonDivisor 33 = .ok (.istore_n 2, 1) := by decide +kernel
theorem dX4_commonDivisor_34 : decode cX4_commonDivisor 34 = .ok (.iload 5, 2) := by decide +kernel
theorem dX4_commonDivisor_36 : decode cX4_commonDivisor 36 = .ok (.istore_n 3, 1) := by decide +kernel
theorem dX4_commonDivisor_37 : decode cX4_commonDivisor 37 = .ok (.iinc 4 1, 3) := by decide +kernel
theorem dX4_commonDivisor_40 : decode cX4_commonDivisor 40 = .ok (.goto (-25), 3) := by decide +kernel
theorem dX4_commonDivisor_43 : decode cX4_commonDivisor 43 = .ok (.iload_n 2, 1) := by decide +kernel
theorem dX4_commonDivisor_44 : decode cX4_commonDivisor 44 = .ok (.ireturn, 1) := by decide +kernel
theorem dX4_count_0 : decode cX4_count 0 = .ok (.iload_n 1, 1) := by decide +kernel
theorem dX4_count_1 : decode cX4_count 1 = .ok (.invokestatic 135, 3) := by decide +kernel
theorem dX4_count_4 : decode cX4_count 4 = .ok (.ifCond .eq 12, 3) := by decide +kernel
theorem dX4_count_7 : decode cX4_count 7 = .ok (.iload_n 2, 1) := by decide +kernel
theorem dX4_count_8 : decode cX4_count 8 = .ok (.ifCond .lt 8, 3) := by decide +kernel
theorem dX4_count_11 : decode cX4_count 11 = .ok (.iload_n 2, 1) := by decide +kernel
theorem dX4_count_12 : decode cX4_count 12 = .ok (.iconst 1, 1) := by decide +kernel
theorem dX4_count_13 : decode cX4_count 13 = .ok (.if_icmp .le 6, 3) := by decide +kernel
theorem dX4_count_16 : decode cX4_count 16 = .ok (.bipush (-3), 2) := by decide +kernel
theorem dX4_count_18 : decode cX4_count 18 = .ok (.ireturn, 1) := by decide +kernel
theorem dX4_count_19 : decode cX4_count 19 = .ok (.aload_n 0, 1) := by decide +kernel
theorem dX4_count_20 : decode cX4_count 20 = .ok (.getfield 48, 3) := by decide +kernel
theorem dX4_count_23 : decode cX4_count 23 = .ok (.invokevirtual 198, 3) := by decide +kernel
theorem dX4_count_26 : decode cX4_count 26 = .ok (.ifCond .ne 6, 3) := by decide +kernel
theorem dX4_count_29 : decode cX4_count 29 = .ok (.bipush (-4), 2) := by decide +kernel
theorem dX4_count_31 : decode cX4_count 31 = .ok (.ireturn, 1) := by decide +kernel
theorem dX4_count_32 : decode cX4_count 32 = .ok (.aload_n 0, 1) := by decide +kernel
theorem dX4_count_33 : decode cX4_count 33 = .ok (.getfield 51, 3) := by decide +kernel
theorem dX4_count_36 : decode cX4_count 36 = .ok (.aload_n 0, 1) := by decide +kernel
theorem dX4_count_37 : decode cX4_count 37 = .ok (.getfield 48, 3) := by decide +kernel
theorem dX4_count_40 : decode cX4_count 40 = .ok (.invokevirtual 84, 3) := by decide +kernel
theorem dX4_count_43 : decode cX4_count 43 = .ok (.aload_n 0, 1) := by decide +kernel
theorem dX4_count_44 : decode cX4_count 44 = .ok (.iload_n 1, 1) := by decide +kernel
theorem dX4_count_45 : decode cX4_count 45 = .ok (.iconst 0, 1) := by decide +kernel
theorem dX4_count_46 : decode cX4_count 46 = .ok (.invokevirtual 202, 3) := by decide +kernel
theorem dX4_count_49 : decode cX4_count 49 = .ok (.istore_n 3, 1) := by decide +kernel
theorem dX4_count_50 : decode cX4_count 50 = .ok (.iload_n 2, 1) := by decide +kernel
theorem dX4_count_51 : decode cX4_count 51 = .ok (.ifCond .ne 7, 3) := by decide +kernel
theorem dX4_count_54 : decode cX4_count 54 = .ok (.iload_n 3, 1) := by decide +kernel
theorem dX4_count_55 : decode cX4_count 55 = .ok (.goto 10, 3) := by decide +kernel
theorem dX4_count_58 : decode cX4_count 58 = .ok (.aload_n 0, 1) := by decide +kernel
theorem dX4_count_59 : decode cX4_count 59 = .ok (.getfield 51, 3) := by decide +kernel
theorem dX4_count_62 : decode cX4_count 62 = .ok (.getfield 205, 3) := by decide +kernel
theorem dX4_count_65 : decode cX4_count 65 = .ok (.ireturn, 1) := by decide +kernel
theorem dX4_cut_0 : decode cX4_cut 0 = .ok (.iload_n 1, 1) := by decide +kernel
theorem dX4_cut_1 : decode cX4_cut 1 = .ok (.invokestatic 208, 3) := by decide +kernel
theorem dX4_cut_4 : decode cX4_cut 4 = .ok (.ifCond .ne 6, 3) := by decide +kernel
theorem dX4_cut_7 : decode cX4_cut 7 = .ok (.bipush (-2), 2) := by decide +kernel
theorem dX4_cut_9 : decode cX4_cut 9 = .ok (.ireturn, 1) := by decide +kernel
theorem dX4_cut_10 : decode cX4_cut 10 = .ok (.aload_n 0, 1) := by decide +kernel
theorem dX4_cut_11 : decode cX4_cut 11 = .ok (.getfield 25, 3) := by decide +kernel
theorem dX4_cut_14 : decode cX4_cut 14 = .ok (.iload_n 1, 1) := by decide +kernel
theorem dX4_cut_15 : decode cX4_cut 15 = .ok (.baload, 1) := by decide +kernel
theorem dX4_cut_16 : decode cX4_cut 16 = .ok (.ifCond .ne 6, 3) := by decide +kernel
theorem dX4_cut_19 : decode cX4_cut 19 = .ok (.bipush (-11), 2) := by decide +kernel
theorem dX4_cut_21 : decode cX4_cut 21 = .ok (.ireturn, 1) := by decide +kernel
theorem dX4_cut_22 : decode cX4_cut 22 = .ok (.iload_n 2, 1) := by decide +kernel
theorem dX4_cut_23 : decode cX4_cut 23 = .ok (.ifCond .lt 21, 3) := by decide +kernel
theorem dX4_cut_26 : decode cX4_cut 26 = .ok (.iload_n 3, 1) := by decide +kernel
theorem dX4_cut_27 : decode cX4_cut 27 = .ok (.iload_n 2, 1) := by decide +kernel
theorem dX4_cut_28 : decode cX4_cut 28 = .ok (.if_icmp .lt 16, 3) := by decide +kernel
theorem dX4_cut_31 : decode cX4_cut 31 = .ok (.iload_n 3, 1) := by decide +kernel
theorem dX4_cut_32 : decode cX4_cut 32 = .ok (.aload_n 0, 1) := by decide +kernel
theorem dX4_cut_33 : decode cX4_cut 33 = .ok (.getfield 21, 3) := by decide +kernel
theorem dX4_cut_36 : decode cX4_cut 36 = .ok (.iload_n 1, 1) := by decide +kernel
theorem dX4_cut_37 : decode cX4_cut 37 = .ok (.aaload, 1) := by decide +kernel
theorem dX4_cut_38 : decode cX4_cut 38 = .ok (.getfield 72, 3) := by decide +kernel
theorem dX4_cut_41 : decode cX4_cut 41 = .ok (.if_icmp .le 6, 3) := by decide +kernel
theorem dX4_cut_44 : decode cX4_cut 44 = .ok (.bipush (-12), 2) := by decide +kernel
theorem dX4_cut_46 : decode cX4_cut 46 = .ok (.ireturn, 1) := by decide +kernel
theorem dX4_cut_47 : decode cX4_cut 47 = .ok (.aload_n 0, 1) := by decide +kernel
theorem dX4_cut_48 : decode cX4_cut 48 = .ok (.getfield 21, 3) := by decide +kernel
theorem dX4_cut_51 : decode cX4_cut 51 = .ok (.iload_n 1, 1) := by decide +kernel
theorem dX4_cut_52 : decode cX4_cut 52 = .ok (.aaload, 1) := by decide +kernel
theorem dX4_cut_53 : decode cX4_cut 53 = .ok (.iload_n 2, 1) := by decide +kernel
theorem dX4_cut_54 : decode cX4_cut 54 = .ok (.iload_n 3, 1) := by decide +kernel
theorem dX4_cut_55 : decode cX4_cut 55 = .ok (.invokevirtual 214, 3) := by decide +kernel
theorem dX4_cut_58 : decode cX4_cut 58 = .ok (.aload_n 0, 1) := by decide +kernel
theorem dX4_cut_59 : decode cX4_cut 59 = .ok (.getfield 21, 3) := by decide +kernel
theorem dX4_cut_62 : decode cX4_cut 62 = .ok (.iload_n 1, 1) := by decide +kernel
theorem dX4_cut_63 : decode cX4_cut 63 = .ok (.aaload, 1) := by decide +kernel
theorem dX4_cut_64 : decode cX4_cut 64 = .ok (.getfield 72, 3) := by decide +kernel
theorem dX4_cut_67 : decode cX4_cut 67 = .ok (.ireturn, 1) := by decide +kernel
theorem dX4_drop_0 : decode cX4_drop 0 = .ok (.iload_n 1, 1) := by decide +kernel
theorem dX4_drop_1 : decode cX4_drop 1 = .ok (.invokestatic 208, 3) := by decide +kernel
theorem dX4_drop_4 : decode cX4_drop 4 = .ok (.ifCond .ne 6, 3) := by decide +kernel
theorem dX4_drop_7 : decode cX4_drop 7 = .ok (.bipush (-2), 2) := by decide +kernel
theorem dX4_drop_9 : decode cX4_drop 9 = .ok (.ireturn, 1) := by decide +kernel
theorem dX4_drop_10 : decode cX4_drop 10 = .ok (.aload_n 0, 1) := by decide +kernel
theorem dX4_drop_11 : decode cX4_drop 11 = .ok (.getfield 25, 3) := by decide +kernel
theorem dX4_drop_14 : decode cX4_drop 14 = .ok (.iload_n 1, 1) := by decide +kernel
theorem dX4_drop_15 : decode cX4_drop 15 = .ok (.baload, 1) := by decide +kernel
theorem dX4_drop_16 : decode cX4_drop 16 = .ok (.ifCond .ne 6, 3) := by decide +kernel
theorem dX4_drop_19 : decode cX4_drop 19 = .ok (.bipush (-11), 2) := by decide +kernel
theorem dX4_drop_21 : decode cX4_drop 21 = .ok (.ireturn, 1) := by decide +kernel
theorem dX4_drop_22 : decode cX4_drop 22 = .ok (.aload_n 0, 1) := by decide +kernel
theorem dX4_drop_23 : decode cX4_drop 23 = .ok (.getfield 25, 3) := by decide +kernel
theorem dX4_drop_26 : decode cX4_drop 26 = .ok (.iload_n 1, 1) := by decide +kernel
theorem dX4_drop_27 : decode cX4_drop 27 = .ok (.iconst 0, 1) := by decide +kernel
theorem dX4_drop_28 : decode cX4_drop 28 = .ok (.bastore, 1) := by decide +kernel
theorem dX4_drop_29 : decode cX4_drop 29 = .ok (.aload_n 0, 1) := by decide +kernel
theorem dX4_drop_30 : decode cX4_drop 30 = .ok (.getfield 21, 3) := by decide +kernel
theorem dX4_drop_33 : decode cX4_drop 33 = .ok (.iload_n 1, 1) := by decide +kernel
theorem dX4_drop_34 : decode cX4_drop 34 = .ok (.aaload, 1) := by decide +kernel
theorem dX4_drop_35 : decode cX4_drop 35 = .ok (.getfield 72, 3) := by decide +kernel
theorem dX4_drop_38 : decode cX4_drop 38 = .ok (.ireturn, 1) := by decide +kernel
theorem dX4_dropAllSlips_0 : decode cX4_dropAllSlips 0 = .ok (.iconst 0, 1) := by decide +kernel
theorem dX4_dropAllSlips_1 : decode cX4_dropAllSlips 1 = .ok (.istore_n 1, 1) := by decide +kernel
theorem dX4_dropAllSlips_2 : decode cX4_dropAllSlips 2 = .ok (.iload_n 1, 1) := by decide +kernel
theorem dX4_dropAllSlips_3 : decode cX4_dropAllSlips 3 = .ok (.iconst 3, 1) := by decide +kernel
theorem dX4_dropAllSlips_4 : decode cX4_dropAllSlips 4 = .ok (.if_icmp .ge 16, 3) := by decide +kernel
theorem dX4_dropAllSlips_7 : decode cX4_dropAllSlips 7 = .ok (.aload_n 0, 1) := by decide +kernel
theorem dX4_dropAllSlips_8 : decode cX4_dropAllSlips 8 = .ok (.getfield 25, 3) := by decide +kernel
theorem dX4_dropAllSlips_11 : decode cX4_dropAllSlips 11 = .ok (.iload_n 1, 1) := by decide +kernel
theorem dX4_dropAllSlips_12 : decode cX4_dropAllSlips 12 = .ok (.iconst 0, 1) := by decide +kernel
theorem dX4_dropAllSlips_13 : decode cX4_dropAllSlips 13 = .ok (.bastore, 1) := by decide +kernel
theorem dX4_dropAllSlips_14 : decode cX4_dropAllSlips 14 = .ok (.iinc 1 1, 3) := by decide +kernel
theorem dX4_dropAllSlips_17 : decode cX4_dropAllSlips 17 = .ok (.goto (-15), 3) := by decide +kernel
theorem dX4_dropAllSlips_20 : decode cX4_dropAllSlips 20 = .ok (.return_, 1) := by decide +kernel
theorem dX4_erase_0 : decode cX4_erase 0 = .ok (.aload_n 0, 1) := by decide +kernel
theorem dX4_erase_1 : decode cX4_erase 1 = .ok (.getfield 14, 3) := by decide +kernel
theorem dX4_erase_4 : decode cX4_erase 4 = .ok (.getfield 72, 3) := by decide +kernel
theorem dX4_erase_7 : decode cX4_erase 7 = .ok (.istore_n 1, 1) := by decide +kernel
theorem dX4_erase_8 : decode cX4_erase 8 = .ok (.aload_n 0, 1) := by decide +kernel
theorem dX4_erase_9 : decode cX4_erase 9 = .ok (.getfield 14, 3) := by decide +kernel
theorem dX4_erase_12 : decode cX4_erase 12 = .ok (.iconst 0, 1) := by decide +kernel
theorem dX4_erase_13 : decode cX4_erase 13 = .ok (.putfield 72, 3) := by decide +kernel
theorem dX4_erase_16 : decode cX4_erase 16 = .ok (.iload_n 1, 1) := by decide +kernel
theorem dX4_erase_17 : decode cX4_erase 17 = .ok (.ireturn, 1) := by decide +kernel
theorem dX4_fault_0 : decode cX4_fault 0 = .ok (.aload_n 0, 1) := by decide +kernel
theorem dX4_fault_1 : decode cX4_fault 1 = .ok (.invokevirtual 80, 3) := by decide +kernel
theorem dX4_fault_4 : decode cX4_fault 4 = .ok (.ireturn, 1) := by decide +kernel
theorem dX4_find_0 : decode cX4_find 0 = .ok (.iload_n 1, 1) := by decide +kernel
theorem dX4_find_1 : decode cX4_find 1 = .ok (.invokestatic 208, 3) := by decide +kernel
theorem dX4_find_4 : decode cX4_find 4 = .ok (.ifCond .ne 6, 3) := by decide +kernel
theorem dX4_find_7 : decode cX4_find 7 = .ok (.bipush (-2), 2) := by decide +kernel
theorem dX4_find_9 : decode cX4_find 9 = .ok (.ireturn, 1) := by decide +kernel
theorem dX4_find_10 : decode cX4_find 10 = .ok (.iload_n 2, 1) := by decide +kernel
theorem dX4_find_11 : decode cX4_find 11 = .ok (.ifCond .lt 8, 3) := by decide +kernel
theorem dX4_find_14 : decode cX4_find 14 = .ok (.iload_n 2, 1) := by decide +kernel
theorem dX4_find_15 : decode cX4_find 15 = .ok (.iconst 3, 1) := by decide +kernel
theorem dX4_find_16 : decode cX4_find 16 = .ok (.if_icmp .le 6, 3) := by decide +kernel
theorem dX4_find_19 : decode cX4_find 19 = .ok (.bipush (-3), 2) := by decide +kernel
theorem dX4_find_21 : decode cX4_find 21 = .ok (.ireturn, 1) := by decide +kernel
theorem dX4_find_22 : decode cX4_find 22 = .ok (.aload_n 0, 1) := by decide +kernel
theorem dX4_find_23 : decode cX4_find 23 = .ok (.getfield 25, 3) := by decide +kernel
theorem dX4_find_26 : decode cX4_find 26 = .ok (.iload_n 1, 1) := by decide +kernel
theorem dX4_find_27 : decode cX4_find 27 = .ok (.baload, 1) := by decide +kernel
theorem dX4_find_28 : decode cX4_find 28 = .ok (.ifCond .ne 6, 3) := by decide +kernel
theorem dX4_find_31 : decode cX4_find 31 = .ok (.bipush (-11), 2) := by decide +kernel
theorem dX4_find_33 : decode cX4_find 33 = .ok (.ireturn, 1) := by decide +kernel
theorem dX4_find_34 : decode cX4_find 34 = .ok (.iload_n 2, 1) := by decide +kernel
theorem dX4_find_35 : decode cX4_find 35 = .ok (.ifCond .ne 21, 3) := by decide +kernel
theorem dX4_find_38 : decode cX4_find 38 = .ok (.aload_n 0, 1) := by decide +kernel
theorem dX4_find_39 : decode cX4_find 39 = .ok (.invokevirtual 173, 3) := by decide +kernel
theorem dX4_find_42 : decode cX4_find 42 = .ok (.aload_n 0, 1) := by decide +kernel
theorem dX4_find_43 : decode cX4_find 43 = .ok (.getfield 18, 3) := by decide +kernel
theorem dX4_find_46 : decode cX4_find 46 = .ok (.aload_n 0, 1) := by decide +kernel
theorem dX4_find_47 : decode cX4_find 47 = .ok (.getfield 21, 3) := by decide +kernel
theorem dX4_find_50 : decode cX4_find 50 = .ok (.iload_n 1, 1) := by decide +kernel
theorem dX4_find_51 : decode cX4_find 51 = .ok (.aaload, 1) := by decide +kernel
theorem dX4_find_52 : decode cX4_find 52 = .ok (.invokevirtual 220, 3) := by decide +kernel
theorem dX4_find_55 : decode cX4_find 55 = .ok (.ireturn, 1) := by decide +kernel
theorem dX4_find_56 : decode cX4_find 56 = .ok (.aload_n 0, 1) := by decide +kernel
theorem dX4_find_57 : decode cX4_find 57 = .ok (.getfield 25, 3) := by decide +kernel
theorem dX4_find_60 : decode cX4_find 60 = .ok (.iload_n 2, 1) := by decide +kernel
theorem dX4_find_61 : decode cX4_find 61 = .ok (.iconst 1, 1) := by decide +kernel
theorem dX4_find_62 : decode cX4_find 62 = .ok (.isub, 1) := by decide +kernel
theorem dX4_find_63 : decode cX4_find 63 = .ok (.baload, 1) := by decide +kernel
theorem dX4_find_64 : decode cX4_find 64 = .ok (.ifCond .ne 6, 3) := by decide +kernel
theorem dX4_find_67 : decode cX4_find 67 = .ok (.bipush (-11), 2) := by decide +kernel
theorem dX4_find_69 : decode cX4_find 69 = .ok (.ireturn, 1) := by decide +kernel
theorem dX4_find_70 : decode cX4_find 70 = .ok (.aload_n 0, 1) := by decide +kernel
theorem dX4_find_71 : decode cX4_find 71 = .ok (.getfield 21, 3) := by decide +kernel
theorem dX4_find_74 : decode cX4_find 74 = .ok (.iload_n 2, 1) := by decide +kernel
theorem dX4_find_75 : decode cX4_find 75 = .ok (.iconst 1, 1) := by decide +kernel
theorem dX4_find_76 : decode cX4_find 76 = .ok (.isub, 1) := by decide +kernel
theorem dX4_find_77 : decode cX4_find 77 = .ok (.aaload, 1) := by decide +kernel
theorem dX4_find_78 : decode cX4_find 78 = .ok (.aload_n 0, 1) := by decide +kernel
theorem dX4_find_79 : decode cX4_find 79 = .ok (.getfield 21, 3) := by decide +kernel
theorem dX4_find_82 : decode cX4_find 82 = .ok (.iload_n 1, 1) := by decide +kernel
theorem dX4_find_83 : decode cX4_find 83 = .ok (.aaload, 1) := by decide +kernel
theorem dX4_find_84 : decode cX4_find 84 = .ok (.invokevirtual 220, 3) := by decide +kernel
theorem dX4_find_87 : decode cX4_find 87 = .ok (.ireturn, 1) := by decide +kernel
theorem dX4_forgetKept_0 : decode cX4_forgetKept 0 = .ok (.iconst 0, 1) := by decide +kernel
theorem dX4_forgetKept_1 : decode cX4_forgetKept 1 = .ok (.istore_n 1, 1) := by decide +kernel
theorem dX4_forgetKept_2 : decode cX4_forgetKept 2 = .ok (.iload_n 1, 1) := by decide +kernel
theorem dX4_forgetKept_3 : decode cX4_forgetKept 3 = .ok (.iconst 2, 1) := by decide +kernel
theorem dX4_forgetKept_4 : decode cX4_forgetKept 4 = .ok (.if_icmp .ge 16, 3) := by decide +kernel
theorem dX4_forgetKept_7 : decode cX4_forgetKept 7 = .ok (.aload_n 0, 1) := by decide +kernel
theorem dX4_forgetKept_8 : decode cX4_forgetKept 8 = .ok (.getfield 65, 3) := by decide +kernel
theorem dX4_forgetKept_11 : decode cX4_forgetKept 11 = .ok (.iload_n 1, 1) := by decide +kernel
theorem dX4_forgetKept_12 : decode cX4_forgetKept 12 = .ok (.iconst 0, 1) := by decide +kernel
theorem dX4_forgetKept_13 : decode cX4_forgetKept 13 = .ok (.bastore, 1) := by decide +kernel
theorem dX4_forgetKept_14 : decode cX4_forgetKept 14 = .ok (.iinc 1 1, 3) := by decide +kernel
theorem dX4_forgetKept_17 : decode cX4_forgetKept 17 = .ok (.goto (-15), 3) := by decide +kernel
theorem dX4_forgetKept_20 : decode cX4_forgetKept 20 = .ok (.return_, 1) := by decide +kernel
theorem dX4_init_0 : decode cX4_init 0 = .ok (.aload_n 0, 1) := by decide +kernel
theorem dX4_init_1 : decode cX4_init 1 = .ok (.invokespecial 1, 3) := by decide +kernel
theorem dX4_init_4 : decode cX4_init 4 = .ok (.aload_n 0, 1) := by decide +kernel
theorem dX4_init_5 : decode cX4_init 5 = .ok (.new 7, 3) := by decide +kernel
theorem dX4_init_8 : decode cX4_init 8 = .ok (.dup, 1) := by decide +kernel
theorem dX4_init_9 : decode cX4_init 9 = .ok (.sipush 200, 3) := by decide +kernel
theorem dX4_init_12 : decode cX4_init 12 = .ok (.invokespecial 11, 3) := by decide +kernel
theorem dX4_init_15 : decode cX4_init 15 = .ok (.putfield 14, 3) := by decide +kernel
theorem dX4_init_18 : decode cX4_init 18 = .ok (.aload_n 0, 1) := by decide +kernel
theorem dX4_init_19 : decode cX4_init 19 = .ok (.new 7, 3) := by decide +kernel
theorem dX4_init_22 : decode cX4_init 22 = .ok (.dup, 1) := by decide +kernel
theorem dX4_init_23 : decode cX4_init 23 = .ok (.sipush 130, 3) := by decide +kernel
theorem dX4_init_26 : decode cX4_init 26 = .ok (.invokespecial 11, 3) := by decide +kernel
theorem dX4_init_29 : decode cX4_init 29 = .ok (.putfield 18, 3) := by decide +kernel
theorem dX4_init_32 : decode cX4_init 32 = .ok (.aload_n 0, 1) := by decide +kernel
theorem dX4_init_33 : decode cX4_init 33 = .ok (.iconst 3, 1) := by decide +kernel
theorem dX4_init_34 : decode cX4_init 34 = .ok (.anewarray 7, 3) := by decide +kernel
theorem dX4_init_37 : decode cX4_init 37 = .ok (.putfield 21, 3) := by decide +kernel
theorem dX4_init_40 : decode cX4_init 40 = .ok (.aload_n 0, 1) := by decide +kernel
theorem dX4_init_41 : decode cX4_init 41 = .ok (.iconst 3, 1) := by decide +kernel
theorem dX4_init_42 : decode cX4_init 42 = .ok (.newarray .boolean, 2) := by decide +kernel
theorem dX4_init_44 : decode cX4_init 44 = .ok (.putfield 25, 3) := by decide +kernel
theorem dX4_init_47 : decode cX4_init 47 = .ok (.aload_n 0, 1) := by decide +kernel
theorem dX4_init_48 : decode cX4_init 48 = .ok (.new 29, 3) := by decide +kernel
theorem dX4_init_51 : decode cX4_init 51 = .ok (.dup, 1) := by decide +kernel
theorem dX4_init_52 : decode cX4_init 52 = .ok (.aload_n 0, 1) := by decide +kernel
theorem dX4_init_53 : decode cX4_init 53 = .ok (.getfield 14, 3) := by decide +kernel
theorem dX4_init_56 : decode cX4_init 56 = .ok (.invokespecial 31, 3) := by decide +kernel
theorem dX4_init_59 : decode cX4_init 59 = .ok (.putfield 34, 3) := by decide +kernel
theorem dX4_init_62 : decode cX4_init 62 = .ok (.aload_n 0, 1) := by decide +kernel
theorem dX4_init_63 : decode cX4_init 63 = .ok (.new 38, 3) := by decide +kernel
theorem dX4_init_66 : decode cX4_init 66 = .ok (.dup, 1) := by decide +kernel
theorem dX4_init_67 : decode cX4_init 67 = .ok (.invokespecial 40, 3) := by decide +kernel
theorem dX4_init_70 : decode cX4_init 70 = .ok (.putfield 41, 3) := by decide +kernel
theorem dX4_init_73 : decode cX4_init 73 = .ok (.aload_n 0, 1) := by decide +kernel
theorem dX4_init_74 : decode cX4_init 74 = .ok (.new 38, 3) := by decide +kernel
theorem dX4_init_77 : decode cX4_init 77 = .ok (.dup, 1) := by decide +kernel
theorem dX4_init_78 : decode cX4_init 78 = .ok (.invokespecial 40, 3) := by decide +kernel
theorem dX4_init_81 : decode cX4_init 81 = .ok (.putfield 45, 3) := by decide +kernel
theorem dX4_init_84 : decode cX4_init 84 = .ok (.aload_n 0, 1) := by decide +kernel
theorem dX4_init_85 : decode cX4_init 85 = .ok (.new 38, 3) := by decide +kernel
theorem dX4_init_88 : decode cX4_init 88 = .ok (.dup, 1) := by decide +kernel
theorem dX4_init_89 : decode cX4_init 89 = .ok (.invokespecial 40, 3) := by decide +kernel
theorem dX4_init_92 : decode cX4_init 92 = .ok (.putfield 48, 3) := by decide +kernel
theorem dX4_init_95 : decode cX4_init 95 = .ok (.aload_n 0, 1) := by decide +kernel
theorem dX4_init_96 : decode cX4_init 96 = .ok (.new 38, 3) := by decide +kernel
theorem dX4_init_99 : decode cX4_init 99 = .ok (.dup, 1) := by decide +kernel
theorem dX4_init_100 : decode cX4_init 100 = .ok (.invokespecial 40, 3) := by decide +kernel
theorem dX4_init_103 : decode cX4_init 103 = .ok (.putfield 51, 3) := by decide +kernel
theorem dX4_init_106 : decode cX4_init 106 = .ok (.aload_n 0, 1) := by decide +kernel
theorem dX4_init_107 : decode cX4_init 107 = .ok (.new 54, 3) := by decide +kernel
theorem dX4_init_110 : decode cX4_init 110 = .ok (.dup, 1) := by decide +kernel
theorem dX4_init_111 : decode cX4_init 111 = .ok (.invokespecial 56, 3) := by decide +kernel
theorem dX4_init_114 : decode cX4_init 114 = .ok (.putfield 57, 3) := by decide +kernel
theorem dX4_init_117 : decode cX4_init 117 = .ok (.aload_n 0, 1) := by decide +kernel
theorem dX4_init_118 : decode cX4_init 118 = .ok (.iconst 2, 1) := by decide +kernel
theorem dX4_init_119 : decode cX4_init 119 = .ok (.anewarray 38, 3) := by decide +kernel
theorem dX4_init_122 : decode cX4_init 122 = .ok (.putfield 61, 3) := by decide +kernel
theorem dX4_init_125 : decode cX4_init 125 = .ok (.aload_n 0, 1) := by decide +kernel
theorem dX4_init_126 : decode cX4_init 126 = .ok (.iconst 2, 1) := by decide +kernel
theorem dX4_init_127 : decode cX4_init 127 = .ok (.newarray .boolean, 2) := by decide +kernel
theorem dX4_init_129 : decode cX4_init 129 = .ok (.putfield 65, 3) := by decide +kernel
theorem dX4_init_132 : decode cX4_init 132 = .ok (.iconst 0, 1) := by decide +kernel
theorem dX4_init_133 : decode cX4_init 133 = .ok (.istore_n 1, 1) := by decide +kernel
theorem dX4_init_134 : decode cX4_init 134 = .ok (.iload_n 1, 1) := by decide +kernel
theorem dX4_init_135 : decode cX4_init 135 = .ok (.iconst 3, 1) := by decide +kernel
theorem dX4_init_136 : decode cX4_init 136 = .ok (.if_icmp .ge 24, 3) := by decide +kernel
theorem dX4_init_139 : decode cX4_init 139 = .ok (.aload_n 0, 1) := by decide +kernel
theorem dX4_init_140 : decode cX4_init 140 = .ok (.getfield 21, 3) := by decide +kernel
theorem dX4_init_143 : decode cX4_init 143 = .ok (.iload_n 1, 1) := by decide +kernel
theorem dX4_init_144 : decode cX4_init 144 = .ok (.new 7, 3) := by decide +kernel
theorem dX4_init_147 : decode cX4_init 147 = .ok (.dup, 1) := by decide +kernel
theorem dX4_init_148 : decode cX4_init 148 = .ok (.bipush 40, 2) := by decide +kernel
theorem dX4_init_150 : decode cX4_init 150 = .ok (.invokespecial 11, 3) := by decide +kernel
theorem dX4_init_153 : decode cX4_init 153 = .ok (.aastore, 1) := by decide +kernel
theorem dX4_init_154 : decode cX4_init 154 = .ok (.iinc 1 1, 3) := by decide +kernel
theorem dX4_init_157 : decode cX4_init 157 = .ok (.goto (-23), 3) := by decide +kernel
theorem dX4_init_160 : decode cX4_init 160 = .ok (.iconst 0, 1) := by decide +kernel
theorem dX4_init_161 : decode cX4_init 161 = .ok (.istore_n 1, 1) := by decide +kernel
theorem dX4_init_162 : decode cX4_init 162 = .ok (.iload_n 1, 1) := by decide +kernel
theorem dX4_init_163 : decode cX4_init 163 = .ok (.iconst 2, 1) := by decide +kernel
theorem dX4_init_164 : decode cX4_init 164 = .ok (.if_icmp .ge 22, 3) := by decide +kernel
theorem dX4_init_167 : decode cX4_init 167 = .ok (.aload_n 0, 1) := by decide +kernel
theorem dX4_init_168 : decode cX4_init 168 = .ok (.getfield 61, 3) := by decide +kernel
theorem dX4_init_171 : decode cX4_init 171 = .ok (.iload_n 1, 1) := by decide +kernel
theorem dX4_init_172 : decode cX4_init 172 = .ok (.new 38, 3) := by decide +kernel
theorem dX4_init_175 : decode cX4_init 175 = .ok (.dup, 1) := by decide +kernel
theorem dX4_init_176 : decode cX4_init 176 = .ok (.invokespecial 40, 3) := by decide +kernel
theorem dX4_init_179 : decode cX4_init 179 = .ok (.aastore, 1) := by decide +kernel
theorem dX4_init_180 : decode cX4_init 180 = .ok (.iinc 1 1, 3) := by decide +kernel
theorem dX4_init_183 : decode cX4_init 183 = .ok (.goto (-21), 3) := by decide +kernel
theorem dX4_init_186 : decode cX4_init 186 = .ok (.return_, 1) := by decide +kernel
theorem dX4_insert_0 : decode cX4_insert 0 = .ok (.iload_n 1, 1) := by decide +kernel
theorem dX4_insert_1 : decode cX4_insert 1 = .ok (.invokestatic 208, 3) := by decide +kernel
theorem dX4_insert_4 : decode cX4_insert 4 = .ok (.ifCond .ne 6, 3) := by decide +kernel
theorem dX4_insert_7 : decode cX4_insert 7 = .ok (.bipush (-2), 2) := by decide +kernel
theorem dX4_insert_9 : decode cX4_insert 9 = .ok (.ireturn, 1) := by decide +kernel
theorem dX4_insert_10 : decode cX4_insert 10 = .ok (.iload_n 3, 1) := by decide +kernel
theorem dX4_insert_11 : decode cX4_insert 11 = .ok (.invokestatic 211, 3) := by decide +kernel
theorem dX4_insert_14 : decode cX4_insert 14 = .ok (.ifCond .ne 6, 3) := by decide +kernel
theorem dX4_insert_17 : decode cX4_insert 17 = .ok (.bipush (-3), 2) := by decide +kernel
theorem dX4_insert_19 : decode cX4_insert 19 = .ok (.ireturn, 1) := by decide +kernel
theorem dX4_insert_20 : decode cX4_insert 20 = .ok (.aload_n 0, 1) := by decide +kernel
theorem dX4_insert_21 : decode cX4_insert 21 = .ok (.getfield 25, 3) := by decide +kernel
theorem dX4_insert_24 : decode cX4_insert 24 = .ok (.iload_n 1, 1) := by decide +kernel
theorem dX4_insert_25 : decode cX4_insert 25 = .ok (.baload, 1) := by decide +kernel
theorem dX4_insert_26 : decode cX4_insert 26 = .ok (.ifCond .ne 6, 3) := by decide +kernel
theorem dX4_insert_29 : decode cX4_insert 29 = .ok (.bipush (-11), 2) := by decide +kernel
theorem dX4_insert_31 : decode cX4_insert 31 = .ok (.ireturn, 1) := by decide +kernel
theorem dX4_insert_32 : decode cX4_insert 32 = .ok (.iload_n 2, 1) := by decide +kernel
theorem dX4_insert_33 : decode cX4_insert 33 = .ok (.ifCond .lt 16, 3) := by decide +kernel
theorem dX4_insert_36 : decode cX4_insert 36 = .ok (.iload_n 2, 1) := by decide +kernel
theorem dX4_insert_37 : decode cX4_insert 37 = .ok (.aload_n 0, 1) := by decide +kernel
theorem dX4_insert_38 : decode cX4_insert 38 = .ok (.getfield 21, 3) := by decide +kernel
theorem dX4_insert_41 : decode cX4_insert 41 = .ok (.iload_n 1, 1) := by decide +kernel
theorem dX4_insert_42 : decode cX4_insert 42 = .ok (.aaload, 1) := by decide +kernel
theorem dX4_insert_43 : decode cX4_insert 43 = .ok (.getfield 72, 3) := by decide +kernel
theorem dX4_insert_46 : decode cX4_insert 46 = .ok (.if_icmp .le 6, 3) := by decide +kernel
theorem dX4_insert_49 : decode cX4_insert 49 = .ok (.bipush (-12), 2) := by decide +kernel
theorem dX4_insert_51 : decode cX4_insert 51 = .ok (.ireturn, 1) := by decide +kernel
theorem dX4_insert_52 : decode cX4_insert 52 = .ok (.aload_n 0, 1) := by decide +kernel
theorem dX4_insert_53 : decode cX4_insert 53 = .ok (.getfield 21, 3) := by decide +kernel
theorem dX4_insert_56 : decode cX4_insert 56 = .ok (.iload_n 1, 1) := by decide +kernel
theorem dX4_insert_57 : decode cX4_insert 57 = .ok (.aaload, 1) := by decide +kernel
theorem dX4_insert_58 : decode cX4_insert 58 = .ok (.iconst 1, 1) := by decide +kernel
theorem dX4_insert_59 : decode cX4_insert 59 = .ok (.invokevirtual 68, 3) := by decide +kernel
theorem dX4_insert_62 : decode cX4_insert 62 = .ok (.ifCond .ne 6, 3) := by decide +kernel
theorem dX4_insert_65 : decode cX4_insert 65 = .ok (.bipush (-13), 2) := by decide +kernel
theorem dX4_insert_67 : decode cX4_insert 67 = .ok (.ireturn, 1) := by decide +kernel
theorem dX4_insert_68 : decode cX4_insert 68 = .ok (.aload_n 0, 1) := by decide +kernel
theorem dX4_insert_69 : decode cX4_insert 69 = .ok (.getfield 21, 3) := by decide +kernel
theorem dX4_insert_72 : decode cX4_insert 72 = .ok (.iload_n 1, 1) := by decide +kernel
theorem dX4_insert_73 : decode cX4_insert 73 = .ok (.aaload, 1) := by decide +kernel
theorem dX4_insert_74 : decode cX4_insert 74 = .ok (.iload_n 2, 1) := by decide +kernel
theorem dX4_insert_75 : decode cX4_insert 75 = .ok (.iload_n 3, 1) := by decide +kernel
theorem dX4_insert_76 : decode cX4_insert 76 = .ok (.invokevirtual 76, 3) := by decide +kernel
theorem dX4_insert_79 : decode cX4_insert 79 = .ok (.aload_n 0, 1) := by decide +kernel
theorem dX4_insert_80 : decode cX4_insert 80 = .ok (.getfield 21, 3) := by decide +kernel
theorem dX4_insert_83 : decode cX4_insert 83 = .ok (.iload_n 1, 1) := by decide +kernel
theorem dX4_insert_84 : decode cX4_insert 84 = .ok (.aaload, 1) := by decide +kernel
theorem dX4_insert_85 : decode cX4_insert 85 = .ok (.getfield 72, 3) := by decide +kernel
theorem dX4_insert_88 : decode cX4_insert 88 = .ok (.ireturn, 1) := by decide +kernel
theorem dX4_isDigit_0 : decode cX4_isDigit 0 = .ok (.iload_n 0, 1) := by decide +kernel
theorem dX4_isDigit_1 : decode cX4_isDigit 1 = .ok (.bipush 48, 2) := by decide +kernel
theorem dX4_isDigit_3 : decode cX4_isDigit 3 = .ok (.if_icmp .lt 13, 3) := by decide +kernel
theorem dX4_isDigit_6 : decode cX4_isDigit 6 = .ok (.iload_n 0, 1) := by decide +kernel
theorem dX4_isDigit_7 : decode cX4_isDigit 7 = .ok (.bipush 57, 2) := by decide +kernel
theorem dX4_isDigit_9 : decode cX4_isDigit 9 = .ok (.if_icmp .gt 7, 3) := by decide +kernel
theorem dX4_isDigit_12 : decode cX4_isDigit 12 = .ok (.iconst 1, 1) := by decide +kernel
theorem dX4_isDigit_13 : decode cX4_isDigit 13 = .ok (.goto 4, 3) := by decide +kernel
theorem dX4_isDigit_16 : decode cX4_isDigit 16 = .ok (.iconst 0, 1) := by decide +kernel
theorem dX4_isDigit_17 : decode cX4_isDigit 17 = .ok (.ireturn, 1) := by decide +kernel
theorem dX4_isParty_0 : decode cX4_isParty 0 = .ok (.iload_n 0, 1) := by decide +kernel
theorem dX4_isParty_1 : decode cX4_isParty 1 = .ok (.ifCond .lt 13, 3) := by decide +kernel
theorem dX4_isParty_4 : decode cX4_isParty 4 = .ok (.iload_n 0, 1) := by decide +kernel
theorem dX4_isParty_5 : decode cX4_isParty 5 = .ok (.bipush 10, 2) := by decide +kernel
theorem dX4_isParty_7 : decode cX4_isParty 7 = .ok (.if_icmp .ge 7, 3) := by decide +kernel
theorem dX4_isParty_10 : decode cX4_isParty 10 = .ok (.iconst 1, 1) := by decide +kernel
theorem dX4_isParty_11 : decode cX4_isParty 11 = .ok (.goto 4, 3) := by decide +kernel
theorem dX4_isParty_14 : decode cX4_isParty 14 = .ok (.iconst 0, 1) := by decide +kernel
theorem dX4_isParty_15 : decode cX4_isParty 15 = .ok (.ireturn, 1) := by decide +kernel
theorem dX4_isSeed_0 : decode cX4_isSeed 0 = .ok (.iload_n 0, 1) := by decide +kernel
theorem dX4_isSeed_1 : decode cX4_isSeed 1 = .ok (.iconst 1, 1) := by decide +kernel
theorem dX4_isSeed_2 : decode cX4_isSeed 2 = .ok (.if_icmp .lt 7, 3) := by decide +kernel
theorem dX4_isSeed_5 : decode cX4_isSeed 5 = .ok (.iconst 1, 1) := by decide +kernel
theorem dX4_isSeed_6 : decode cX4_isSeed 6 = .ok (.goto 4, 3) := by decide +kernel
theorem dX4_isSeed_9 : decode cX4_isSeed 9 = .ok (.iconst 0, 1) := by decide +kernel
theorem dX4_isSeed_10 : decode cX4_isSeed 10 = .ok (.ireturn, 1) := by decide +kernel
theorem dX4_isSlip_0 : decode cX4_isSlip 0 = .ok (.iload_n 0, 1) := by decide +kernel
theorem dX4_isSlip_1 : decode cX4_isSlip 1 = .ok (.ifCond .lt 12, 3) := by decide +kernel
theorem dX4_isSlip_4 : decode cX4_isSlip 4 = .ok (.iload_n 0, 1) := by decide +kernel
theorem dX4_isSlip_5 : decode cX4_isSlip 5 = .ok (.iconst 3, 1) := by decide +kernel
theorem dX4_isSlip_6 : decode cX4_isSlip 6 = .ok (.if_icmp .ge 7, 3) := by decide +kernel
theorem dX4_isSlip_9 : decode cX4_isSlip 9 = .ok (.iconst 1, 1) := by decide +kernel
theorem dX4_isSlip_10 : decode cX4_isSlip 10 = .ok (.goto 4, 3) := by decide +kernel
theorem dX4_isSlip_13 : decode cX4_isSlip 13 = .ok (.iconst 0, 1) := by decide +kernel
theorem dX4_isSlip_14 : decode cX4_isSlip 14 = .ok (.ireturn, 1) := by decide +kernel
theorem dX4_isSlipLetter_0 : decode cX4_isSlipLetter 0 = .ok (.iload_n 0, 1) := by decide +kernel
theorem dX4_isSlipLetter_1 : decode cX4_isSlipLetter 1 = .ok (.invokestatic 246, 3) := by decide +kernel
theorem dX4_isSlipLetter_4 : decode cX4_isSlipLetter 4 = .ok (.ifCond .ne 16, 3) := by decide +kernel
theorem dX4_isSlipLetter_7 : decode cX4_isSlipLetter 7 = .ok (.iload_n 0, 1) := by decide +kernel
theorem dX4_isSlipLetter_8 : decode cX4_isSlipLetter 8 = .ok (.invokestatic 249, 3) := by decide +kernel
theorem dX4_isSlipLetter_11 : decode cX4_isSlipLetter 11 = .ok (.ifCond .ne 9, 3) := by decide +kernel
theorem dX4_isSlipLetter_14 : decode cX4_isSlipLetter 14 = .ok (.iload_n 0, 1) := by decide +kernel
theorem dX4_isSlipLetter_15 : decode cX4_isSlipLetter 15 = .ok (.bipush 46, 2) := by decide +kernel
theorem dX4_isSlipLetter_17 : decode cX4_isSlipLetter 17 = .ok (.if_icmp .ne 7, 3) := by decide +kernel
theorem dX4_isSlipLetter_20 : decode cX4_isSlipLetter 20 = .ok (.iconst 1, 1) := by decide +kernel
theorem dX4_isSlipLetter_21 : decode cX4_isSlipLetter 21 = .ok (.goto 4, 3) := by decide +kernel
theorem dX4_isSlipLetter_24 : decode cX4_isSlipLetter 24 = .ok (.iconst 0, 1) := by decide +kernel
theorem dX4_isSlipLetter_25 : decode cX4_isSlipLetter 25 = .ok (.ireturn, 1) := by decide +kernel
theorem dX4_isSmallLetter_0 : decode cX4_isSmallLetter 0 = .ok (.iload_n 0, 1) := by decide +kernel
theorem dX4_isSmallLetter_1 : decode cX4_isSmallLetter 1 = .ok (.bipush 97, 2) := by decide +kernel
theorem dX4_isSmallLetter_3 : decode cX4_isSmallLetter 3 = .ok (.if_icmp .lt 13, 3) := by decide +kernel
theorem dX4_isSmallLetter_6 : decode cX4_isSmallLetter 6 = .ok (.iload_n 0, 1) := by decide +kernel
theorem dX4_isSmallLetter_7 : decode cX4_isSmallLetter 7 = .ok (.bipush 122, 2) := by decide +kernel
theorem dX4_isSmallLetter_9 : decode cX4_isSmallLetter 9 = .ok (.if_icmp .gt 7, 3) := by decide +kernel
theorem dX4_isSmallLetter_12 : decode cX4_isSmallLetter 12 = .ok (.iconst 1, 1) := by decide +kernel
theorem dX4_isSmallLetter_13 : decode cX4_isSmallLetter 13 = .ok (.goto 4, 3) := by decide +kernel
theorem dX4_isSmallLetter_16 : decode cX4_isSmallLetter 16 = .ok (.iconst 0, 1) := by decide +kernel
theorem dX4_isSmallLetter_17 : decode cX4_isSmallLetter 17 = .ok (.ireturn, 1) := by decide +kernel
theorem dX4_isSubject_0 : decode cX4_isSubject 0 = .ok (.iload_n 0, 1) := by decide +kernel
theorem dX4_isSubject_1 : decode cX4_isSubject 1 = .ok (.ifCond .lt 12, 3) := by decide +kernel
theorem dX4_isSubject_4 : decode cX4_isSubject 4 = .ok (.iload_n 0, 1) := by decide +kernel
theorem dX4_isSubject_5 : decode cX4_isSubject 5 = .ok (.iconst 5, 1) := by decide +kernel
theorem dX4_isSubject_6 : decode cX4_isSubject 6 = .ok (.if_icmp .ge 7, 3) := by decide +kernel
theorem dX4_isSubject_9 : decode cX4_isSubject 9 = .ok (.iconst 1, 1) := by decide +kernel
theorem dX4_isSubject_10 : decode cX4_isSubject 10 = .ok (.goto 4, 3) := by decide +kernel
theorem dX4_isSubject_13 : decode cX4_isSubject 13 = .ok (.iconst 0, 1) := by decide +kernel
theorem dX4_isSubject_14 : decode cX4_isSubject 14 = .ok (.ireturn, 1) := by decide +kernel
theorem dX4_join_0 : decode cX4_join 0 = .ok (.iload_n 1, 1) := by decide +kernel
theorem dX4_join_1 : decode cX4_join 1 = .ok (.invokestatic 208, 3) := by decide +kernel
theorem dX4_join_4 : decode cX4_join 4 = .ok (.ifCond .eq 10, 3) := by decide +kernel
theorem dX4_join_7 : decode cX4_join 7 = .ok (.iload_n 2, 1) := by decide +kernel
theorem dX4_join_8 : decode cX4_join 8 = .ok (.invokestatic 208, 3) := by decide +kernel
theorem dX4_join_11 : decode cX4_join 11 = .ok (.ifCond .ne 6, 3) := by decide +kernel
theorem dX4_join_14 : decode cX4_join 14 = .ok (.bipush (-2), 2) := by decide +kernel
theorem dX4_join_16 : decode cX4_join 16 = .ok (.ireturn, 1) := by decide +kernel
theorem dX4_join_17 : decode cX4_join 17 = .ok (.aload_n 0, 1) := by decide +kernel
theorem dX4_join_18 : decode cX4_join 18 = .ok (.getfield 25, 3) := by decide +kernel
theorem dX4_join_21 : decode cX4_join 21 = .ok (.iload_n 1, 1) := by decide +kernel
theorem dX4_join_22 : decode cX4_join 22 = .ok (.baload, 1) := by decide +kernel
theorem dX4_join_23 : decode cX4_join 23 = .ok (.ifCond .eq 12, 3) := by decide +kernel
theorem dX4_join_26 : decode cX4_join 26 = .ok (.aload_n 0, 1) := by decide +kernel
theorem dX4_join_27 : decode cX4_join 27 = .ok (.getfield 25, 3) := by decide +kernel
theorem dX4_join_30 : decode cX4_join 30 = .ok (.iload_n 2, 1) := by decide +kernel
theorem dX4_join_31 : decode cX4_join 31 = .ok (.baload, 1) := by decide +kernel
theorem dX4_join_32 : decode cX4_join 32 = .ok (.ifCond .ne 6, 3) := by decide +kernel
theorem dX4_join_35 : decode cX4_join 35 = .ok (.bipush (-11), 2) := by decide +kernel
theorem dX4_join_37 : decode cX4_join 37 = .ok (.ireturn, 1) := by decide +kernel
theorem dX4_join_38 : decode cX4_join 38 = .ok (.aload_n 0, 1) := by decide +kernel
theorem dX4_join_39 : decode cX4_join 39 = .ok (.getfield 21, 3) := by decide +kernel
theorem dX4_join_42 : decode cX4_join 42 = .ok (.iload_n 1, 1) := by decide +kernel
theorem dX4_join_43 : decode cX4_join 43 = .ok (.aaload, 1) := by decide +kernel
theorem dX4_join_44 : decode cX4_join 44 = .ok (.aload_n 0, 1) := by decide +kernel
theorem dX4_join_45 : decode cX4_join 45 = .ok (.getfield 21, 3) := by decide +kernel
theorem dX4_join_48 : decode cX4_join 48 = .ok (.iload_n 2, 1) := by decide +kernel
theorem dX4_join_49 : decode cX4_join 49 = .ok (.aaload, 1) := by decide +kernel
theorem dX4_join_50 : decode cX4_join 50 = .ok (.getfield 72, 3) := by decide +kernel
theorem dX4_join_53 : decode cX4_join 53 = .ok (.invokevirtual 68, 3) := by decide +kernel
theorem dX4_join_56 : decode cX4_join 56 = .ok (.ifCond .ne 6, 3) := by decide +kernel
theorem dX4_join_59 : decode cX4_join 59 = .ok (.bipush (-13), 2) := by decide +kernel
theorem dX4_join_61 : decode cX4_join 61 = .ok (.ireturn, 1) := by decide +kernel
theorem dX4_join_62 : decode cX4_join 62 = .ok (.aload_n 0, 1) := by decide +kernel
theorem dX4_join_63 : decode cX4_join 63 = .ok (.getfield 21, 3) := by decide +kernel
theorem dX4_join_66 : decode cX4_join 66 = .ok (.iload_n 1, 1) := by decide +kernel
theorem dX4_join_67 : decode cX4_join 67 = .ok (.aaload, 1) := by decide +kernel
theorem dX4_join_68 : decode cX4_join 68 = .ok (.aload_n 0, 1) := by decide +kernel
theorem dX4_join_69 : decode cX4_join 69 = .ok (.getfield 21, 3) := by decide +kernel
theorem dX4_join_72 : decode cX4_join 72 = .ok (.iload_n 2, 1) := by decide +kernel
theorem dX4_join_73 : decode cX4_join 73 = .ok (.aaload, 1) := by decide +kernel
theorem dX4_join_74 : decode cX4_join 74 = .ok (.invokevirtual 217, 3) := by decide +kernel
theorem dX4_join_77 : decode cX4_join 77 = .ok (.aload_n 0, 1) := by decide +kernel
theorem dX4_join_78 : decode cX4_join 78 = .ok (.getfield 21, 3) := by decide +kernel
theorem dX4_join_81 : decode cX4_join 81 = .ok (.iload_n 1, 1) := by decide +kernel
theorem dX4_join_82 : decode cX4_join 82 = .ok (.aaload, 1) := by decide +kernel
theorem dX4_join_83 : decode cX4_join 83 = .ok (.getfield 72, 3) := by decide +kernel
theorem dX4_join_86 : decode cX4_join 86 = .ok (.ireturn, 1) := by decide +kernel
theorem dX4_judge_0 : decode cX4_judge 0 = .ok (.aload_n 0, 1) := by decide +kernel
theorem dX4_judge_1 : decode cX4_judge 1 = .ok (.getfield 48, 3) := by decide +kernel
theorem dX4_judge_4 : decode cX4_judge 4 = .ok (.iload_n 1, 1) := by decide +kernel
theorem dX4_judge_5 : decode cX4_judge 5 = .ok (.invokevirtual 100, 3) := by decide +kernel
theorem dX4_judge_8 : decode cX4_judge 8 = .ok (.ifCond .ne 6, 3) := by decide +kernel
theorem dX4_judge_11 : decode cX4_judge 11 = .ok (.bipush (-2), 2) := by decide +kernel
theorem dX4_judge_13 : decode cX4_judge 13 = .ok (.ireturn, 1) := by decide +kernel
theorem dX4_judge_14 : decode cX4_judge 14 = .ok (.iload_n 2, 1) := by decide +kernel
theorem dX4_judge_15 : decode cX4_judge 15 = .ok (.tableswitch 106 0 5 #[37, 47, 57, 67, 84, 97], 37) := by decide +kernel
theorem dX4_judge_52 : decode cX4_judge 52 = .ok (.aload_n 0, 1) := by decide +kernel
theorem dX4_judge_53 : decode cX4_judge 53 = .ok (.getfield 48, 3) := by decide +kernel
theorem dX4_judge_56 : decode cX4_judge 56 = .ok (.getfield 103, 3) := by decide +kernel
theorem dX4_judge_59 : decode cX4_judge 59 = .ok (.iload_n 1, 1) := by decide +kernel
theorem dX4_judge_60 : decode cX4_judge 60 = .ok (.iaload, 1) := by decide +kernel
theorem dX4_judge_61 : decode cX4_judge 61 = .ok (.ireturn, 1) := by decide +kernel
theorem dX4_judge_62 : decode cX4_judge 62 = .ok (.aload_n 0, 1) := by decide +kernel
theorem dX4_judge_63 : decode cX4_judge 63 = .ok (.getfield 48, 3) := by decide +kernel
theorem dX4_judge_66 : decode cX4_judge 66 = .ok (.getfield 107, 3) := by decide +kernel
theorem dX4_judge_69 : decode cX4_judge 69 = .ok (.iload_n 1, 1) := by decide +kernel
theorem dX4_judge_70 : decode cX4_judge 70 = .ok (.iaload, 1) := by decide +kernel
theorem dX4_judge_71 : decode cX4_judge 71 = .ok (.ireturn, 1) := by decide +kernel
theorem dX4_judge_72 : decode cX4_judge 72 = .ok (.aload_n 0, 1) := by decide +kernel
theorem dX4_judge_73 : decode cX4_judge 73 = .ok (.getfield 48, 3) := by decide +kernel
theorem dX4_judge_76 : decode cX4_judge 76 = .ok (.getfield 110, 3) := by decide +kernel
theorem dX4_judge_79 : decode cX4_judge 79 = .ok (.iload_n 1, 1) := by decide +kernel
theorem dX4_judge_80 : decode cX4_judge 80 = .ok (.iaload, 1) := by decide +kernel
theorem dX4_judge_81 : decode cX4_judge 81 = .ok (.ireturn, 1) := by decide +kernel
theorem dX4_judge_82 : decode cX4_judge 82 = .ok (.aload_n 0, 1) := by decide +kernel
theorem dX4_judge_83 : decode cX4_judge 83 = .ok (.getfield 48, 3) := by decide +kernel
theorem dX4_judge_86 : decode cX4_judge 86 = .ok (.iload_n 1, 1) := by decide +kernel
theorem dX4_judge_87 : decode cX4_judge 87 = .ok (.invokevirtual 113, 3) := by decide +kernel
theorem dX4_judge_90 : decode cX4_judge 90 = .ok (.ifCond .eq 7, 3) := by decide +kernel
theorem dX4_judge_93 : decode cX4_judge 93 = .ok (.iconst 1, 1) := by decide +kernel
theorem dX4_judge_94 : decode cX4_judge 94 = .ok (.goto 4, 3) := by decide +kernel
theorem dX4_judge_97 : decode cX4_judge 97 = .ok (.iconst 0, 1) := by decide +kernel
theorem dX4_judge_98 : decode cX4_judge 98 = .ok (.ireturn, 1) := by decide +kernel
theorem dX4_judge_99 : decode cX4_judge 99 = .ok (.aload_n 0, 1) := by decide +kernel
theorem dX4_judge_100 : decode cX4_judge 100 = .ok (.getfield 48, 3) := by decide +kernel
theorem dX4_judge_103 : decode cX4_judge 103 = .ok (.getfield 116, 3) := by decide +kernel
theorem dX4_judge_106 : decode cX4_judge 106 = .ok (.iload_n 1, 1) := by decide +kernel
theorem dX4_judge_107 : decode cX4_judge 107 = .ok (.iaload, 1) := by decide +kernel
theorem dX4_judge_108 : decode cX4_judge 108 = .ok (.bipush 100, 2) := by decide +kernel
theorem dX4_judge_110 : decode cX4_judge 110 = .ok (.iadd, 1) := by decide +kernel
theorem dX4_judge_111 : decode cX4_judge 111 = .ok (.ireturn, 1) := by decide +kernel
theorem dX4_judge_112 : decode cX4_judge 112 = .ok (.aload_n 0, 1) := by decide +kernel
theorem dX4_judge_113 : decode cX4_judge 113 = .ok (.getfield 48, 3) := by decide +kernel
theorem dX4_judge_116 : decode cX4_judge 116 = .ok (.iload_n 1, 1) := by decide +kernel
theorem dX4_judge_117 : decode cX4_judge 117 = .ok (.invokevirtual 119, 3) := by decide +kernel
theorem dX4_judge_120 : decode cX4_judge 120 = .ok (.ireturn, 1) := by decide +kernel
theorem dX4_judge_121 : decode cX4_judge 121 = .ok (.bipush (-3), 2) := by decide +kernel
theorem dX4_judge_123 : decode cX4_judge 123 = .ok (.ireturn, 1) := by decide +kernel
theorem dX4_keep_0 : decode cX4_keep 0 = .ok (.iload_n 1, 1) := by decide +kernel
theorem dX4_keep_1 : decode cX4_keep 1 = .ok (.ifCond .lt 8, 3) := by decide +kernel
theorem dX4_keep_4 : decode cX4_keep 4 = .ok (.iload_n 1, 1) := by decide +kernel
theorem dX4_keep_5 : decode cX4_keep 5 = .ok (.iconst 2, 1) := by decide +kernel
theorem dX4_keep_6 : decode cX4_keep 6 = .ok (.if_icmp .lt 6, 3) := by decide +kernel
theorem dX4_keep_9 : decode cX4_keep 9 = .ok (.bipush (-2), 2) := by decide +kernel
theorem dX4_keep_11 : decode cX4_keep 11 = .ok (.ireturn, 1) := by decide +kernel
theorem dX4_keep_12 : decode cX4_keep 12 = .ok (.aload_n 0, 1) := by decide +kernel
theorem dX4_keep_13 : decode cX4_keep 13 = .ok (.getfield 61, 3) := by decide +kernel
theorem dX4_keep_16 : decode cX4_keep 16 = .ok (.iload_n 1, 1) := by decide +kernel
theorem dX4_keep_17 : decode cX4_keep 17 = .ok (.aaload, 1) := by decide +kernel
theorem dX4_keep_18 : decode cX4_keep 18 = .ok (.aload_n 0, 1) := by decide +kernel
theorem dX4_keep_19 : decode cX4_keep 19 = .ok (.getfield 48, 3) := by decide +kernel
theorem dX4_keep_22 : decode cX4_keep 22 = .ok (.invokevirtual 84, 3) := by decide +kernel
theorem dX4_keep_25 : decode cX4_keep 25 = .ok (.aload_n 0, 1) := by decide +kernel
theorem dX4_keep_26 : decode cX4_keep 26 = .ok (.getfield 65, 3) := by decide +kernel
theorem dX4_keep_29 : decode cX4_keep 29 = .ok (.iload_n 1, 1) := by decide +kernel
theorem dX4_keep_30 : decode cX4_keep 30 = .ok (.iconst 1, 1) := by decide +kernel
theorem dX4_keep_31 : decode cX4_keep 31 = .ok (.bastore, 1) := by decide +kernel
theorem dX4_keep_32 : decode cX4_keep 32 = .ok (.aload_n 0, 1) := by decide +kernel
theorem dX4_keep_33 : decode cX4_keep 33 = .ok (.getfield 48, 3) := by decide +kernel
theorem dX4_keep_36 : decode cX4_keep 36 = .ok (.getfield 138, 3) := by decide +kernel
theorem dX4_keep_39 : decode cX4_keep 39 = .ok (.ireturn, 1) := by decide +kernel
theorem dX4_letter_0 : decode cX4_letter 0 = .ok (.iload_n 1, 1) := by decide +kernel
theorem dX4_letter_1 : decode cX4_letter 1 = .ok (.invokestatic 208, 3) := by decide +kernel
theorem dX4_letter_4 : decode cX4_letter 4 = .ok (.ifCond .ne 6, 3) := by decide +kernel
theorem dX4_letter_7 : decode cX4_letter 7 = .ok (.bipush (-2), 2) := by decide +kernel
theorem dX4_letter_9 : decode cX4_letter 9 = .ok (.ireturn, 1) := by decide +kernel
theorem dX4_letter_10 : decode cX4_letter 10 = .ok (.aload_n 0, 1) := by decide +kernel
theorem dX4_letter_11 : decode cX4_letter 11 = .ok (.getfield 25, 3) := by decide +kernel
theorem dX4_letter_14 : decode cX4_letter 14 = .ok (.iload_n 1, 1) := by decide +kernel
theorem dX4_letter_15 : decode cX4_letter 15 = .ok (.baload, 1) := by decide +kernel
theorem dX4_letter_16 : decode cX4_letter 16 = .ok (.ifCond .ne 6, 3) := by decide +kernel
theorem dX4_letter_19 : decode cX4_letter 19 = .ok (.bipush (-11), 2) := by decide +kernel
theorem dX4_letter_21 : decode cX4_letter 21 = .ok (.ireturn, 1) := by decide +kernel
theorem dX4_letter_22 : decode cX4_letter 22 = .ok (.iload_n 2, 1) := by decide +kernel
theorem dX4_letter_23 : decode cX4_letter 23 = .ok (.ifCond .lt 16, 3) := by decide +kernel
theorem dX4_letter_26 : decode cX4_letter 26 = .ok (.iload_n 2, 1) := by decide +kernel
theorem dX4_letter_27 : decode cX4_letter 27 = .ok (.aload_n 0, 1) := by decide +kernel
theorem dX4_letter_28 : decode cX4_letter 28 = .ok (.getfield 21, 3) := by decide +kernel
theorem dX4_letter_31 : decode cX4_letter 31 = .ok (.iload_n 1, 1) := by decide +kernel
theorem dX4_letter_32 : decode cX4_letter 32 = .ok (.aaload, 1) := by decide +kernel
theorem dX4_letter_33 : decode cX4_letter 33 = .ok (.getfield 72, 3) := by decide +kernel
theorem dX4_letter_36 : decode cX4_letter 36 = .ok (.if_icmp .lt 6, 3) := by decide +kernel
theorem dX4_letter_39 : decode cX4_letter 39 = .ok (.bipush (-12), 2) := by decide +kernel
theorem dX4_letter_41 : decode cX4_letter 41 = .ok (.ireturn, 1) := by decide +kernel
theorem dX4_letter_42 : decode cX4_letter 42 = .ok (.aload_n 0, 1) := by decide +kernel
theorem dX4_letter_43 : decode cX4_letter 43 = .ok (.getfield 21, 3) := by decide +kernel
theorem dX4_letter_46 : decode cX4_letter 46 = .ok (.iload_n 1, 1) := by decide +kernel
theorem dX4_letter_47 : decode cX4_letter 47 = .ok (.aaload, 1) := by decide +kernel
theorem dX4_letter_48 : decode cX4_letter 48 = .ok (.getfield 176, 3) := by decide +kernel
theorem dX4_letter_51 : decode cX4_letter 51 = .ok (.iload_n 2, 1) := by decide +kernel
theorem dX4_letter_52 : decode cX4_letter 52 = .ok (.iaload, 1) := by decide +kernel
theorem dX4_letter_53 : decode cX4_letter 53 = .ok (.ireturn, 1) := by decide +kernel
theorem dX4_lettersOfSlips_0 : decode cX4_lettersOfSlips 0 = .ok (.iconst 0, 1) := by decide +kernel
theorem dX4_lettersOfSlips_1 : decode cX4_lettersOfSlips 1 = .ok (.istore_n 1, 1) := by decide +kernel
theorem dX4_lettersOfSlips_2 : decode cX4_lettersOfSlips 2 = .ok (.iconst 0, 1) := by decide +kernel
theorem dX4_lettersOfSlips_3 : decode cX4_lettersOfSlips 3 = .ok (.istore_n 2, 1) := by decide +kernel
theorem dX4_lettersOfSlips_4 : decode cX4_lettersOfSlips 4 = .ok (.iload_n 2, 1) := by decide +kernel
theorem dX4_lettersOfSlips_5 : decode cX4_lettersOfSlips 5 = .ok (.iconst 3, 1) := by decide +kernel
theorem dX4_lettersOfSlips_6 : decode cX4_lettersOfSlips 6 = .ok (.if_icmp .ge 30, 3) := by decide +kernel
theorem dX4_lettersOfSlips_9 : decode cX4_lettersOfSlips 9 = .ok (.aload_n 0, 1) := by decide +kernel
theorem dX4_lettersOfSlips_10 : decode cX4_lettersOfSlips 10 = .ok (.getfield 25, 3) := by decide +kernel
theorem dX4_lettersOfSlips_13 : decode cX4_lettersOfSlips 13 = .ok (.iload_n 2, 1) := by decide +kernel
theorem dX4_lettersOfSlips_14 : decode cX4_lettersOfSlips 14 = .ok (.baload, 1) := by decide +kernel
theorem dX4_lettersOfSlips_15 : decode cX4_lettersOfSlips 15 = .ok (.ifCond .eq 15, 3) := by decide +kernel
theorem dX4_lettersOfSlips_18 : decode cX4_lettersOfSlips 18 = .ok (.iload_n 1, 1) := by decide +kernel
theorem dX4_lettersOfSlips_19 : decode cX4_lettersOfSlips 19 = .ok (.aload_n 0, 1) := by decide +kernel
theorem dX4_lettersOfSlips_20 : decode cX4_lettersOfSlips 20 = .ok (.getfield 21, 3) := by decide +kernel
theorem dX4_lettersOfSlips_23 : decode cX4_lettersOfSlips 23 = .ok (.iload_n 2, 1) := by decide +kernel
theorem dX4_lettersOfSlips_24 : decode cX4_lettersOfSlips 24 = .ok (.aaload, 1) := by decide +kernel
theorem dX4_lettersOfSlips_25 : decode cX4_lettersOfSlips 25 = .ok (.getfield 72, 3) := by decide +kernel
theorem dX4_lettersOfSlips_28 : decode cX4_lettersOfSlips 28 = .ok (.iadd, 1) := by decide +kernel
theorem dX4_lettersOfSlips_29 : decode cX4_lettersOfSlips 29 = .ok (.istore_n 1, 1) := by decide +kernel
theorem dX4_lettersOfSlips_30 : decode cX4_lettersOfSlips 30 = .ok (.iinc 2 1, 3) := by decide +kernel
theorem dX4_lettersOfSlips_33 : decode cX4_lettersOfSlips 33 = .ok (.goto (-29), 3) := by decide +kernel
theorem dX4_lettersOfSlips_36 : decode cX4_lettersOfSlips 36 = .ok (.iload_n 1, 1) := by decide +kernel
theorem dX4_lettersOfSlips_37 : decode cX4_lettersOfSlips 37 = .ok (.ireturn, 1) := by decide +kernel
theorem dX4_lettersOfWriting_0 : decode cX4_lettersOfWriting 0 = .ok (.aload_n 0, 1) := by decide +kernel
theorem dX4_lettersOfWriting_1 : decode cX4_lettersOfWriting 1 = .ok (.invokevirtual 173, 3) := by decide +kernel
theorem dX4_lettersOfWriting_4 : decode cX4_lettersOfWriting 4 = .ok (.aload_n 0, 1) := by decide +kernel
theorem dX4_lettersOfWriting_5 : decode cX4_lettersOfWriting 5 = .ok (.getfield 18, 3) := by decide +kernel
theorem dX4_lettersOfWriting_8 : decode cX4_lettersOfWriting 8 = .ok (.getfield 72, 3) := by decide +kernel
theorem dX4_lettersOfWriting_11 : decode cX4_lettersOfWriting 11 = .ok (.ireturn, 1) := by decide +kernel
theorem dX4_like_0 : decode cX4_like 0 = .ok (.iload_n 1, 1) := by decide +kernel
theorem dX4_like_1 : decode cX4_like 1 = .ok (.iconst 1, 1) := by decide +kernel
theorem dX4_like_2 : decode cX4_like 2 = .ok (.if_icmp .lt 9, 3) := by decide +kernel
theorem dX4_like_5 : decode cX4_like 5 = .ok (.iload_n 1, 1) := by decide +kernel
theorem dX4_like_6 : decode cX4_like 6 = .ok (.bipush 20, 2) := by decide +kernel
theorem dX4_like_8 : decode cX4_like 8 = .ok (.if_icmp .le 6, 3) := by decide +kernel
theorem dX4_like_11 : decode cX4_like 11 = .ok (.bipush (-3), 2) := by decide +kernel
theorem dX4_like_13 : decode cX4_like 13 = .ok (.ireturn, 1) := by decide +kernel
theorem dX4_like_14 : decode cX4_like 14 = .ok (.aload_n 0, 1) := by decide +kernel
theorem dX4_like_15 : decode cX4_like 15 = .ok (.getfield 48, 3) := by decide +kernel
theorem dX4_like_18 : decode cX4_like 18 = .ok (.invokevirtual 198, 3) := by decide +kernel
theorem dX4_like_21 : decode cX4_like 21 = .ok (.ifCond .ne 6, 3) := by decide +kernel
theorem dX4_like_24 : decode cX4_like 24 = .ok (.bipush (-4), 2) := by decide +kernel
theorem dX4_like_26 : decode cX4_like 26 = .ok (.ireturn, 1) := by decide +kernel
theorem dX4_like_27 : decode cX4_like 27 = .ok (.iload_n 1, 1) := by decide +kernel
theorem dX4_like_28 : decode cX4_like 28 = .ok (.aload_n 0, 1) := by decide +kernel
theorem dX4_like_29 : decode cX4_like 29 = .ok (.getfield 48, 3) := by decide +kernel
theorem dX4_like_32 : decode cX4_like 32 = .ok (.getfield 138, 3) := by decide +kernel
theorem dX4_like_35 : decode cX4_like 35 = .ok (.if_icmp .le 5, 3) := by decide +kernel
theorem dX4_like_38 : decode cX4_like 38 = .ok (.iconst (-1), 1) := by decide +kernel
theorem dX4_like_39 : decode cX4_like 39 = .ok (.ireturn, 1) := by decide +kernel
theorem dX4_like_40 : decode cX4_like 40 = .ok (.aload_n 0, 1) := by decide +kernel
theorem dX4_like_41 : decode cX4_like 41 = .ok (.getfield 51, 3) := by decide +kernel
theorem dX4_like_44 : decode cX4_like 44 = .ok (.aload_n 0, 1) := by decide +kernel
theorem dX4_like_45 : decode cX4_like 45 = .ok (.getfield 48, 3) := by decide +kernel
theorem dX4_like_48 : decode cX4_like 48 = .ok (.invokevirtual 84, 3) := by decide +kernel
theorem dX4_like_51 : decode cX4_like 51 = .ok (.iconst 1, 1) := by decide +kernel
theorem dX4_like_52 : decode cX4_like 52 = .ok (.istore_n 2, 1) := by decide +kernel
theorem dX4_like_53 : decode cX4_like 53 = .ok (.iload_n 2, 1) := by decide +kernel
theorem dX4_like_54 : decode cX4_like 54 = .ok (.sipush 300, 3) := by decide +kernel
theorem dX4_like_57 : decode cX4_like 57 = .ok (.if_icmp .gt 21, 3) := by decide +kernel
theorem dX4_like_60 : decode cX4_like 60 = .ok (.aload_n 0, 1) := by decide +kernel
theorem dX4_like_61 : decode cX4_like 61 = .ok (.iload_n 2, 1) := by decide +kernel
theorem dX4_like_62 : decode cX4_like 62 = .ok (.iload_n 1, 1) := by decide +kernel
theorem dX4_like_63 : decode cX4_like 63 = .ok (.invokevirtual 202, 3) := by decide +kernel
theorem dX4_like_66 : decode cX4_like 66 = .ok (.iload_n 1, 1) := by decide +kernel
theorem dX4_like_67 : decode cX4_like 67 = .ok (.if_icmp .lt 5, 3) := by decide +kernel
theorem dX4_like_70 : decode cX4_like 70 = .ok (.iload_n 2, 1) := by decide +kernel
theorem dX4_like_71 : decode cX4_like 71 = .ok (.ireturn, 1) := by decide +kernel
theorem dX4_like_72 : decode cX4_like 72 = .ok (.iinc 2 1, 3) := by decide +kernel
theorem dX4_like_75 : decode cX4_like 75 = .ok (.goto (-22), 3) := by decide +kernel
theorem dX4_like_78 : decode cX4_like 78 = .ok (.iconst (-1), 1) := by decide +kernel
theorem dX4_like_79 : decode cX4_like 79 = .ok (.ireturn, 1) := by decide +kernel
theorem dX4_named_0 : decode cX4_named 0 = .ok (.iload_n 1, 1) := by decide +kernel
theorem dX4_named_1 : decode cX4_named 1 = .ok (.invokestatic 208, 3) := by decide +kernel
theorem dX4_named_4 : decode cX4_named 4 = .ok (.ifCond .ne 6, 3) := by decide +kernel
theorem dX4_named_7 : decode cX4_named 7 = .ok (.bipush (-2), 2) := by decide +kernel
theorem dX4_named_9 : decode cX4_named 9 = .ok (.ireturn, 1) := by decide +kernel
theorem dX4_named_10 : decode cX4_named 10 = .ok (.aload_n 0, 1) := by decide +kernel
theorem dX4_named_11 : decode cX4_named 11 = .ok (.getfield 25, 3) := by decide +kernel
theorem dX4_named_14 : decode cX4_named 14 = .ok (.iload_n 1, 1) := by decide +kernel
theorem dX4_named_15 : decode cX4_named 15 = .ok (.baload, 1) := by decide +kernel
theorem dX4_named_16 : decode cX4_named 16 = .ok (.ifCond .ne 6, 3) := by decide +kernel
theorem dX4_named_19 : decode cX4_named 19 = .ok (.bipush (-11), 2) := by decide +kernel
theorem dX4_named_21 : decode cX4_named 21 = .ok (.ireturn, 1) := by decide +kernel
theorem dX4_named_22 : decode cX4_named 22 = .ok (.aload_n 0, 1) := by decide +kernel
theorem dX4_named_23 : decode cX4_named 23 = .ok (.getfield 21, 3) := by decide +kernel
theorem dX4_named_26 : decode cX4_named 26 = .ok (.iload_n 1, 1) := by decide +kernel
theorem dX4_named_27 : decode cX4_named 27 = .ok (.aaload, 1) := by decide +kernel
theorem dX4_named_28 : decode cX4_named 28 = .ok (.iconst 0, 1) := by decide +kernel
theorem dX4_named_29 : decode cX4_named 29 = .ok (.aload_n 0, 1) := by decide +kernel
theorem dX4_named_30 : decode cX4_named 30 = .ok (.getfield 21, 3) := by decide +kernel
theorem dX4_named_33 : decode cX4_named 33 = .ok (.iload_n 1, 1) := by decide +kernel
theorem dX4_named_34 : decode cX4_named 34 = .ok (.aaload, 1) := by decide +kernel
theorem dX4_named_35 : decode cX4_named 35 = .ok (.getfield 72, 3) := by decide +kernel
theorem dX4_named_38 : decode cX4_named 38 = .ok (.invokevirtual 228, 3) := by decide +kernel
theorem dX4_named_41 : decode cX4_named 41 = .ok (.ireturn, 1) := by decide +kernel
theorem dX4_next_0 : decode cX4_next 0 = .ok (.iload_n 1, 1) := by decide +kernel
theorem dX4_next_1 : decode cX4_next 1 = .ok (.invokestatic 144, 3) := by decide +kernel
theorem dX4_next_4 : decode cX4_next 4 = .ok (.ifCond .eq 10, 3) := by decide +kernel
theorem dX4_next_7 : decode cX4_next 7 = .ok (.iload_n 2, 1) := by decide +kernel
theorem dX4_next_8 : decode cX4_next 8 = .ok (.invokestatic 147, 3) := by decide +kernel
theorem dX4_next_11 : decode cX4_next 11 = .ok (.ifCond .ne 6, 3) := by decide +kernel
theorem dX4_next_14 : decode cX4_next 14 = .ok (.bipush (-3), 2) := by decide +kernel
theorem dX4_next_16 : decode cX4_next 16 = .ok (.ireturn, 1) := by decide +kernel
theorem dX4_next_17 : decode cX4_next 17 = .ok (.aload_n 0, 1) := by decide +kernel
theorem dX4_next_18 : decode cX4_next 18 = .ok (.getfield 48, 3) := by decide +kernel
theorem dX4_next_21 : decode cX4_next 21 = .ok (.iload_n 2, 1) := by decide +kernel
theorem dX4_next_22 : decode cX4_next 22 = .ok (.iconst (-1), 1) := by decide +kernel
theorem dX4_next_23 : decode cX4_next 23 = .ok (.invokevirtual 150, 3) := by decide +kernel
theorem dX4_next_26 : decode cX4_next 26 = .ok (.ifCond .ne 6, 3) := by decide +kernel
theorem dX4_next_29 : decode cX4_next 29 = .ok (.bipush (-4), 2) := by decide +kernel
theorem dX4_next_31 : decode cX4_next 31 = .ok (.ireturn, 1) := by decide +kernel
theorem dX4_next_32 : decode cX4_next 32 = .ok (.aload_n 0, 1) := by decide +kernel
theorem dX4_next_33 : decode cX4_next 33 = .ok (.getfield 51, 3) := by decide +kernel
theorem dX4_next_36 : decode cX4_next 36 = .ok (.aload_n 0, 1) := by decide +kernel
theorem dX4_next_37 : decode cX4_next 37 = .ok (.getfield 48, 3) := by decide +kernel
theorem dX4_next_40 : decode cX4_next 40 = .ok (.invokevirtual 84, 3) := by decide +kernel
theorem dX4_next_43 : decode cX4_next 43 = .ok (.aload_n 0, 1) := by decide +kernel
theorem dX4_next_44 : decode cX4_next 44 = .ok (.getfield 51, 3) := by decide +kernel
theorem dX4_next_47 : decode cX4_next 47 = .ok (.iload_n 1, 1) := by decide +kernel
theorem dX4_next_48 : decode cX4_next 48 = .ok (.iload_n 2, 1) := by decide +kernel
theorem dX4_next_49 : decode cX4_next 49 = .ok (.invokevirtual 195, 3) := by decide +kernel
theorem dX4_next_52 : decode cX4_next 52 = .ok (.ireturn, 1) := by decide +kernel
theorem dX4_odds_0 : decode cX4_odds 0 = .ok (.aload_n 0, 1) := by decide +kernel
theorem dX4_odds_1 : decode cX4_odds 1 = .ok (.getfield 48, 3) := by decide +kernel
theorem dX4_odds_4 : decode cX4_odds 4 = .ok (.iload_n 1, 1) := by decide +kernel
theorem dX4_odds_5 : decode cX4_odds 5 = .ok (.invokevirtual 100, 3) := by decide +kernel
theorem dX4_odds_8 : decode cX4_odds 8 = .ok (.ifCond .ne 6, 3) := by decide +kernel
theorem dX4_odds_11 : decode cX4_odds 11 = .ok (.bipush (-2), 2) := by decide +kernel
theorem dX4_odds_13 : decode cX4_odds 13 = .ok (.ireturn, 1) := by decide +kernel
theorem dX4_odds_14 : decode cX4_odds 14 = .ok (.iload_n 2, 1) := by decide +kernel
theorem dX4_odds_15 : decode cX4_odds 15 = .ok (.invokestatic 144, 3) := by decide +kernel
theorem dX4_odds_18 : decode cX4_odds 18 = .ok (.ifCond .eq 21, 3) := by decide +kernel
theorem dX4_odds_21 : decode cX4_odds 21 = .ok (.iload_n 3, 1) := by decide +kernel
theorem dX4_odds_22 : decode cX4_odds 22 = .ok (.invokestatic 147, 3) := by decide +kernel
theorem dX4_odds_25 : decode cX4_odds 25 = .ok (.ifCond .eq 14, 3) := by decide +kernel
theorem dX4_odds_28 : decode cX4_odds 28 = .ok (.iload 4, 2) := by decide +kernel
theorem dX4_odds_30 : decode cX4_odds 30 = .ok (.ifCond .lt 9, 3) := by decide +kernel
theorem dX4_odds_33 : decode cX4_odds 33 = .ok (.iload 4, 2) := by decide +kernel
theorem dX4_odds_35 : decode cX4_odds 35 = .ok (.iconst 1, 1) := by decide +kernel
theorem dX4_odds_36 : decode cX4_odds 36 = .ok (.if_icmp .le 6, 3) := by decide +kernel
theorem dX4_odds_39 : decode cX4_odds 39 = .ok (.bipush (-3), 2) := by decide +kernel
theorem dX4_odds_41 : decode cX4_odds 41 = .ok (.ireturn, 1) := by decide +kernel
theorem dX4_odds_42 : decode cX4_odds 42 = .ok (.aload_n 0, 1) := by decide +kernel
theorem dX4_odds_43 : decode cX4_odds 43 = .ok (.getfield 48, 3) := by decide +kernel
theorem dX4_odds_46 : decode cX4_odds 46 = .ok (.iload_n 3, 1) := by decide +kernel
theorem dX4_odds_47 : decode cX4_odds 47 = .ok (.iconst (-1), 1) := by decide +kernel
theorem dX4_odds_48 : decode cX4_odds 48 = .ok (.invokevirtual 150, 3) := by decide +kernel
theorem dX4_odds_51 : decode cX4_odds 51 = .ok (.ifCond .ne 6, 3) := by decide +kernel
theorem dX4_odds_54 : decode cX4_odds 54 = .ok (.bipush (-4), 2) := by decide +kernel
theorem dX4_odds_56 : decode cX4_odds 56 = .ok (.ireturn, 1) := by decide +kernel
theorem dX4_odds_57 : decode cX4_odds 57 = .ok (.aload_n 0, 1) := by decide +kernel
theorem dX4_odds_58 : decode cX4_odds 58 = .ok (.getfield 48, 3) := by decide +kernel
theorem dX4_odds_61 : decode cX4_odds 61 = .ok (.iload_n 1, 1) := by decide +kernel
theorem dX4_odds_62 : decode cX4_odds 62 = .ok (.iload_n 3, 1) := by decide +kernel
theorem dX4_odds_63 : decode cX4_odds 63 = .ok (.invokevirtual 186, 3) := by decide +kernel
theorem dX4_odds_66 : decode cX4_odds 66 = .ok (.ifCond .ne 6, 3) := by decide +kernel
theorem dX4_odds_69 : decode cX4_odds 69 = .ok (.iload 4, 2) := by decide +kernel
theorem dX4_odds_71 : decode cX4_odds 71 = .ok (.ireturn, 1) := by decide +kernel
theorem dX4_odds_72 : decode cX4_odds 72 = .ok (.aload_n 0, 1) := by decide +kernel
theorem dX4_odds_73 : decode cX4_odds 73 = .ok (.getfield 48, 3) := by decide +kernel
theorem dX4_odds_76 : decode cX4_odds 76 = .ok (.iload_n 1, 1) := by decide +kernel
theorem dX4_odds_77 : decode cX4_odds 77 = .ok (.iload_n 2, 1) := by decide +kernel
theorem dX4_odds_78 : decode cX4_odds 78 = .ok (.invokevirtual 183, 3) := by decide +kernel
theorem dX4_odds_81 : decode cX4_odds 81 = .ok (.istore 5, 2) := by decide +kernel
theorem dX4_odds_83 : decode cX4_odds 83 = .ok (.aload_n 0, 1) := by decide +kernel
theorem dX4_odds_84 : decode cX4_odds 84 = .ok (.getfield 48, 3) := by decide +kernel
theorem dX4_odds_87 : decode cX4_odds 87 = .ok (.iload_n 2, 1) := by decide +kernel
theorem dX4_odds_88 : decode cX4_odds 88 = .ok (.iload_n 3, 1) := by decide +kernel
theorem dX4_odds_89 : decode cX4_odds 89 = .ok (.invokevirtual 189, 3) := by decide +kernel
theorem dX4_odds_92 : decode cX4_odds 92 = .ok (.istore 6, 2) := by decide +kernel
theorem dX4_odds_94 : decode cX4_odds 94 = .ok (.iload 5, 2) := by decide +kernel
theorem dX4_odds_96 : decode cX4_odds 96 = .ok (.iload 6, 2) := by decide +kernel
theorem dX4_odds_98 : decode cX4_odds 98 = .ok (.invokestatic 192, 3) := by decide +kernel
theorem dX4_odds_101 : decode cX4_odds 101 = .ok (.istore 7, 2) := by decide +kernel
theorem dX4_odds_103 : decode cX4_odds 103 = .ok (.iload 4, 2) := by decide +kernel
theorem dX4_odds_105 : decode cX4_odds 105 = .ok (.ifCond .ne 8, 3) := by decide +kernel
theorem dX4_odds_108 : decode cX4_odds 108 = .ok (.iload 5, 2) := by decide +kernel
theorem dX4_odds_110 : decode cX4_odds 110 = .ok (.goto 5, 3) := by decide +kernel
theorem dX4_odds_113 : decode cX4_odds 113 = .ok (.iload 6, 2) := by decide +kernel
theorem dX4_odds_115 : decode cX4_odds 115 = .ok (.iload 7, 2) := by decide +kernel
theorem dX4_odds_117 : decode cX4_odds 117 = .ok (.idiv, 1) := by decide +kernel
theorem dX4_odds_118 : decode cX4_odds 118 = .ok (.ireturn, 1) := by decide +kernel
theorem dX4_readText_0 : decode cX4_readText 0 = .ok (.aload_n 0, 1) := by decide +kernel
theorem dX4_readText_1 : decode cX4_readText 1 = .ok (.getfield 45, 3) := by decide +kernel
theorem dX4_readText_4 : decode cX4_readText 4 = .ok (.aload_n 0, 1) := by decide +kernel
theorem dX4_readText_5 : decode cX4_readText 5 = .ok (.getfield 41, 3) := by decide +kernel
theorem dX4_readText_8 : decode cX4_readText 8 = .ok (.invokevirtual 84, 3) := by decide +kernel
theorem dX4_readText_11 : decode cX4_readText 11 = .ok (.aload_n 0, 1) := by decide +kernel
theorem dX4_readText_12 : decode cX4_readText 12 = .ok (.getfield 34, 3) := by decide +kernel
theorem dX4_readText_15 : decode cX4_readText 15 = .ok (.aload_n 0, 1) := by decide +kernel
theorem dX4_readText_16 : decode cX4_readText 16 = .ok (.getfield 45, 3) := by decide +kernel
theorem dX4_readText_19 : decode cX4_readText 19 = .ok (.invokevirtual 265, 3) := by decide +kernel
theorem dX4_readText_22 : decode cX4_readText 22 = .ok (.ireturn, 1) := by decide +kernel
theorem dX4_recountBy_0 : decode cX4_recountBy 0 = .ok (.iconst 0, 1) := by decide +kernel
theorem dX4_recountBy_1 : decode cX4_recountBy 1 = .ok (.istore_n 3, 1) := by decide +kernel
theorem dX4_recountBy_2 : decode cX4_recountBy 2 = .ok (.aload_n 0, 1) := by decide +kernel
theorem dX4_recountBy_3 : decode cX4_recountBy 3 = .ok (.getfield 51, 3) := by decide +kernel
theorem dX4_recountBy_6 : decode cX4_recountBy 6 = .ok (.iload_n 1, 1) := by decide +kernel
theorem dX4_recountBy_7 : decode cX4_recountBy 7 = .ok (.invokevirtual 141, 3) := by decide +kernel
theorem dX4_recountBy_10 : decode cX4_recountBy 10 = .ok (.iconst 0, 1) := by decide +kernel
theorem dX4_recountBy_11 : decode cX4_recountBy 11 = .ok (.istore 4, 2) := by decide +kernel
theorem dX4_recountBy_13 : decode cX4_recountBy 13 = .ok (.iload 4, 2) := by decide +kernel
theorem dX4_recountBy_15 : decode cX4_recountBy 15 = .ok (.aload_n 0, 1) := by decide +kernel
theorem dX4_recountBy_16 : decode cX4_recountBy 16 = .ok (.getfield 48, 3) := by decide +kernel
theorem dX4_recountBy_19 : decode cX4_recountBy 19 = .ok (.getfield 138, 3) := by decide +kernel
theorem dX4_recountBy_22 : decode cX4_recountBy 22 = .ok (.if_icmp .ge 68, 3) := by decide +kernel
theorem dX4_recountBy_25 : decode cX4_recountBy 25 = .ok (.iload_n 3, 1) := by decide +kernel
theorem dX4_recountBy_26 : decode cX4_recountBy 26 = .ok (.aload_n 0, 1) := by decide +kernel
theorem dX4_recountBy_27 : decode cX4_recountBy 27 = .ok (.getfield 48, 3) := by decide +kernel
theorem dX4_recountBy_30 : decode cX4_recountBy 30 = .ok (.getfield 138, 3) := by decide +kernel
theorem dX4_recountBy_33 : decode cX4_recountBy 33 = .ok (.iadd, 1) := by decide +kernel
theorem dX4_recountBy_34 : decode cX4_recountBy 34 = .ok (.iload 4, 2) := by decide +kernel
theorem dX4_recountBy_36 : decode cX4_recountBy 36 = .ok (.isub, 1) := by decide +kernel
theorem dX4_recountBy_37 : decode cX4_recountBy 37 = .ok (.iload_n 2, 1) := by decide +kernel
theorem dX4_recountBy_38 : decode cX4_recountBy 38 = .ok (.if_icmp .lt 52, 3) := by decide +kernel
theorem dX4_recountBy_41 : decode cX4_recountBy 41 = .ok (.aload_n 0, 1) := by decide +kernel
theorem dX4_recountBy_42 : decode cX4_recountBy 42 = .ok (.getfield 51, 3) := by decide +kernel
theorem dX4_recountBy_45 : decode cX4_recountBy 45 = .ok (.aload_n 0, 1) := by decide +kernel
theorem dX4_recountBy_46 : decode cX4_recountBy 46 = .ok (.getfield 48, 3) := by decide +kernel
theorem dX4_recountBy_49 : decode cX4_recountBy 49 = .ok (.getfield 126, 3) := by decide +kernel
theorem dX4_recountBy_52 : decode cX4_recountBy 52 = .ok (.iload 4, 2) := by decide +kernel
theorem dX4_recountBy_54 : decode cX4_recountBy 54 = .ok (.iaload, 1) := by decide +kernel
theorem dX4_recountBy_55 : decode cX4_recountBy 55 = .ok (.aload_n 0, 1) := by decide +kernel
theorem dX4_recountBy_56 : decode cX4_recountBy 56 = .ok (.getfield 48, 3) := by decide +kernel
theorem dX4_recountBy_59 : decode cX4_recountBy 59 = .ok (.getfield 129, 3) := by decide +kernel
theorem dX4_recountBy_62 : decode cX4_recountBy 62 = .ok (.iload 4, 2) := by decide +kernel
theorem dX4_recountBy_64 : decode cX4_recountBy 64 = .ok (.iaload, 1) := by decide +kernel
theorem dX4_recountBy_65 : decode cX4_recountBy 65 = .ok (.invokevirtual 157, 3) := by decide +kernel
theorem dX4_recountBy_68 : decode cX4_recountBy 68 = .ok (.aload_n 0, 1) := by decide +kernel
theorem dX4_recountBy_69 : decode cX4_recountBy 69 = .ok (.getfield 48, 3) := by decide +kernel
theorem dX4_recountBy_72 : decode cX4_recountBy 72 = .ok (.getfield 132, 3) := by decide +kernel
theorem dX4_recountBy_75 : decode cX4_recountBy 75 = .ok (.iload 4, 2) := by decide +kernel
theorem dX4_recountBy_77 : decode cX4_recountBy 77 = .ok (.iaload, 1) := by decide +kernel
theorem dX4_recountBy_78 : decode cX4_recountBy 78 = .ok (.if_icmp .ne 6, 3) := by decide +kernel
theorem dX4_recountBy_81 : decode cX4_recountBy 81 = .ok (.iinc 3 1, 3) := by decide +kernel
theorem dX4_recountBy_84 : decode cX4_recountBy 84 = .ok (.iinc 4 1, 3) := by decide +kernel
theorem dX4_recountBy_87 : decode cX4_recountBy 87 = .ok (.goto (-74), 3) := by decide +kernel
theorem dX4_recountBy_90 : decode cX4_recountBy 90 = .ok (.iload_n 3, 1) := by decide +kernel
theorem dX4_recountBy_91 : decode cX4_recountBy 91 = .ok (.ireturn, 1) := by decide +kernel
theorem dX4_refuse_0 : decode cX4_refuse 0 = .ok (.aload_n 0, 1) := by decide +kernel
theorem dX4_refuse_1 : decode cX4_refuse 1 = .ok (.getfield 48, 3) := by decide +kernel
theorem dX4_refuse_4 : decode cX4_refuse 4 = .ok (.iload_n 1, 1) := by decide +kernel
theorem dX4_refuse_5 : decode cX4_refuse 5 = .ok (.invokevirtual 123, 3) := by decide +kernel
theorem dX4_refuse_8 : decode cX4_refuse 8 = .ok (.ifCond .ne 6, 3) := by decide +kernel
theorem dX4_refuse_11 : decode cX4_refuse 11 = .ok (.bipush (-2), 2) := by decide +kernel
theorem dX4_refuse_13 : decode cX4_refuse 13 = .ok (.ireturn, 1) := by decide +kernel
theorem dX4_refuse_14 : decode cX4_refuse 14 = .ok (.aload_n 0, 1) := by decide +kernel
theorem dX4_refuse_15 : decode cX4_refuse 15 = .ok (.getfield 48, 3) := by decide +kernel
theorem dX4_refuse_18 : decode cX4_refuse 18 = .ok (.aload_n 0, 1) := by decide +kernel
theorem dX4_refuse_19 : decode cX4_refuse 19 = .ok (.getfield 48, 3) := by decide +kernel
theorem dX4_refuse_22 : decode cX4_refuse 22 = .ok (.getfield 129, 3) := by decide +kernel
theorem dX4_refuse_25 : decode cX4_refuse 25 = .ok (.iload_n 1, 1) := by decide +kernel
theorem dX4_refuse_26 : decode cX4_refuse 26 = .ok (.iaload, 1) := by decide +kernel
theorem dX4_refuse_27 : decode cX4_refuse 27 = .ok (.aload_n 0, 1) := by decide +kernel
theorem dX4_refuse_28 : decode cX4_refuse 28 = .ok (.getfield 48, 3) := by decide +kernel
theorem dX4_refuse_31 : decode cX4_refuse 31 = .ok (.getfield 132, 3) := by decide +kernel
theorem dX4_refuse_34 : decode cX4_refuse 34 = .ok (.iload_n 1, 1) := by decide +kernel
theorem dX4_refuse_35 : decode cX4_refuse 35 = .ok (.iaload, 1) := by decide +kernel
theorem dX4_refuse_36 : decode cX4_refuse 36 = .ok (.invokevirtual 150, 3) := by decide +kernel
theorem dX4_refuse_39 : decode cX4_refuse 39 = .ok (.ifCond .ne 6, 3) := by decide +kernel
theorem dX4_refuse_42 : decode cX4_refuse 42 = .ok (.bipush (-4), 2) := by decide +kernel
theorem dX4_refuse_44 : decode cX4_refuse 44 = .ok (.ireturn, 1) := by decide +kernel
theorem dX4_refuse_45 : decode cX4_refuse 45 = .ok (.aload_n 0, 1) := by decide +kernel
theorem dX4_refuse_46 : decode cX4_refuse 46 = .ok (.getfield 57, 3) := by decide +kernel
theorem dX4_refuse_49 : decode cX4_refuse 49 = .ok (.aload_n 0, 1) := by decide +kernel
theorem dX4_refuse_50 : decode cX4_refuse 50 = .ok (.getfield 48, 3) := by decide +kernel
theorem dX4_refuse_53 : decode cX4_refuse 53 = .ok (.invokevirtual 154, 3) := by decide +kernel
theorem dX4_refuse_56 : decode cX4_refuse 56 = .ok (.aload_n 0, 1) := by decide +kernel
theorem dX4_refuse_57 : decode cX4_refuse 57 = .ok (.getfield 48, 3) := by decide +kernel
theorem dX4_refuse_60 : decode cX4_refuse 60 = .ok (.iload_n 1, 1) := by decide +kernel
theorem dX4_refuse_61 : decode cX4_refuse 61 = .ok (.invokevirtual 161, 3) := by decide +kernel
theorem dX4_refuse_64 : decode cX4_refuse 64 = .ok (.ireturn, 1) := by decide +kernel
theorem dX4_ruleName_0 : decode cX4_ruleName 0 = .ok (.iload_n 0, 1) := by decide +kernel
theorem dX4_ruleName_1 : decode cX4_ruleName 1 = .ok (.tableswitch 36 0 2 #[27, 30, 33], 27) := by decide +kernel
theorem dX4_ruleName_28 : decode cX4_ruleName 28 = .ok (.ldc 252, 2) := by decide +kernel
theorem dX4_ruleName_30 : decode cX4_ruleName 30 = .ok (.areturn, 1) := by decide +kernel
theorem dX4_ruleName_31 : decode cX4_ruleName 31 = .ok (.ldc 254, 2) := by decide +kernel
theorem dX4_ruleName_33 : decode cX4_ruleName 33 = .ok (.areturn, 1) := by decide +kernel
theorem dX4_ruleName_34 : decode cX4_ruleName 34 = .ok (.ldc 255, 2) := by decide +kernel
theorem dX4_ruleName_36 : decode cX4_ruleName 36 = .ok (.areturn, 1) := by decide +kernel
theorem dX4_ruleName_37 : decode cX4_ruleName 37 = .ok (.ldc_w 257, 3) := by decide +kernel
theorem dX4_ruleName_40 : decode cX4_ruleName 40 = .ok (.areturn, 1) := by decide +kernel
theorem dX4_seal_0 : decode cX4_seal 0 = .ok (.iload_n 1, 1) := by decide +kernel
theorem dX4_seal_1 : decode cX4_seal 1 = .ok (.invokestatic 135, 3) := by decide +kernel
theorem dX4_seal_4 : decode cX4_seal 4 = .ok (.ifCond .ne 6, 3) := by decide +kernel
theorem dX4_seal_7 : decode cX4_seal 7 = .ok (.bipush (-3), 2) := by decide +kernel
theorem dX4_seal_9 : decode cX4_seal 9 = .ok (.ireturn, 1) := by decide +kernel
theorem dX4_seal_10 : decode cX4_seal 10 = .ok (.aload_n 0, 1) := by decide +kernel
theorem dX4_seal_11 : decode cX4_seal 11 = .ok (.getfield 48, 3) := by decide +kernel
theorem dX4_seal_14 : decode cX4_seal 14 = .ok (.getfield 138, 3) := by decide +kernel
theorem dX4_seal_17 : decode cX4_seal 17 = .ok (.istore_n 2, 1) := by decide +kernel
theorem dX4_seal_18 : decode cX4_seal 18 = .ok (.aload_n 0, 1) := by decide +kernel
theorem dX4_seal_19 : decode cX4_seal 19 = .ok (.getfield 48, 3) := by decide +kernel
theorem dX4_seal_22 : decode cX4_seal 22 = .ok (.iload_n 1, 1) := by decide +kernel
theorem dX4_seal_23 : decode cX4_seal 23 = .ok (.invokevirtual 141, 3) := by decide +kernel
theorem dX4_seal_26 : decode cX4_seal 26 = .ok (.aload_n 0, 1) := by decide +kernel
theorem dX4_seal_27 : decode cX4_seal 27 = .ok (.getfield 57, 3) := by decide +kernel
theorem dX4_seal_30 : decode cX4_seal 30 = .ok (.invokevirtual 88, 3) := by decide +kernel
theorem dX4_seal_33 : decode cX4_seal 33 = .ok (.iload_n 2, 1) := by decide +kernel
theorem dX4_seal_34 : decode cX4_seal 34 = .ok (.ireturn, 1) := by decide +kernel
theorem dX4_sealOf_0 : decode cX4_sealOf 0 = .ok (.iload_n 1, 1) := by decide +kernel
theorem dX4_sealOf_1 : decode cX4_sealOf 1 = .ok (.invokestatic 135, 3) := by decide +kernel
theorem dX4_sealOf_4 : decode cX4_sealOf 4 = .ok (.ifCond .eq 13, 3) := by decide +kernel
theorem dX4_sealOf_7 : decode cX4_sealOf 7 = .ok (.iload_n 2, 1) := by decide +kernel
theorem dX4_sealOf_8 : decode cX4_sealOf 8 = .ok (.ifCond .lt 9, 3) := by decide +kernel
theorem dX4_sealOf_11 : decode cX4_sealOf 11 = .ok (.iload_n 2, 1) := by decide +kernel
theorem dX4_sealOf_12 : decode cX4_sealOf 12 = .ok (.bipush 8, 2) := by decide +kernel
theorem dX4_sealOf_14 : decode cX4_sealOf 14 = .ok (.if_icmp .lt 6, 3) := by decide +kernel
theorem dX4_sealOf_17 : decode cX4_sealOf 17 = .ok (.bipush (-3), 2) := by decide +kernel
theorem dX4_sealOf_19 : decode cX4_sealOf 19 = .ok (.ireturn, 1) := by decide +kernel
theorem dX4_sealOf_20 : decode cX4_sealOf 20 = .ok (.iload_n 1, 1) := by decide +kernel
theorem dX4_sealOf_21 : decode cX4_sealOf 21 = .ok (.ldc 179, 2) := by decide +kernel
theorem dX4_sealOf_23 : decode cX4_sealOf 23 = .ok (.ixor, 1) := by decide +kernel
theorem dX4_sealOf_24 : decode cX4_sealOf 24 = .ok (.istore_n 3, 1) := by decide +kernel
theorem dX4_sealOf_25 : decode cX4_sealOf 25 = .ok (.iconst 0, 1) := by decide +kernel
theorem dX4_sealOf_26 : decode cX4_sealOf 26 = .ok (.istore 4, 2) := by decide +kernel
theorem dX4_sealOf_28 : decode cX4_sealOf 28 = .ok (.iload 4, 2) := by decide +kernel
theorem dX4_sealOf_30 : decode cX4_sealOf 30 = .ok (.iconst 5, 1) := by decide +kernel
theorem dX4_sealOf_31 : decode cX4_sealOf 31 = .ok (.if_icmp .ge 14, 3) := by decide +kernel
theorem dX4_sealOf_34 : decode cX4_sealOf 34 = .ok (.iload_n 3, 1) := by decide +kernel
theorem dX4_sealOf_35 : decode cX4_sealOf 35 = .ok (.invokestatic 180, 3) := by decide +kernel
theorem dX4_sealOf_38 : decode cX4_sealOf 38 = .ok (.istore_n 3, 1) := by decide +kernel
theorem dX4_sealOf_39 : decode cX4_sealOf 39 = .ok (.iinc 4 1, 3) := by decide +kernel
theorem dX4_sealOf_42 : decode cX4_sealOf 42 = .ok (.goto (-14), 3) := by decide +kernel
theorem dX4_sealOf_45 : decode cX4_sealOf 45 = .ok (.bipush 7, 2) := by decide +kernel
theorem dX4_sealOf_47 : decode cX4_sealOf 47 = .ok (.iload_n 2, 1) := by decide +kernel
theorem dX4_sealOf_48 : decode cX4_sealOf 48 = .ok (.isub, 1) := by decide +kernel
theorem dX4_sealOf_49 : decode cX4_sealOf 49 = .ok (.istore 4, 2) := by decide +kernel
theorem dX4_sealOf_51 : decode cX4_sealOf 51 = .ok (.bipush 97, 2) := by decide +kernel
theorem dX4_sealOf_53 : decode cX4_sealOf 53 = .ok (.iload_n 3, 1) := by decide +kernel
theorem dX4_sealOf_54 : decode cX4_sealOf 54 = .ok (.iconst 4, 1) := by decide +kernel
theorem dX4_sealOf_55 : decode cX4_sealOf 55 = .ok (.iload 4, 2) := by decide +kernel
theorem dX4_sealOf_57 : decode cX4_sealOf 57 = .ok (.imul, 1) := by decide +kernel
theorem dX4_sealOf_58 : decode cX4_sealOf 58 = .ok (.iushr, 1) := by decide +kernel
theorem dX4_sealOf_59 : decode cX4_sealOf 59 = .ok (.bipush 15, 2) := by decide +kernel
theorem dX4_sealOf_61 : decode cX4_sealOf 61 = .ok (.iand, 1) := by decide +kernel
theorem dX4_sealOf_62 : decode cX4_sealOf 62 = .ok (.iadd, 1) := by decide +kernel
theorem dX4_sealOf_63 : decode cX4_sealOf 63 = .ok (.ireturn, 1) := by decide +kernel
theorem dX4_slip_0 : decode cX4_slip 0 = .ok (.iload_n 1, 1) := by decide +kernel
theorem dX4_slip_1 : decode cX4_slip 1 = .ok (.invokestatic 208, 3) := by decide +kernel
theorem dX4_slip_4 : decode cX4_slip 4 = .ok (.ifCond .ne 6, 3) := by decide +kernel
theorem dX4_slip_7 : decode cX4_slip 7 = .ok (.bipush (-2), 2) := by decide +kernel
theorem dX4_slip_9 : decode cX4_slip 9 = .ok (.ireturn, 1) := by decide +kernel
theorem dX4_slip_10 : decode cX4_slip 10 = .ok (.aload_n 0, 1) := by decide +kernel
theorem dX4_slip_11 : decode cX4_slip 11 = .ok (.getfield 21, 3) := by decide +kernel
theorem dX4_slip_14 : decode cX4_slip 14 = .ok (.iload_n 1, 1) := by decide +kernel
theorem dX4_slip_15 : decode cX4_slip 15 = .ok (.aaload, 1) := by decide +kernel
theorem dX4_slip_16 : decode cX4_slip 16 = .ok (.iconst 0, 1) := by decide +kernel
theorem dX4_slip_17 : decode cX4_slip 17 = .ok (.putfield 72, 3) := by decide +kernel
theorem dX4_slip_20 : decode cX4_slip 20 = .ok (.aload_n 0, 1) := by decide +kernel
theorem dX4_slip_21 : decode cX4_slip 21 = .ok (.getfield 25, 3) := by decide +kernel
theorem dX4_slip_24 : decode cX4_slip 24 = .ok (.iload_n 1, 1) := by decide +kernel
theorem dX4_slip_25 : decode cX4_slip 25 = .ok (.iconst 1, 1) := by decide +kernel
theorem dX4_slip_26 : decode cX4_slip 26 = .ok (.bastore, 1) := by decide +kernel
theorem dX4_slip_27 : decode cX4_slip 27 = .ok (.iconst 0, 1) := by decide +kernel
theorem dX4_slip_28 : decode cX4_slip 28 = .ok (.ireturn, 1) := by decide +kernel
theorem dX4_told_0 : decode cX4_told 0 = .ok (.iload_n 1, 1) := by decide +kernel
theorem dX4_told_1 : decode cX4_told 1 = .ok (.tableswitch 129 0 9 #[55, 63, 71, 79, 87, 92, 100, 108, 116, 121], 55) := by decide +kernel
theorem dX4_told_56 : decode cX4_told 56 = .ok (.aload_n 0, 1) := by decide +kernel
theorem dX4_told_57 : decode cX4_told 57 = .ok (.getfield 48, 3) := by decide +kernel
theorem dX4_told_60 : decode cX4_told 60 = .ok (.getfield 231, 3) := by decide +kernel
theorem dX4_told_63 : decode cX4_told 63 = .ok (.ireturn, 1) := by decide +kernel
theorem dX4_told_64 : decode cX4_told 64 = .ok (.aload_n 0, 1) := by decide +kernel
theorem dX4_told_65 : decode cX4_told 65 = .ok (.getfield 48, 3) := by decide +kernel
theorem dX4_told_68 : decode cX4_told 68 = .ok (.getfield 138, 3) := by decide +kernel
theorem dX4_told_71 : decode cX4_told 71 = .ok (.ireturn, 1) := by decide +kernel
theorem dX4_told_72 : decode cX4_told 72 = .ok (.aload_n 0, 1) := by decide +kernel
theorem dX4_told_73 : decode cX4_told 73 = .ok (.getfield 48, 3) := by decide +kernel
theorem dX4_told_76 : decode cX4_told 76 = .ok (.getfield 205, 3) := by decide +kernel
theorem dX4_told_79 : decode cX4_told 79 = .ok (.ireturn, 1) := by decide +kernel
theorem dX4_told_80 : decode cX4_told 80 = .ok (.aload_n 0, 1) := by decide +kernel
theorem dX4_told_81 : decode cX4_told 81 = .ok (.getfield 48, 3) := by decide +kernel
theorem dX4_told_84 : decode cX4_told 84 = .ok (.getfield 234, 3) := by decide +kernel
theorem dX4_told_87 : decode cX4_told 87 = .ok (.ireturn, 1) := by decide +kernel
theorem dX4_told_88 : decode cX4_told 88 = .ok (.aload_n 0, 1) := by decide +kernel
theorem dX4_told_89 : decode cX4_told 89 = .ok (.invokevirtual 237, 3) := by decide +kernel
theorem dX4_told_92 : decode cX4_told 92 = .ok (.ireturn, 1) := by decide +kernel
theorem dX4_told_93 : decode cX4_told 93 = .ok (.aload_n 0, 1) := by decide +kernel
theorem dX4_told_94 : decode cX4_told 94 = .ok (.getfield 48, 3) := by decide +kernel
theorem dX4_told_97 : decode cX4_told 97 = .ok (.getfield 164, 3) := by decide +kernel
theorem dX4_told_100 : decode cX4_told 100 = .ok (.ireturn, 1) := by decide +kernel
theorem dX4_told_101 : decode cX4_told 101 = .ok (.aload_n 0, 1) := by decide +kernel
theorem dX4_told_102 : decode cX4_told 102 = .ok (.getfield 57, 3) := by decide +kernel
theorem dX4_told_105 : decode cX4_told 105 = .ok (.getfield 167, 3) := by decide +kernel
theorem dX4_told_108 : decode cX4_told 108 = .ok (.ireturn, 1) := by decide +kernel
theorem dX4_told_109 : decode cX4_told 109 = .ok (.aload_n 0, 1) := by decide +kernel
theorem dX4_told_110 : decode cX4_told 110 = .ok (.getfield 14, 3) := by decide +kernel
theorem dX4_told_113 : decode cX4_told 113 = .ok (.getfield 72, 3) := by decide +kernel
theorem dX4_told_116 : decode cX4_told 116 = .ok (.ireturn, 1) := by decide +kernel
theorem dX4_told_117 : decode cX4_told 117 = .ok (.aload_n 0, 1) := by decide +kernel
theorem dX4_told_118 : decode cX4_told 118 = .ok (.invokevirtual 240, 3) := by decide +kernel
theorem dX4_told_121 : decode cX4_told 121 = .ok (.ireturn, 1) := by decide +kernel
theorem dX4_told_122 : decode cX4_told 122 = .ok (.aload_n 0, 1) := by decide +kernel
theorem dX4_told_123 : decode cX4_told 123 = .ok (.getfield 48, 3) := by decide +kernel
theorem dX4_told_126 : decode cX4_told 126 = .ok (.getfield 243, 3) := by decide +kernel
theorem dX4_told_129 : decode cX4_told 129 = .ok (.ireturn, 1) := by decide +kernel
theorem dX4_told_130 : decode cX4_told 130 = .ok (.bipush (-3), 2) := by decide +kernel
theorem dX4_told_132 : decode cX4_told 132 = .ok (.ireturn, 1) := by decide +kernel
theorem dX4_turned_0 : decode cX4_turned 0 = .ok (.iload_n 0, 1) := by decide +kernel
theorem dX4_turned_1 : decode cX4_turned 1 = .ok (.istore_n 1, 1) := by decide +kernel
theorem dX4_turned_2 : decode cX4_turned 2 = .ok (.iload_n 1, 1) := by decide +kernel
theorem dX4_turned_3 : decode cX4_turned 3 = .ok (.iload_n 1, 1) := by decide +kernel
theorem dX4_turned_4 : decode cX4_turned 4 = .ok (.bipush 13, 2) := by decide +kernel
theorem dX4_turned_6 : decode cX4_turned 6 = .ok (.ishl, 1) := by decide +kernel
theorem dX4_turned_7 : decode cX4_turned 7 = .ok (.ixor, 1) := by decide +kernel
theorem dX4_turned_8 : decode cX4_turned 8 = .ok (.istore_n 1, 1) := by decide +kernel
theorem dX4_turned_9 : decode cX4_turned 9 = .ok (.iload_n 1, 1) := by decide +kernel
theorem dX4_turned_10 : decode cX4_turned 10 = .ok (.iload_n 1, 1) := by decide +kernel
theorem dX4_turned_11 : decode cX4_turned 11 = .ok (.bipush 17, 2) := by decide +kernel
theorem dX4_turned_13 : decode cX4_turned 13 = .ok (.iushr, 1) := by decide +kernel
theorem dX4_turned_14 : decode cX4_turned 14 = .ok (.ixor, 1) := by decide +kernel
theorem dX4_turned_15 : decode cX4_turned 15 = .ok (.istore_n 1, 1) := by decide +kernel
theorem dX4_turned_16 : decode cX4_turned 16 = .ok (.iload_n 1, 1) := by decide +kernel
theorem dX4_turned_17 : decode cX4_turned 17 = .ok (.iload_n 1, 1) := by decide +kernel
theorem dX4_turned_18 : decode cX4_turned 18 = .ok (.iconst 5, 1) := by decide +kernel
theorem dX4_turned_19 : decode cX4_turned 19 = .ok (.ishl, 1) := by decide +kernel
theorem dX4_turned_20 : decode cX4_turned 20 = .ok (.ixor, 1) := by decide +kernel
theorem dX4_turned_21 : decode cX4_turned 21 = .ok (.istore_n 1, 1) := by decide +kernel
theorem dX4_turned_22 : decode cX4_turned 22 = .ok (.iload_n 1, 1) := by decide +kernel
theorem dX4_turned_23 : decode cX4_turned 23 = .ok (.ireturn, 1) := by decide +kernel
theorem dX4_undo_0 : decode cX4_undo 0 = .ok (.aload_n 0, 1) := by decide +kernel
theorem dX4_undo_1 : decode cX4_undo 1 = .ok (.getfield 57, 3) := by decide +kernel
theorem dX4_undo_4 : decode cX4_undo 4 = .ok (.getfield 167, 3) := by decide +kernel
theorem dX4_undo_7 : decode cX4_undo 7 = .ok (.iconst 1, 1) := by decide +kernel
theorem dX4_undo_8 : decode cX4_undo 8 = .ok (.if_icmp .ge 6, 3) := by decide +kernel
theorem dX4_undo_11 : decode cX4_undo 11 = .ok (.bipush (-4), 2) := by decide +kernel
theorem dX4_undo_13 : decode cX4_undo 13 = .ok (.ireturn, 1) := by decide +kernel
theorem dX4_undo_14 : decode cX4_undo 14 = .ok (.aload_n 0, 1) := by decide +kernel
theorem dX4_undo_15 : decode cX4_undo 15 = .ok (.getfield 57, 3) := by decide +kernel
theorem dX4_undo_18 : decode cX4_undo 18 = .ok (.aload_n 0, 1) := by decide +kernel
theorem dX4_undo_19 : decode cX4_undo 19 = .ok (.getfield 48, 3) := by decide +kernel
theorem dX4_undo_22 : decode cX4_undo 22 = .ok (.invokevirtual 170, 3) := by decide +kernel
theorem dX4_undo_25 : decode cX4_undo 25 = .ok (.aload_n 0, 1) := by decide +kernel
theorem dX4_undo_26 : decode cX4_undo 26 = .ok (.getfield 57, 3) := by decide +kernel
theorem dX4_undo_29 : decode cX4_undo 29 = .ok (.getfield 167, 3) := by decide +kernel
theorem dX4_undo_32 : decode cX4_undo 32 = .ok (.ireturn, 1) := by decide +kernel
theorem dX4_value_0 : decode cX4_value 0 = .ok (.iload_n 1, 1) := by decide +kernel
theorem dX4_value_1 : decode cX4_value 1 = .ok (.invokestatic 208, 3) := by decide +kernel
theorem dX4_value_4 : decode cX4_value 4 = .ok (.ifCond .ne 6, 3) := by decide +kernel
theorem dX4_value_7 : decode cX4_value 7 = .ok (.bipush (-2), 2) := by decide +kernel
theorem dX4_value_9 : decode cX4_value 9 = .ok (.ireturn, 1) := by decide +kernel
theorem dX4_value_10 : decode cX4_value 10 = .ok (.aload_n 0, 1) := by decide +kernel
theorem dX4_value_11 : decode cX4_value 11 = .ok (.getfield 25, 3) := by decide +kernel
theorem dX4_value_14 : decode cX4_value 14 = .ok (.iload_n 1, 1) := by decide +kernel
theorem dX4_value_15 : decode cX4_value 15 = .ok (.baload, 1) := by decide +kernel
theorem dX4_value_16 : decode cX4_value 16 = .ok (.ifCond .ne 6, 3) := by decide +kernel
theorem dX4_value_19 : decode cX4_value 19 = .ok (.bipush (-11), 2) := by decide +kernel
theorem dX4_value_21 : decode cX4_value 21 = .ok (.ireturn, 1) := by decide +kernel
theorem dX4_value_22 : decode cX4_value 22 = .ok (.aload_n 0, 1) := by decide +kernel
theorem dX4_value_23 : decode cX4_value 23 = .ok (.getfield 21, 3) := by decide +kernel
theorem dX4_value_26 : decode cX4_value 26 = .ok (.iload_n 1, 1) := by decide +kernel
theorem dX4_value_27 : decode cX4_value 27 = .ok (.aaload, 1) := by decide +kernel
theorem dX4_value_28 : decode cX4_value 28 = .ok (.iconst 0, 1) := by decide +kernel
theorem dX4_value_29 : decode cX4_value 29 = .ok (.aload_n 0, 1) := by decide +kernel
theorem dX4_value_30 : decode cX4_value 30 = .ok (.getfield 21, 3) := by decide +kernel
theorem dX4_value_33 : decode cX4_value 33 = .ok (.iload_n 1, 1) := by decide +kernel
theorem dX4_value_34 : decode cX4_value 34 = .ok (.aaload, 1) := by decide +kernel
theorem dX4_value_35 : decode cX4_value 35 = .ok (.getfield 72, 3) := by decide +kernel
theorem dX4_value_38 : decode cX4_value 38 = .ok (.iconst 4, 1) := by decide +kernel
theorem dX4_value_39 : decode cX4_value 39 = .ok (.invokevirtual 224, 3) := by decide +kernel
theorem dX4_value_42 : decode cX4_value 42 = .ok (.istore_n 2, 1) := by decide +kernel
theorem dX4_value_43 : decode cX4_value 43 = .ok (.iload_n 2, 1) := by decide +kernel
theorem dX4_value_44 : decode cX4_value 44 = .ok (.iconst (-1), 1) := by decide +kernel
theorem dX4_value_45 : decode cX4_value 45 = .ok (.if_icmp .ne 8, 3) := by decide +kernel
theorem dX4_value_48 : decode cX4_value 48 = .ok (.bipush (-14), 2) := by decide +kernel
theorem dX4_value_50 : decode cX4_value 50 = .ok (.goto 4, 3) := by decide +kernel
theorem dX4_value_53 : decode cX4_value 53 = .ok (.iload_n 2, 1) := by decide +kernel
theorem dX4_value_54 : decode cX4_value 54 = .ok (.ireturn, 1) := by decide +kernel
theorem dX4_weight_0 : decode cX4_weight 0 = .ok (.aload_n 0, 1) := by decide +kernel
theorem dX4_weight_1 : decode cX4_weight 1 = .ok (.getfield 48, 3) := by decide +kernel
theorem dX4_weight_4 : decode cX4_weight 4 = .ok (.iload_n 1, 1) := by decide +kernel
theorem dX4_weight_5 : decode cX4_weight 5 = .ok (.invokevirtual 100, 3) := by decide +kernel
theorem dX4_weight_8 : decode cX4_weight 8 = .ok (.ifCond .ne 6, 3) := by decide +kernel
theorem dX4_weight_11 : decode cX4_weight 11 = .ok (.bipush (-2), 2) := by decide +kernel
theorem dX4_weight_13 : decode cX4_weight 13 = .ok (.ireturn, 1) := by decide +kernel
theorem dX4_weight_14 : decode cX4_weight 14 = .ok (.iload_n 2, 1) := by decide +kernel
theorem dX4_weight_15 : decode cX4_weight 15 = .ok (.invokestatic 144, 3) := by decide +kernel
theorem dX4_weight_18 : decode cX4_weight 18 = .ok (.ifCond .eq 15, 3) := by decide +kernel
theorem dX4_weight_21 : decode cX4_weight 21 = .ok (.aload_n 0, 1) := by decide +kernel
theorem dX4_weight_22 : decode cX4_weight 22 = .ok (.getfield 48, 3) := by decide +kernel
theorem dX4_weight_25 : decode cX4_weight 25 = .ok (.iload_n 1, 1) := by decide +kernel
theorem dX4_weight_26 : decode cX4_weight 26 = .ok (.iload_n 2, 1) := by decide +kernel
theorem dX4_weight_27 : decode cX4_weight 27 = .ok (.invokevirtual 183, 3) := by decide +kernel
theorem dX4_weight_30 : decode cX4_weight 30 = .ok (.goto 5, 3) := by decide +kernel
theorem dX4_weight_33 : decode cX4_weight 33 = .ok (.bipush (-3), 2) := by decide +kernel
theorem dX4_weight_35 : decode cX4_weight 35 = .ok (.ireturn, 1) := by decide +kernel
theorem dX4_wheel_0 : decode cX4_wheel 0 = .ok (.aload_n 0, 1) := by decide +kernel
theorem dX4_wheel_1 : decode cX4_wheel 1 = .ok (.invokevirtual 80, 3) := by decide +kernel
theorem dX4_wheel_4 : decode cX4_wheel 4 = .ok (.iconst (-1), 1) := by decide +kernel
theorem dX4_wheel_5 : decode cX4_wheel 5 = .ok (.if_icmp .eq 6, 3) := by decide +kernel
theorem dX4_wheel_8 : decode cX4_wheel 8 = .ok (.bipush (-4), 2) := by decide +kernel
theorem dX4_wheel_10 : decode cX4_wheel 10 = .ok (.ireturn, 1) := by decide +kernel
theorem dX4_wheel_11 : decode cX4_wheel 11 = .ok (.aload_n 0, 1) := by decide +kernel
theorem dX4_wheel_12 : decode cX4_wheel 12 = .ok (.getfield 41, 3) := by decide +kernel
theorem dX4_wheel_15 : decode cX4_wheel 15 = .ok (.aload_n 0, 1) := by decide +kernel
theorem dX4_wheel_16 : decode cX4_wheel 16 = .ok (.getfield 45, 3) := by decide +kernel
theorem dX4_wheel_19 : decode cX4_wheel 19 = .ok (.invokevirtual 84, 3) := by decide +kernel
theorem dX4_wheel_22 : decode cX4_wheel 22 = .ok (.aload_n 0, 1) := by decide +kernel
theorem dX4_wheel_23 : decode cX4_wheel 23 = .ok (.getfield 48, 3) := by decide +kernel
theorem dX4_wheel_26 : decode cX4_wheel 26 = .ok (.aload_n 0, 1) := by decide +kernel
theorem dX4_wheel_27 : decode cX4_wheel 27 = .ok (.getfield 41, 3) := by decide +kernel
theorem dX4_wheel_30 : decode cX4_wheel 30 = .ok (.invokevirtual 84, 3) := by decide +kernel
theorem dX4_wheel_33 : decode cX4_wheel 33 = .ok (.aload_n 0, 1) := by decide +kernel
theorem dX4_wheel_34 : decode cX4_wheel 34 = .ok (.getfield 57, 3) := by decide +kernel
theorem dX4_wheel_37 : decode cX4_wheel 37 = .ok (.invokevirtual 88, 3) := by decide +kernel
theorem dX4_wheel_40 : decode cX4_wheel 40 = .ok (.aload_n 0, 1) := by decide +kernel
theorem dX4_wheel_41 : decode cX4_wheel 41 = .ok (.invokevirtual 91, 3) := by decide +kernel
theorem dX4_wheel_44 : decode cX4_wheel 44 = .ok (.aload_n 0, 1) := by decide +kernel
theorem dX4_wheel_45 : decode cX4_wheel 45 = .ok (.invokevirtual 94, 3) := by decide +kernel
theorem dX4_wheel_48 : decode cX4_wheel 48 = .ok (.aload_n 0, 1) := by decide +kernel
theorem dX4_wheel_49 : decode cX4_wheel 49 = .ok (.getfield 14, 3) := by decide +kernel
theorem dX4_wheel_52 : decode cX4_wheel 52 = .ok (.iconst 0, 1) := by decide +kernel
theorem dX4_wheel_53 : decode cX4_wheel 53 = .ok (.putfield 72, 3) := by decide +kernel
theorem dX4_wheel_56 : decode cX4_wheel 56 = .ok (.aload_n 0, 1) := by decide +kernel
theorem dX4_wheel_57 : decode cX4_wheel 57 = .ok (.getfield 34, 3) := by decide +kernel
theorem dX4_wheel_60 : decode cX4_wheel 60 = .ok (.getfield 97, 3) := by decide +kernel
theorem dX4_wheel_63 : decode cX4_wheel 63 = .ok (.ireturn, 1) := by decide +kernel
theorem dX4_write_0 : decode cX4_write 0 = .ok (.iload_n 1, 1) := by decide +kernel
theorem dX4_write_1 : decode cX4_write 1 = .ok (.ifCond .lt 10, 3) := by decide +kernel
theorem dX4_write_4 : decode cX4_write 4 = .ok (.iload_n 1, 1) := by decide +kernel
theorem dX4_write_5 : decode cX4_write 5 = .ok (.sipush 255, 3) := by decide +kernel
theorem dX4_write_8 : decode cX4_write 8 = .ok (.if_icmp .le 6, 3) := by decide +kernel
theorem dX4_write_11 : decode cX4_write 11 = .ok (.bipush (-3), 2) := by decide +kernel
theorem dX4_write_13 : decode cX4_write 13 = .ok (.ireturn, 1) := by decide +kernel
theorem dX4_write_14 : decode cX4_write 14 = .ok (.aload_n 0, 1) := by decide +kernel
theorem dX4_write_15 : decode cX4_write 15 = .ok (.getfield 14, 3) := by decide +kernel
theorem dX4_write_18 : decode cX4_write 18 = .ok (.iconst 1, 1) := by decide +kernel
theorem dX4_write_19 : decode cX4_write 19 = .ok (.invokevirtual 68, 3) := by decide +kernel
theorem dX4_write_22 : decode cX4_write 22 = .ok (.ifCond .ne 6, 3) := by decide +kernel
theorem dX4_write_25 : decode cX4_write 25 = .ok (.bipush (-5), 2) := by decide +kernel
theorem dX4_write_27 : decode cX4_write 27 = .ok (.ireturn, 1) := by decide +kernel
theorem dX4_write_28 : decode cX4_write 28 = .ok (.aload_n 0, 1) := by decide +kernel
theorem dX4_write_29 : decode cX4_write 29 = .ok (.getfield 14, 3) := by decide +kernel
theorem dX4_write_32 : decode cX4_write 32 = .ok (.aload_n 0, 1) := by decide +kernel
theorem dX4_write_33 : decode cX4_write 33 = .ok (.getfield 14, 3) := by decide +kernel
theorem dX4_write_36 : decode cX4_write 36 = .ok (.getfield 72, 3) := by decide +kernel
theorem dX4_write_39 : decode cX4_write 39 = .ok (.iload_n 1, 1) := by decide +kernel
theorem dX4_write_40 : decode cX4_write 40 = .ok (.invokevirtual 76, 3) := by decide +kernel
theorem dX4_write_43 : decode cX4_write 43 = .ok (.aload_n 0, 1) := by decide +kernel
theorem dX4_write_44 : decode cX4_write 44 = .ok (.getfield 14, 3) := by decide +kernel
theorem dX4_write_47 : decode cX4_write 47 = .ok (.getfield 72, 3) := by decide +kernel
theorem dX4_write_50 : decode cX4_write 50 = .ok (.ireturn, 1) := by decide +kernel
theorem dX4_writeDocket_0 : decode cX4_writeDocket 0 = .ok (.aload_n 0, 1) := by decide +kernel
theorem dX4_writeDocket_1 : decode cX4_writeDocket 1 = .ok (.getfield 18, 3) := by decide +kernel
theorem dX4_writeDocket_4 : decode cX4_writeDocket 4 = .ok (.iconst 0, 1) := by decide +kernel
theorem dX4_writeDocket_5 : decode cX4_writeDocket 5 = .ok (.putfield 72, 3) := by decide +kernel
theorem dX4_writeDocket_8 : decode cX4_writeDocket 8 = .ok (.iconst 0, 1) := by decide +kernel
theorem dX4_writeDocket_9 : decode cX4_writeDocket 9 = .ok (.istore_n 1, 1) := by decide +kernel
theorem dX4_writeDocket_10 : decode cX4_writeDocket 10 = .ok (.iload_n 1, 1) := by decide +kernel
theorem dX4_writeDocket_11 : decode cX4_writeDocket 11 = .ok (.aload_n 0, 1) := by decide +kernel
theorem dX4_writeDocket_12 : decode cX4_writeDocket 12 = .ok (.getfield 48, 3) := by decide +kernel
theorem dX4_writeDocket_15 : decode cX4_writeDocket 15 = .ok (.getfield 138, 3) := by decide +kernel
theorem dX4_writeDocket_18 : decode cX4_writeDocket 18 = .ok (.if_icmp .ge 118, 3) := by decide +kernel
theorem dX4_writeDocket_21 : decode cX4_writeDocket 21 = .ok (.iload_n 1, 1) := by decide +kernel
theorem dX4_writeDocket_22 : decode cX4_writeDocket 22 = .ok (.bipush 10, 2) := by decide +kernel
theorem dX4_writeDocket_24 : decode cX4_writeDocket 24 = .ok (.if_icmp .lt 17, 3) := by decide +kernel
theorem dX4_writeDocket_27 : decode cX4_writeDocket 27 = .ok (.aload_n 0, 1) := by decide +kernel
theorem dX4_writeDocket_28 : decode cX4_writeDocket 28 = .ok (.getfield 18, 3) := by decide +kernel
theorem dX4_writeDocket_31 : decode cX4_writeDocket 31 = .ok (.bipush 48, 2) := by decide +kernel
theorem dX4_writeDocket_33 : decode cX4_writeDocket 33 = .ok (.iload_n 1, 1) := by decide +kernel
theorem dX4_writeDocket_34 : decode cX4_writeDocket 34 = .ok (.bipush 10, 2) := by decide +kernel
theorem dX4_writeDocket_36 : decode cX4_writeDocket 36 = .ok (.idiv, 1) := by decide +kernel
theorem dX4_writeDocket_37 : decode cX4_writeDocket 37 = .ok (.iadd, 1) := by decide +kernel
theorem dX4_writeDocket_38 : decode cX4_writeDocket 38 = .ok (.invokevirtual 269, 3) := by decide +kernel
theorem dX4_writeDocket_41 : decode cX4_writeDocket 41 = .ok (.aload_n 0, 1) := by decide +kernel
theorem dX4_writeDocket_42 : decode cX4_writeDocket 42 = .ok (.getfield 18, 3) := by decide +kernel
theorem dX4_writeDocket_45 : decode cX4_writeDocket 45 = .ok (.bipush 48, 2) := by decide +kernel
theorem dX4_writeDocket_47 : decode cX4_writeDocket 47 = .ok (.iload_n 1, 1) := by decide +kernel
theorem dX4_writeDocket_48 : decode cX4_writeDocket 48 = .ok (.bipush 10, 2) := by decide +kernel
theorem dX4_writeDocket_50 : decode cX4_writeDocket 50 = .ok (.irem, 1) := by decide +kernel
theorem dX4_writeDocket_51 : decode cX4_writeDocket 51 = .ok (.iadd, 1) := by decide +kernel
theorem dX4_writeDocket_52 : decode cX4_writeDocket 52 = .ok (.invokevirtual 269, 3) := by decide +kernel
theorem dX4_writeDocket_55 : decode cX4_writeDocket 55 = .ok (.aload_n 0, 1) := by decide +kernel
theorem dX4_writeDocket_56 : decode cX4_writeDocket 56 = .ok (.getfield 18, 3) := by decide +kernel
theorem dX4_writeDocket_59 : decode cX4_writeDocket 59 = .ok (.bipush 97, 2) := by decide +kernel
theorem dX4_writeDocket_61 : decode cX4_writeDocket 61 = .ok (.aload_n 0, 1) := by decide +kernel
theorem dX4_writeDocket_62 : decode cX4_writeDocket 62 = .ok (.getfield 48, 3) := by decide +kernel
theorem dX4_writeDocket_65 : decode cX4_writeDocket 65 = .ok (.getfield 126, 3) := by decide +kernel
theorem dX4_writeDocket_68 : decode cX4_writeDocket 68 = .ok (.iload_n 1, 1) := by decide +kernel
theorem dX4_writeDocket_69 : decode cX4_writeDocket 69 = .ok (.iaload, 1) := by decide +kernel
theorem dX4_writeDocket_70 : decode cX4_writeDocket 70 = .ok (.iadd, 1) := by decide +kernel
theorem dX4_writeDocket_71 : decode cX4_writeDocket 71 = .ok (.invokevirtual 269, 3) := by decide +kernel
theorem dX4_writeDocket_74 : decode cX4_writeDocket 74 = .ok (.aload_n 0, 1) := by decide +kernel
theorem dX4_writeDocket_75 : decode cX4_writeDocket 75 = .ok (.getfield 18, 3) := by decide +kernel
theorem dX4_writeDocket_78 : decode cX4_writeDocket 78 = .ok (.bipush 48, 2) := by decide +kernel
theorem dX4_writeDocket_80 : decode cX4_writeDocket 80 = .ok (.aload_n 0, 1) := by decide +kernel
theorem dX4_writeDocket_81 : decode cX4_writeDocket 81 = .ok (.getfield 48, 3) := by decide +kernel
theorem dX4_writeDocket_84 : decode cX4_writeDocket 84 = .ok (.getfield 129, 3) := by decide +kernel
theorem dX4_writeDocket_87 : decode cX4_writeDocket 87 = .ok (.iload_n 1, 1) := by decide +kernel
theorem dX4_writeDocket_88 : decode cX4_writeDocket 88 = .ok (.iaload, 1) := by decide +kernel
theorem dX4_writeDocket_89 : decode cX4_writeDocket 89 = .ok (.iadd, 1) := by decide +kernel
theorem dX4_writeDocket_90 : decode cX4_writeDocket 90 = .ok (.invokevirtual 269, 3) := by decide +kernel
theorem dX4_writeDocket_93 : decode cX4_writeDocket 93 = .ok (.aload_n 0, 1) := by decide +kernel
theorem dX4_writeDocket_94 : decode cX4_writeDocket 94 = .ok (.getfield 18, 3) := by decide +kernel
theorem dX4_writeDocket_97 : decode cX4_writeDocket 97 = .ok (.bipush 106, 2) := by decide +kernel
theorem dX4_writeDocket_99 : decode cX4_writeDocket 99 = .ok (.invokevirtual 269, 3) := by decide +kernel
theorem dX4_writeDocket_102 : decode cX4_writeDocket 102 = .ok (.aload_n 0, 1) := by decide +kernel
theorem dX4_writeDocket_103 : decode cX4_writeDocket 103 = .ok (.getfield 18, 3) := by decide +kernel
theorem dX4_writeDocket_106 : decode cX4_writeDocket 106 = .ok (.bipush 48, 2) := by decide +kernel
theorem dX4_writeDocket_108 : decode cX4_writeDocket 108 = .ok (.aload_n 0, 1) := by decide +kernel
theorem dX4_writeDocket_109 : decode cX4_writeDocket 109 = .ok (.getfield 48, 3) := by decide +kernel
theorem dX4_writeDocket_112 : decode cX4_writeDocket 112 = .ok (.getfield 132, 3) := by decide +kernel
theorem dX4_writeDocket_115 : decode cX4_writeDocket 115 = .ok (.iload_n 1, 1) := by decide +kernel
theorem dX4_writeDocket_116 : decode cX4_writeDocket 116 = .ok (.iaload, 1) := by decide +kernel
theorem dX4_writeDocket_117 : decode cX4_writeDocket 117 = .ok (.iadd, 1) := by decide +kernel
theorem dX4_writeDocket_118 : decode cX4_writeDocket 118 = .ok (.invokevirtual 269, 3) := by decide +kernel
theorem dX4_writeDocket_121 : decode cX4_writeDocket 121 = .ok (.aload_n 0, 1) := by decide +kernel
theorem dX4_writeDocket_122 : decode cX4_writeDocket 122 = .ok (.getfield 18, 3) := by decide +kernel
theorem dX4_writeDocket_125 : decode cX4_writeDocket 125 = .ok (.bipush 46, 2) := by decide +kernel
theorem dX4_writeDocket_127 : decode cX4_writeDocket 127 = .ok (.invokevirtual 269, 3) := by decide +kernel
theorem dX4_writeDocket_130 : decode cX4_writeDocket 130 = .ok (.iinc 1 1, 3) := by decide +kernel
theorem dX4_writeDocket_133 : decode cX4_writeDocket 133 = .ok (.goto (-123), 3) := by decide +kernel
theorem dX4_writeDocket_136 : decode cX4_writeDocket 136 = .ok (.return_, 1) := by decide +kernel
theorem dX4_writing_0 : decode cX4_writing 0 = .ok (.iload_n 1, 1) := by decide +kernel
theorem dX4_writing_1 : decode cX4_writing 1 = .ok (.ifCond .ge 6, 3) := by decide +kernel
theorem dX4_writing_4 : decode cX4_writing 4 = .ok (.bipush (-3), 2) := by decide +kernel
theorem dX4_writing_6 : decode cX4_writing 6 = .ok (.ireturn, 1) := by decide +kernel
theorem dX4_writing_7 : decode cX4_writing 7 = .ok (.aload_n 0, 1) := by decide +kernel
theorem dX4_writing_8 : decode cX4_writing 8 = .ok (.invokevirtual 173, 3) := by decide +kernel
theorem dX4_writing_11 : decode cX4_writing 11 = .ok (.iload_n 1, 1) := by decide +kernel
theorem dX4_writing_12 : decode cX4_writing 12 = .ok (.aload_n 0, 1) := by decide +kernel
theorem dX4_writing_13 : decode cX4_writing 13 = .ok (.getfield 18, 3) := by decide +kernel
theorem dX4_writing_16 : decode cX4_writing 16 = .ok (.getfield 72, 3) := by decide +kernel
theorem dX4_writing_19 : decode cX4_writing 19 = .ok (.if_icmp .ge 15, 3) := by decide +kernel
theorem dX4_writing_22 : decode cX4_writing 22 = .ok (.aload_n 0, 1) := by decide +kernel
theorem dX4_writing_23 : decode cX4_writing 23 = .ok (.getfield 18, 3) := by decide +kernel
theorem dX4_writing_26 : decode cX4_writing 26 = .ok (.getfield 176, 3) := by decide +kernel
theorem dX4_writing_29 : decode cX4_writing 29 = .ok (.iload_n 1, 1) := by decide +kernel
theorem dX4_writing_30 : decode cX4_writing 30 = .ok (.iaload, 1) := by decide +kernel
theorem dX4_writing_31 : decode cX4_writing 31 = .ok (.goto 4, 3) := by decide +kernel
theorem dX4_writing_34 : decode cX4_writing 34 = .ok (.iconst (-1), 1) := by decide +kernel
theorem dX4_writing_35 : decode cX4_writing 35 = .ok (.ireturn, 1) := by decide +kernel
end
section
theorem dX5_allLetters_0 : decode cX5_allLetters 0 = .ok (.iconst 0, 1) := by decide +kernel
theorem dX5_allLetters_1 : decode cX5_allLetters 1 = .ok (.istore_n 1, 1) := by decide +kernel
theorem dX5_allLetters_2 : decode cX5_allLetters 2 = .ok (.iconst 0, 1) := by decide +kernel
theorem dX5_allLetters_3 : decode cX5_allLetters 3 = .ok (.istore_n 2, 1) := by decide +kernel
theorem dX5_allLetters_4 : decode cX5_allLetters 4 = .ok (.iload_n 2, 1) := by decide +kernel
theorem dX5_allLetters_5 : decode cX5_allLetters 5 = .ok (.iconst 3, 1) := by decide +kernel
theorem dX5_allLetters_6 : decode cX5_allLetters 6 = .ok (.if_icmp .ge 31, 3) := by decide +kernel
theorem dX5_allLetters_9 : decode cX5_allLetters 9 = .ok (.iload_n 1, 1) := by decide +kernel
theorem dX5_allLetters_10 : decode cX5_allLetters 10 = .ok (.aload_n 0, 1) := by decide +kernel
theorem dX5_allLetters_11 : decode cX5_allLetters 11 = .ok (.getfield 26, 3) := by decide +kernel
theorem dX5_allLetters_14 : decode cX5_allLetters 14 = .ok (.iload_n 2, 1) := by decide +kernel
theorem dX5_allLetters_15 : decode cX5_allLetters 15 = .ok (.iaload, 1) := by decide +kernel
theorem dX5_allLetters_16 : decode cX5_allLetters 16 = .ok (.ifCond .ge 7, 3) := by decide +kernel
theorem dX5_allLetters_19 : decode cX5_allLetters 19 = .ok (.iconst 0, 1) := by decide +kernel
theorem dX5_allLetters_20 : decode cX5_allLetters 20 = .ok (.goto 9, 3) := by decide +kernel
theorem dX5_allLetters_23 : decode cX5_allLetters 23 = .ok (.aload_n 0, 1) := by decide +kernel
theorem dX5_allLetters_24 : decode cX5_allLetters 24 = .ok (.getfield 26, 3) := by decide +kernel
theorem dX5_allLetters_27 : decode cX5_allLetters 27 = .ok (.iload_n 2, 1) := by decide +kernel
theorem dX5_allLetters_28 : decode cX5_allLetters 28 = .ok (.iaload, 1) := by decide +kernel
theorem dX5_allLetters_29 : decode cX5_allLetters 29 = .ok (.iadd, 1) := by decide +kernel
theorem dX5_allLetters_30 : decode cX5_allLetters 30 = .ok (.istore_n 1, 1) := by decide +kernel
theorem dX5_allLetters_31 : decode cX5_allLetters 31 = .ok (.iinc 2 1, 3) := by decide +kernel
theorem dX5_allLetters_34 : decode cX5_allLetters 34 = .ok (.goto (-30), 3) := by decide +kernel
theorem dX5_allLetters_37 : decode cX5_allLetters 37 = .ok (.iload_n 1, 1) := by decide +kernel
theorem dX5_allLetters_38 : decode cX5_allLetters 38 = .ok (.ireturn, 1) := by decide +kernel
theorem dX5_anew_0 : decode cX5_anew 0 = .ok (.aload_n 0, 1) := by decide +kernel
theorem dX5_anew_1 : decode cX5_anew 1 = .ok (.iconst 0, 1) := by decide +kernel
theorem dX5_anew_2 : decode cX5_anew 2 = .ok (.putfield 48, 3) := by decide +kernel
theorem dX5_anew_5 : decode cX5_anew 5 = .ok (.aload_n 0, 1) := by decide +kernel
theorem dX5_anew_6 : decode cX5_anew 6 = .ok (.iconst 0, 1) := by decide +kernel
theorem dX5_anew_7 : decode cX5_anew 7 = .ok (.putfield 52, 3) := by decide +kernel
theorem dX5_anew_10 : decode cX5_anew 10 = .ok (.aload_n 0, 1) := by decide +kernel
theorem dX5_anew_11 : decode cX5_anew 11 = .ok (.getfield 7, 3) := by decide +kernel
theorem dX5_anew_14 : decode cX5_anew 14 = .ok (.iconst 4, 1) := by decide +kernel
theorem dX5_anew_15 : decode cX5_anew 15 = .ok (.iconst 0, 1) := by decide +kernel
theorem dX5_anew_16 : decode cX5_anew 16 = .ok (.iastore, 1) := by decide +kernel
theorem dX5_anew_17 : decode cX5_anew 17 = .ok (.iconst 0, 1) := by decide +kernel
theorem dX5_anew_18 : decode cX5_anew 18 = .ok (.istore_n 1, 1) := by decide +kernel
theorem dX5_anew_19 : decode cX5_anew 19 = .ok (.iload_n 1, 1) := by decide +kernel
theorem dX5_anew_20 : decode cX5_anew 20 = .ok (.bipush 6, 2) := by decide +kernel
theorem dX5_anew_22 : decode cX5_anew 22 = .ok (.if_icmp .ge 18, 3) := by decide +kernel
theorem dX5_anew_25 : decode cX5_anew 25 = .ok (.aload_n 0, 1) := by decide +kernel
theorem dX5_anew_26 : decode cX5_anew 26 = .ok (.getfield 7, 3) := by decide +kernel
theorem dX5_anew_29 : decode cX5_anew 29 = .ok (.iconst 5, 1) := by decide +kernel
theorem dX5_anew_30 : decode cX5_anew 30 = .ok (.iload_n 1, 1) := by decide +kernel
theorem dX5_anew_31 : decode cX5_anew 31 = .ok (.iadd, 1) := by decide +kernel
theorem dX5_anew_32 : decode cX5_anew 32 = .ok (.iconst 0, 1) := by decide +kernel
theorem dX5_anew_33 : decode cX5_anew 33 = .ok (.iastore, 1) := by decide +kernel
theorem dX5_anew_34 : decode cX5_anew 34 = .ok (.iinc 1 1, 3) := by decide +kernel
theorem dX5_anew_37 : decode cX5_anew 37 = .ok (.goto (-18), 3) := by decide +kernel
theorem dX5_anew_40 : decode cX5_anew 40 = .ok (.return_, 1) := by decide +kernel
theorem dX5_assign_0 : decode cX5_assign 0 = .ok (.iload_n 1, 1) := by decide +kernel
theorem dX5_assign_1 : decode cX5_assign 1 = .ok (.invokestatic 173, 3) := by decide +kernel
theorem dX5_assign_4 : decode cX5_assign 4 = .ok (.ifCond .eq 10, 3) := by decide +kernel
theorem dX5_assign_7 : decode cX5_assign 7 = .ok (.iload_n 2, 1) := by decide +kernel
theorem dX5_assign_8 : decode cX5_assign 8 = .ok (.invokestatic 176, 3) := by decide +kernel
theorem dX5_assign_11 : decode cX5_assign 11 = .ok (.ifCond .ne 6, 3) := by decide +kernel
theorem dX5_assign_14 : decode cX5_assign 14 = .ok (.bipush (-3), 2) := by decide +kernel
theorem dX5_assign_16 : decode cX5_assign 16 = .ok (.ireturn, 1) := by decide +kernel
theorem dX5_assign_17 : decode cX5_assign 17 = .ok (.aload_n 0, 1) := by decide +kernel
theorem dX5_assign_18 : decode cX5_assign 18 = .ok (.iconst 0, 1) := by decide +kernel
theorem dX5_assign_19 : decode cX5_assign 19 = .ok (.iload_n 2, 1) := by decide +kernel
theorem dX5_assign_20 : decode cX5_assign 20 = .ok (.iconst (-1), 1) := by decide +kernel
theorem dX5_assign_21 : decode cX5_assign 21 = .ok (.invokevirtual 179, 3) := by decide +kernel
theorem dX5_assign_24 : decode cX5_assign 24 = .ok (.ifCond .ne 6, 3) := by decide +kernel
theorem dX5_assign_27 : decode cX5_assign 27 = .ok (.bipush (-4), 2) := by decide +kernel
theorem dX5_assign_29 : decode cX5_assign 29 = .ok (.ireturn, 1) := by decide +kernel
theorem dX5_assign_30 : decode cX5_assign 30 = .ok (.aload_n 0, 1) := by decide +kernel
theorem dX5_assign_31 : decode cX5_assign 31 = .ok (.getfield 7, 3) := by decide +kernel
theorem dX5_assign_34 : decode cX5_assign 34 = .ok (.iconst 3, 1) := by decide +kernel
theorem dX5_assign_35 : decode cX5_assign 35 = .ok (.iaload, 1) := by decide +kernel
theorem dX5_assign_36 : decode cX5_assign 36 = .ok (.bipush 20, 2) := by decide +kernel
theorem dX5_assign_38 : decode cX5_assign 38 = .ok (.if_icmp .ne 6, 3) := by decide +kernel
theorem dX5_assign_41 : decode cX5_assign 41 = .ok (.bipush (-5), 2) := by decide +kernel
theorem dX5_assign_43 : decode cX5_assign 43 = .ok (.ireturn, 1) := by decide +kernel
theorem dX5_assign_44 : decode cX5_assign 44 = .ok (.aload_n 0, 1) := by decide +kernel
theorem dX5_assign_45 : decode cX5_assign 45 = .ok (.invokevirtual 182, 3) := by decide +kernel
theorem dX5_assign_48 : decode cX5_assign 48 = .ok (.aload_n 0, 1) := by decide +kernel
theorem dX5_assign_49 : decode cX5_assign 49 = .ok (.getfield 7, 3) := by decide +kernel
theorem dX5_assign_52 : decode cX5_assign 52 = .ok (.iconst 3, 1) := by decide +kernel
theorem dX5_assign_53 : decode cX5_assign 53 = .ok (.iaload, 1) := by decide +kernel
theorem dX5_assign_54 : decode cX5_assign 54 = .ok (.istore_n 3, 1) := by decide +kernel
theorem dX5_assign_55 : decode cX5_assign 55 = .ok (.aload_n 0, 1) := by decide +kernel
theorem dX5_assign_56 : decode cX5_assign 56 = .ok (.getfield 7, 3) := by decide +kernel
theorem dX5_assign_59 : decode cX5_assign 59 = .ok (.bipush 17, 2) := by decide +kernel
theorem dX5_assign_61 : decode cX5_assign 61 = .ok (.iload_n 3, 1) := by decide +kernel
theorem dX5_assign_62 : decode cX5_assign 62 = .ok (.iadd, 1) := by decide +kernel
theorem dX5_assign_63 : decode cX5_assign 63 = .ok (.iload_n 1, 1) := by decide +kernel
theorem dX5_assign_64 : decode cX5_assign 64 = .ok (.iastore, 1) := by decide +kernel
theorem dX5_assign_65 : decode cX5_assign 65 = .ok (.aload_n 0, 1) := by decide +kernel
theorem dX5_assign_66 : decode cX5_assign 66 = .ok (.getfield 7, 3) := by decide +kernel
theorem dX5_assign_69 : decode cX5_assign 69 = .ok (.bipush 37, 2) := by decide +kernel
theorem dX5_assign_71 : decode cX5_assign 71 = .ok (.iload_n 3, 1) := by decide +kernel
theorem dX5_assign_72 : decode cX5_assign 72 = .ok (.iadd, 1) := by decide +kernel
theorem dX5_assign_73 : decode cX5_assign 73 = .ok (.iload_n 2, 1) := by decide +kernel
theorem dX5_assign_74 : decode cX5_assign 74 = .ok (.iastore, 1) := by decide +kernel
theorem dX5_assign_75 : decode cX5_assign 75 = .ok (.aload_n 0, 1) := by decide +kernel
theorem dX5_assign_76 : decode cX5_assign 76 = .ok (.getfield 7, 3) := by decide +kernel
theorem dX5_assign_79 : decode cX5_assign 79 = .ok (.bipush 57, 2) := by decide +kernel
theorem dX5_assign_81 : decode cX5_assign 81 = .ok (.iload_n 3, 1) := by decide +kernel
theorem dX5_assign_82 : decode cX5_assign 82 = .ok (.iadd, 1) := by decide +kernel
theorem dX5_assign_83 : decode cX5_assign 83 = .ok (.aload_n 0, 1) := by decide +kernel
theorem dX5_assign_84 : decode cX5_assign 84 = .ok (.iconst 0, 1) := by decide +kernel
theorem dX5_assign_85 : decode cX5_assign 85 = .ok (.iload_n 1, 1) := by decide +kernel
theorem dX5_assign_86 : decode cX5_assign 86 = .ok (.iload_n 2, 1) := by decide +kernel
theorem dX5_assign_87 : decode cX5_assign 87 = .ok (.invokevirtual 185, 3) := by decide +kernel
theorem dX5_assign_90 : decode cX5_assign 90 = .ok (.iastore, 1) := by decide +kernel
theorem dX5_assign_91 : decode cX5_assign 91 = .ok (.aload_n 0, 1) := by decide +kernel
theorem dX5_assign_92 : decode cX5_assign 92 = .ok (.getfield 7, 3) := by decide +kernel
theorem dX5_assign_95 : decode cX5_assign 95 = .ok (.iconst 3, 1) := by decide +kernel
theorem dX5_assign_96 : decode cX5_assign 96 = .ok (.dup2, 1) := by decide +kernel
theorem dX5_assign_97 : decode cX5_assign 97 = .ok (.iaload, 1) := by decide +kernel
theorem dX5_assign_98 : decode cX5_assign 98 = .ok (.iconst 1, 1) := by decide +kernel
theorem dX5_assign_99 : decode cX5_assign 99 = .ok (.iadd, 1) := by decide +kernel
theorem dX5_assign_100 : decode cX5_assign 100 = .ok (.iastore, 1) := by decide +kernel
theorem dX5_assign_101 : decode cX5_assign 101 = .ok (.aload_n 0, 1) := by decide +kernel
theorem dX5_assign_102 : decode cX5_assign 102 = .ok (.getfield 7, 3) := by decide +kernel
theorem dX5_assign_105 : decode cX5_assign 105 = .ok (.bipush 57, 2) := by decide +kernel
theorem dX5_assign_107 : decode cX5_assign 107 = .ok (.iload_n 3, 1) := by decide +kernel
theorem dX5_assign_108 : decode cX5_assign 108 = .ok (.iadd, 1) := by decide +kernel
theorem dX5_assign_109 : decode cX5_assign 109 = .ok (.iaload, 1) := by decide +kernel
theorem dX5_assign_110 : decode cX5_assign 110 = .ok (.ireturn, 1) := by decide +kernel
theorem dX5_assigned_0 : decode cX5_assigned 0 = .ok (.aload_n 0, 1) := by decide +kernel
theorem dX5_assigned_1 : decode cX5_assigned 1 = .ok (.iload_n 1, 1) := by decide +kernel
theorem dX5_assigned_2 : decode cX5_assigned 2 = .ok (.iload_n 2, 1) := by decide +kernel
theorem dX5_assigned_3 : decode cX5_assigned 3 = .ok (.invokevirtual 162, 3) := by decide +kernel
theorem dX5_assigned_6 : decode cX5_assigned 6 = .ok (.istore 4, 2) := by decide +kernel
theorem dX5_assigned_8 : decode cX5_assigned 8 = .ok (.aload_n 0, 1) := by decide +kernel
theorem dX5_assigned_9 : decode cX5_assigned 9 = .ok (.iload_n 1, 1) := by decide +kernel
theorem dX5_assigned_10 : decode cX5_assigned 10 = .ok (.iload 4, 2) := by decide +kernel
theorem dX5_assigned_12 : decode cX5_assigned 12 = .ok (.iload_n 3, 1) := by decide +kernel
theorem dX5_assigned_13 : decode cX5_assigned 13 = .ok (.invokevirtual 152, 3) := by decide +kernel
theorem dX5_assigned_16 : decode cX5_assigned 16 = .ok (.ifCond .eq 14, 3) := by decide +kernel
theorem dX5_assigned_19 : decode cX5_assigned 19 = .ok (.aload_n 0, 1) := by decide +kernel
theorem dX5_assigned_20 : decode cX5_assigned 20 = .ok (.iload_n 1, 1) := by decide +kernel
theorem dX5_assigned_21 : decode cX5_assigned 21 = .ok (.iload_n 2, 1) := by decide +kernel
theorem dX5_assigned_22 : decode cX5_assigned 22 = .ok (.invokevirtual 162, 3) := by decide +kernel
theorem dX5_assigned_25 : decode cX5_assigned 25 = .ok (.istore 4, 2) := by decide +kernel
theorem dX5_assigned_27 : decode cX5_assigned 27 = .ok (.goto (-19), 3) := by decide +kernel
theorem dX5_assigned_30 : decode cX5_assigned 30 = .ok (.aload_n 0, 1) := by decide +kernel
theorem dX5_assigned_31 : decode cX5_assigned 31 = .ok (.iload_n 1, 1) := by decide +kernel
theorem dX5_assigned_32 : decode cX5_assigned 32 = .ok (.iload 4, 2) := by decide +kernel
theorem dX5_assigned_34 : decode cX5_assigned 34 = .ok (.invokevirtual 165, 3) := by decide +kernel
theorem dX5_assigned_37 : decode cX5_assigned 37 = .ok (.iload 4, 2) := by decide +kernel
theorem dX5_assigned_39 : decode cX5_assigned 39 = .ok (.ireturn, 1) := by decide +kernel
theorem dX5_away_0 : decode cX5_away 0 = .ok (.aload_n 0, 1) := by decide +kernel
theorem dX5_away_1 : decode cX5_away 1 = .ok (.iload_n 1, 1) := by decide +kernel
theorem dX5_away_2 : decode cX5_away 2 = .ok (.invokevirtual 139, 3) := by decide +kernel
theorem dX5_away_5 : decode cX5_away 5 = .ok (.ifCond .ne 6, 3) := by decide +kernel
theorem dX5_away_8 : decode cX5_away 8 = .ok (.bipush (-2), 2) := by decide +kernel
theorem dX5_away_10 : decode cX5_away 10 = .ok (.ireturn, 1) := by decide +kernel
theorem dX5_away_11 : decode cX5_away 11 = .ok (.iload_n 2, 1) := by decide +kernel
theorem dX5_away_12 : decode cX5_away 12 = .ok (.i2l, 1) := by decide +kernel
theorem dX5_away_13 : decode cX5_away 13 = .ok (.lconst 0, 1) := by decide +kernel
theorem dX5_away_14 : decode cX5_away 14 = .ok (.lconst 1, 1) := by decide +kernel
theorem dX5_away_15 : decode cX5_away 15 = .ok (.invokestatic 57, 3) := by decide +kernel
theorem dX5_away_18 : decode cX5_away 18 = .ok (.ifCond .ne 6, 3) := by decide +kernel
theorem dX5_away_21 : decode cX5_away 21 = .ok (.bipush (-3), 2) := by decide +kernel
theorem dX5_away_23 : decode cX5_away 23 = .ok (.ireturn, 1) := by decide +kernel
theorem dX5_away_24 : decode cX5_away 24 = .ok (.aload_n 0, 1) := by decide +kernel
theorem dX5_away_25 : decode cX5_away 25 = .ok (.getfield 7, 3) := by decide +kernel
theorem dX5_away_28 : decode cX5_away 28 = .ok (.iconst 4, 1) := by decide +kernel
theorem dX5_away_29 : decode cX5_away 29 = .ok (.iaload, 1) := by decide +kernel
theorem dX5_away_30 : decode cX5_away 30 = .ok (.iload_n 1, 1) := by decide +kernel
theorem dX5_away_31 : decode cX5_away 31 = .ok (.ishr, 1) := by decide +kernel
theorem dX5_away_32 : decode cX5_away 32 = .ok (.iconst 1, 1) := by decide +kernel
theorem dX5_away_33 : decode cX5_away 33 = .ok (.iand, 1) := by decide +kernel
theorem dX5_away_34 : decode cX5_away 34 = .ok (.iload_n 2, 1) := by decide +kernel
theorem dX5_away_35 : decode cX5_away 35 = .ok (.if_icmp .ne 6, 3) := by decide +kernel
theorem dX5_away_38 : decode cX5_away 38 = .ok (.bipush (-4), 2) := by decide +kernel
theorem dX5_away_40 : decode cX5_away 40 = .ok (.ireturn, 1) := by decide +kernel
theorem dX5_away_41 : decode cX5_away 41 = .ok (.aload_n 0, 1) := by decide +kernel
theorem dX5_away_42 : decode cX5_away 42 = .ok (.invokevirtual 182, 3) := by decide +kernel
theorem dX5_away_45 : decode cX5_away 45 = .ok (.aload_n 0, 1) := by decide +kernel
theorem dX5_away_46 : decode cX5_away 46 = .ok (.getfield 7, 3) := by decide +kernel
theorem dX5_away_49 : decode cX5_away 49 = .ok (.iconst 4, 1) := by decide +kernel
theorem dX5_away_50 : decode cX5_away 50 = .ok (.dup2, 1) := by decide +kernel
theorem dX5_away_51 : decode cX5_away 51 = .ok (.iaload, 1) := by decide +kernel
theorem dX5_away_52 : decode cX5_away 52 = .ok (.iconst 1, 1) := by decide +kernel
theorem dX5_away_53 : decode cX5_away 53 = .ok (.iload_n 1, 1) := by decide +kernel
theorem dX5_away_54 : decode cX5_away 54 = .ok (.ishl, 1) := by decide +kernel
theorem dX5_away_55 : decode cX5_away 55 = .ok (.ixor, 1) := by decide +kernel
theorem dX5_away_56 : decode cX5_away 56 = .ok (.iastore, 1) := by decide +kernel
theorem dX5_away_57 : decode cX5_away 57 = .ok (.iconst 1, 1) := by decide +kernel
theorem dX5_away_58 : decode cX5_away 58 = .ok (.ireturn, 1) := by decide +kernel
theorem dX5_back_0 : decode cX5_back 0 = .ok (.iload_n 1, 1) := by decide +kernel
theorem dX5_back_1 : decode cX5_back 1 = .ok (.i2l, 1) := by decide +kernel
theorem dX5_back_2 : decode cX5_back 2 = .ok (.lconst 0, 1) := by decide +kernel
theorem dX5_back_3 : decode cX5_back 3 = .ok (.lconst 1, 1) := by decide +kernel
theorem dX5_back_4 : decode cX5_back 4 = .ok (.invokestatic 57, 3) := by decide +kernel
theorem dX5_back_7 : decode cX5_back 7 = .ok (.ifCond .ne 6, 3) := by decide +kernel
theorem dX5_back_10 : decode cX5_back 10 = .ok (.bipush (-2), 2) := by decide +kernel
theorem dX5_back_12 : decode cX5_back 12 = .ok (.ireturn, 1) := by decide +kernel
theorem dX5_back_13 : decode cX5_back 13 = .ok (.aload_n 0, 1) := by decide +kernel
theorem dX5_back_14 : decode cX5_back 14 = .ok (.getfield 19, 3) := by decide +kernel
theorem dX5_back_17 : decode cX5_back 17 = .ok (.iload_n 1, 1) := by decide +kernel
theorem dX5_back_18 : decode cX5_back 18 = .ok (.baload, 1) := by decide +kernel
theorem dX5_back_19 : decode cX5_back 19 = .ok (.ifCond .ne 6, 3) := by decide +kernel
theorem dX5_back_22 : decode cX5_back 22 = .ok (.bipush (-4), 2) := by decide +kernel
theorem dX5_back_24 : decode cX5_back 24 = .ok (.ireturn, 1) := by decide +kernel
theorem dX5_back_25 : decode cX5_back 25 = .ok (.aload_n 0, 1) := by decide +kernel
theorem dX5_back_26 : decode cX5_back 26 = .ok (.sipush 693, 3) := by decide +kernel
theorem dX5_back_29 : decode cX5_back 29 = .ok (.bipush 77, 2) := by decide +kernel
theorem dX5_back_31 : decode cX5_back 31 = .ok (.iload_n 1, 1) := by decide +kernel
theorem dX5_back_32 : decode cX5_back 32 = .ok (.imul, 1) := by decide +kernel
theorem dX5_back_33 : decode cX5_back 33 = .ok (.iadd, 1) := by decide +kernel
theorem dX5_back_34 : decode cX5_back 34 = .ok (.iconst 0, 1) := by decide +kernel
theorem dX5_back_35 : decode cX5_back 35 = .ok (.invokevirtual 44, 3) := by decide +kernel
theorem dX5_back_38 : decode cX5_back 38 = .ok (.aload_n 0, 1) := by decide +kernel
theorem dX5_back_39 : decode cX5_back 39 = .ok (.iconst 0, 1) := by decide +kernel
theorem dX5_back_40 : decode cX5_back 40 = .ok (.putfield 136, 3) := by decide +kernel
theorem dX5_back_43 : decode cX5_back 43 = .ok (.aload_n 0, 1) := by decide +kernel
theorem dX5_back_44 : decode cX5_back 44 = .ok (.getfield 7, 3) := by decide +kernel
theorem dX5_back_47 : decode cX5_back 47 = .ok (.iconst 3, 1) := by decide +kernel
theorem dX5_back_48 : decode cX5_back 48 = .ok (.iaload, 1) := by decide +kernel
theorem dX5_back_49 : decode cX5_back 49 = .ok (.ireturn, 1) := by decide +kernel
theorem dX5_canCount_0 : decode cX5_canCount 0 = .ok (.iconst 1, 1) := by decide +kernel
theorem dX5_canCount_1 : decode cX5_canCount 1 = .ok (.istore_n 1, 1) := by decide +kernel
theorem dX5_canCount_2 : decode cX5_canCount 2 = .ok (.iconst 0, 1) := by decide +kernel
theorem dX5_canCount_3 : decode cX5_canCount 3 = .ok (.istore_n 2, 1) := by decide +kernel
theorem dX5_canCount_4 : decode cX5_canCount 4 = .ok (.iload_n 2, 1) := by decide +kernel
theorem dX5_canCount_5 : decode cX5_canCount 5 = .ok (.aload_n 0, 1) := by decide +kernel
theorem dX5_canCount_6 : decode cX5_canCount 6 = .ok (.getfield 7, 3) := by decide +kernel
theorem dX5_canCount_9 : decode cX5_canCount 9 = .ok (.iconst 3, 1) := by decide +kernel
theorem dX5_canCount_10 : decode cX5_canCount 10 = .ok (.iaload, 1) := by decide +kernel
theorem dX5_canCount_11 : decode cX5_canCount 11 = .ok (.if_icmp .ge 37, 3) := by decide +kernel
theorem dX5_canCount_14 : decode cX5_canCount 14 = .ok (.iload_n 1, 1) := by decide +kernel
theorem dX5_canCount_15 : decode cX5_canCount 15 = .ok (.ifCond .eq 25, 3) := by decide +kernel
theorem dX5_canCount_18 : decode cX5_canCount 18 = .ok (.aload_n 0, 1) := by decide +kernel
theorem dX5_canCount_19 : decode cX5_canCount 19 = .ok (.iconst 0, 1) := by decide +kernel
theorem dX5_canCount_20 : decode cX5_canCount 20 = .ok (.aload_n 0, 1) := by decide +kernel
theorem dX5_canCount_21 : decode cX5_canCount 21 = .ok (.getfield 7, 3) := by decide +kernel
theorem dX5_canCount_24 : decode cX5_canCount 24 = .ok (.bipush 37, 2) := by decide +kernel
theorem dX5_canCount_26 : decode cX5_canCount 26 = .ok (.iload_n 2, 1) := by decide +kernel
theorem dX5_canCount_27 : decode cX5_canCount 27 = .ok (.iadd, 1) := by decide +kernel
theorem dX5_canCount_28 : decode cX5_canCount 28 = .ok (.iaload, 1) := by decide +kernel
theorem dX5_canCount_29 : decode cX5_canCount 29 = .ok (.iconst (-1), 1) := by decide +kernel
theorem dX5_canCount_30 : decode cX5_canCount 30 = .ok (.invokevirtual 179, 3) := by decide +kernel
theorem dX5_canCount_33 : decode cX5_canCount 33 = .ok (.ifCond .eq 7, 3) := by decide +kernel
theorem dX5_canCount_36 : decode cX5_canCount 36 = .ok (.iconst 1, 1) := by decide +kernel
theorem dX5_canCount_37 : decode cX5_canCount 37 = .ok (.goto 4, 3) := by decide +kernel
theorem dX5_canCount_40 : decode cX5_canCount 40 = .ok (.iconst 0, 1) := by decide +kernel
theorem dX5_canCount_41 : decode cX5_canCount 41 = .ok (.istore_n 1, 1) := by decide +kernel
theorem dX5_canCount_42 : decode cX5_canCount 42 = .ok (.iinc 2 1, 3) := by decide +kernel
theorem dX5_canCount_45 : decode cX5_canCount 45 = .ok (.goto (-41), 3) := by decide +kernel
theorem dX5_canCount_48 : decode cX5_canCount 48 = .ok (.iload_n 1, 1) := by decide +kernel
theorem dX5_canCount_49 : decode cX5_canCount 49 = .ok (.ireturn, 1) := by decide +kernel
theorem dX5_caseOf_0 : decode cX5_caseOf 0 = .ok (.aload_n 0, 1) := by decide +kernel
theorem dX5_caseOf_1 : decode cX5_caseOf 1 = .ok (.iload_n 1, 1) := by decide +kernel
theorem dX5_caseOf_2 : decode cX5_caseOf 2 = .ok (.invokevirtual 142, 3) := by decide +kernel
theorem dX5_caseOf_5 : decode cX5_caseOf 5 = .ok (.ifCond .ne 6, 3) := by decide +kernel
theorem dX5_caseOf_8 : decode cX5_caseOf 8 = .ok (.bipush (-2), 2) := by decide +kernel
theorem dX5_caseOf_10 : decode cX5_caseOf 10 = .ok (.ireturn, 1) := by decide +kernel
theorem dX5_caseOf_11 : decode cX5_caseOf 11 = .ok (.iload_n 2, 1) := by decide +kernel
theorem dX5_caseOf_12 : decode cX5_caseOf 12 = .ok (.ifCond .ne 15, 3) := by decide +kernel
theorem dX5_caseOf_15 : decode cX5_caseOf 15 = .ok (.aload_n 0, 1) := by decide +kernel
theorem dX5_caseOf_16 : decode cX5_caseOf 16 = .ok (.getfield 7, 3) := by decide +kernel
theorem dX5_caseOf_19 : decode cX5_caseOf 19 = .ok (.bipush 17, 2) := by decide +kernel
theorem dX5_caseOf_21 : decode cX5_caseOf 21 = .ok (.iload_n 1, 1) := by decide +kernel
theorem dX5_caseOf_22 : decode cX5_caseOf 22 = .ok (.iadd, 1) := by decide +kernel
theorem dX5_caseOf_23 : decode cX5_caseOf 23 = .ok (.iaload, 1) := by decide +kernel
theorem dX5_caseOf_24 : decode cX5_caseOf 24 = .ok (.goto 39, 3) := by decide +kernel
theorem dX5_caseOf_27 : decode cX5_caseOf 27 = .ok (.iload_n 2, 1) := by decide +kernel
theorem dX5_caseOf_28 : decode cX5_caseOf 28 = .ok (.iconst 1, 1) := by decide +kernel
theorem dX5_caseOf_29 : decode cX5_caseOf 29 = .ok (.if_icmp .ne 15, 3) := by decide +kernel
theorem dX5_caseOf_32 : decode cX5_caseOf 32 = .ok (.aload_n 0, 1) := by decide +kernel
theorem dX5_caseOf_33 : decode cX5_caseOf 33 = .ok (.getfield 7, 3) := by decide +kernel
theorem dX5_caseOf_36 : decode cX5_caseOf 36 = .ok (.bipush 37, 2) := by decide +kernel
theorem dX5_caseOf_38 : decode cX5_caseOf 38 = .ok (.iload_n 1, 1) := by decide +kernel
theorem dX5_caseOf_39 : decode cX5_caseOf 39 = .ok (.iadd, 1) := by decide +kernel
theorem dX5_caseOf_40 : decode cX5_caseOf 40 = .ok (.iaload, 1) := by decide +kernel
theorem dX5_caseOf_41 : decode cX5_caseOf 41 = .ok (.goto 22, 3) := by decide +kernel
theorem dX5_caseOf_44 : decode cX5_caseOf 44 = .ok (.iload_n 2, 1) := by decide +kernel
theorem dX5_caseOf_45 : decode cX5_caseOf 45 = .ok (.iconst 2, 1) := by decide +kernel
theorem dX5_caseOf_46 : decode cX5_caseOf 46 = .ok (.if_icmp .ne 15, 3) := by decide +kernel
theorem dX5_caseOf_49 : decode cX5_caseOf 49 = .ok (.aload_n 0, 1) := by decide +kernel
theorem dX5_caseOf_50 : decode cX5_caseOf 50 = .ok (.getfield 7, 3) := by decide +kernel
theorem dX5_caseOf_53 : decode cX5_caseOf 53 = .ok (.bipush 57, 2) := by decide +kernel
theorem dX5_caseOf_55 : decode cX5_caseOf 55 = .ok (.iload_n 1, 1) := by decide +kernel
theorem dX5_caseOf_56 : decode cX5_caseOf 56 = .ok (.iadd, 1) := by decide +kernel
theorem dX5_caseOf_57 : decode cX5_caseOf 57 = .ok (.iaload, 1) := by decide +kernel
theorem dX5_caseOf_58 : decode cX5_caseOf 58 = .ok (.goto 5, 3) := by decide +kernel
theorem dX5_caseOf_61 : decode cX5_caseOf 61 = .ok (.bipush (-3), 2) := by decide +kernel
theorem dX5_caseOf_63 : decode cX5_caseOf 63 = .ok (.ireturn, 1) := by decide +kernel
theorem dX5_copyRow_0 : decode cX5_copyRow 0 = .ok (.iconst 0, 1) := by decide +kernel
theorem dX5_copyRow_1 : decode cX5_copyRow 1 = .ok (.istore_n 3, 1) := by decide +kernel
theorem dX5_copyRow_2 : decode cX5_copyRow 2 = .ok (.iload_n 3, 1) := by decide +kernel
theorem dX5_copyRow_3 : decode cX5_copyRow 3 = .ok (.bipush 77, 2) := by decide +kernel
theorem dX5_copyRow_5 : decode cX5_copyRow 5 = .ok (.if_icmp .ge 25, 3) := by decide +kernel
theorem dX5_copyRow_8 : decode cX5_copyRow 8 = .ok (.aload_n 0, 1) := by decide +kernel
theorem dX5_copyRow_9 : decode cX5_copyRow 9 = .ok (.getfield 7, 3) := by decide +kernel
theorem dX5_copyRow_12 : decode cX5_copyRow 12 = .ok (.iload_n 2, 1) := by decide +kernel
theorem dX5_copyRow_13 : decode cX5_copyRow 13 = .ok (.iload_n 3, 1) := by decide +kernel
theorem dX5_copyRow_14 : decode cX5_copyRow 14 = .ok (.iadd, 1) := by decide +kernel
theorem dX5_copyRow_15 : decode cX5_copyRow 15 = .ok (.aload_n 0, 1) := by decide +kernel
theorem dX5_copyRow_16 : decode cX5_copyRow 16 = .ok (.getfield 7, 3) := by decide +kernel
theorem dX5_copyRow_19 : decode cX5_copyRow 19 = .ok (.iload_n 1, 1) := by decide +kernel
theorem dX5_copyRow_20 : decode cX5_copyRow 20 = .ok (.iload_n 3, 1) := by decide +kernel
theorem dX5_copyRow_21 : decode cX5_copyRow 21 = .ok (.iadd, 1) := by decide +kernel
theorem dX5_copyRow_22 : decode cX5_copyRow 22 = .ok (.iaload, 1) := by decide +kernel
theorem dX5_copyRow_23 : decode cX5_copyRow 23 = .ok (.iastore, 1) := by decide +kernel
theorem dX5_copyRow_24 : decode cX5_copyRow 24 = .ok (.iinc 3 1, 3) := by decide +kernel
theorem dX5_copyRow_27 : decode cX5_copyRow 27 = .ok (.goto (-25), 3) := by decide +kernel
theorem dX5_copyRow_30 : decode cX5_copyRow 30 = .ok (.return_, 1) := by decide +kernel
theorem dX5_count_0 : decode cX5_count 0 = .ok (.iload_n 1, 1) := by decide +kernel
theorem dX5_count_1 : decode cX5_count 1 = .ok (.iconst 1, 1) := by decide +kernel
theorem dX5_count_2 : decode cX5_count 2 = .ok (.if_icmp .lt 13, 3) := by decide +kernel
theorem dX5_count_5 : decode cX5_count 5 = .ok (.iload_n 2, 1) := by decide +kernel
theorem dX5_count_6 : decode cX5_count 6 = .ok (.i2l, 1) := by decide +kernel
theorem dX5_count_7 : decode cX5_count 7 = .ok (.lconst 0, 1) := by decide +kernel
theorem dX5_count_8 : decode cX5_count 8 = .ok (.lconst 1, 1) := by decide +kernel
theorem dX5_count_9 : decode cX5_count 9 = .ok (.invokestatic 57, 3) := by decide +kernel
theorem dX5_count_12 : decode cX5_count 12 = .ok (.ifCond .ne 6, 3) := by decide +kernel
theorem dX5_count_15 : decode cX5_count 15 = .ok (.bipush (-3), 2) := by decide +kernel
theorem dX5_count_17 : decode cX5_count 17 = .ok (.ireturn, 1) := by decide +kernel
theorem dX5_count_18 : decode cX5_count 18 = .ok (.aload_n 0, 1) := by decide +kernel
theorem dX5_count_19 : decode cX5_count 19 = .ok (.invokevirtual 200, 3) := by decide +kernel
theorem dX5_count_22 : decode cX5_count 22 = .ok (.ifCond .ne 6, 3) := by decide +kernel
theorem dX5_count_25 : decode cX5_count 25 = .ok (.bipush (-4), 2) := by decide +kernel
theorem dX5_count_27 : decode cX5_count 27 = .ok (.ireturn, 1) := by decide +kernel
theorem dX5_count_28 : decode cX5_count 28 = .ok (.aload_n 0, 1) := by decide +kernel
theorem dX5_count_29 : decode cX5_count 29 = .ok (.iload_n 1, 1) := by decide +kernel
theorem dX5_count_30 : decode cX5_count 30 = .ok (.invokevirtual 203, 3) := by decide +kernel
theorem dX5_count_33 : decode cX5_count 33 = .ok (.istore_n 3, 1) := by decide +kernel
theorem dX5_count_34 : decode cX5_count 34 = .ok (.iload_n 2, 1) := by decide +kernel
theorem dX5_count_35 : decode cX5_count 35 = .ok (.ifCond .ne 7, 3) := by decide +kernel
theorem dX5_count_38 : decode cX5_count 38 = .ok (.iload_n 3, 1) := by decide +kernel
theorem dX5_count_39 : decode cX5_count 39 = .ok (.goto 11, 3) := by decide +kernel
theorem dX5_count_42 : decode cX5_count 42 = .ok (.aload_n 0, 1) := by decide +kernel
theorem dX5_count_43 : decode cX5_count 43 = .ok (.getfield 7, 3) := by decide +kernel
theorem dX5_count_46 : decode cX5_count 46 = .ok (.sipush 926, 3) := by decide +kernel
theorem dX5_count_49 : decode cX5_count 49 = .ok (.iaload, 1) := by decide +kernel
theorem dX5_count_50 : decode cX5_count 50 = .ok (.ireturn, 1) := by decide +kernel
theorem dX5_cut_0 : decode cX5_cut 0 = .ok (.iload_n 1, 1) := by decide +kernel
theorem dX5_cut_1 : decode cX5_cut 1 = .ok (.invokestatic 210, 3) := by decide +kernel
theorem dX5_cut_4 : decode cX5_cut 4 = .ok (.ifCond .ne 6, 3) := by decide +kernel
theorem dX5_cut_7 : decode cX5_cut 7 = .ok (.bipush (-2), 2) := by decide +kernel
theorem dX5_cut_9 : decode cX5_cut 9 = .ok (.ireturn, 1) := by decide +kernel
theorem dX5_cut_10 : decode cX5_cut 10 = .ok (.aload_n 0, 1) := by decide +kernel
theorem dX5_cut_11 : decode cX5_cut 11 = .ok (.getfield 26, 3) := by decide +kernel
theorem dX5_cut_14 : decode cX5_cut 14 = .ok (.iload_n 1, 1) := by decide +kernel
theorem dX5_cut_15 : decode cX5_cut 15 = .ok (.iaload, 1) := by decide +kernel
theorem dX5_cut_16 : decode cX5_cut 16 = .ok (.ifCond .ge 6, 3) := by decide +kernel
theorem dX5_cut_19 : decode cX5_cut 19 = .ok (.bipush (-11), 2) := by decide +kernel
theorem dX5_cut_21 : decode cX5_cut 21 = .ok (.ireturn, 1) := by decide +kernel
theorem dX5_cut_22 : decode cX5_cut 22 = .ok (.iload_n 2, 1) := by decide +kernel
theorem dX5_cut_23 : decode cX5_cut 23 = .ok (.ifCond .lt 18, 3) := by decide +kernel
theorem dX5_cut_26 : decode cX5_cut 26 = .ok (.iload_n 3, 1) := by decide +kernel
theorem dX5_cut_27 : decode cX5_cut 27 = .ok (.iload_n 2, 1) := by decide +kernel
theorem dX5_cut_28 : decode cX5_cut 28 = .ok (.if_icmp .lt 13, 3) := by decide +kernel
theorem dX5_cut_31 : decode cX5_cut 31 = .ok (.iload_n 3, 1) := by decide +kernel
theorem dX5_cut_32 : decode cX5_cut 32 = .ok (.aload_n 0, 1) := by decide +kernel
theorem dX5_cut_33 : decode cX5_cut 33 = .ok (.getfield 26, 3) := by decide +kernel
theorem dX5_cut_36 : decode cX5_cut 36 = .ok (.iload_n 1, 1) := by decide +kernel
theorem dX5_cut_37 : decode cX5_cut 37 = .ok (.iaload, 1) := by decide +kernel
theorem dX5_cut_38 : decode cX5_cut 38 = .ok (.if_icmp .le 6, 3) := by decide +kernel
theorem dX5_cut_41 : decode cX5_cut 41 = .ok (.bipush (-12), 2) := by decide +kernel
theorem dX5_cut_43 : decode cX5_cut 43 = .ok (.ireturn, 1) := by decide +kernel
theorem dX5_cut_44 : decode cX5_cut 44 = .ok (.iload_n 3, 1) := by decide +kernel
theorem dX5_cut_45 : decode cX5_cut 45 = .ok (.istore 4, 2) := by decide +kernel
theorem dX5_cut_47 : decode cX5_cut 47 = .ok (.iload 4, 2) := by decide +kernel
theorem dX5_cut_49 : decode cX5_cut 49 = .ok (.aload_n 0, 1) := by decide +kernel
theorem dX5_cut_50 : decode cX5_cut 50 = .ok (.getfield 26, 3) := by decide +kernel
theorem dX5_cut_53 : decode cX5_cut 53 = .ok (.iload_n 1, 1) := by decide +kernel
theorem dX5_cut_54 : decode cX5_cut 54 = .ok (.iaload, 1) := by decide +kernel
theorem dX5_cut_55 : decode cX5_cut 55 = .ok (.if_icmp .ge 37, 3) := by decide +kernel
theorem dX5_cut_58 : decode cX5_cut 58 = .ok (.aload_n 0, 1) := by decide +kernel
theorem dX5_cut_59 : decode cX5_cut 59 = .ok (.getfield 29, 3) := by decide +kernel
theorem dX5_cut_62 : decode cX5_cut 62 = .ok (.bipush 40, 2) := by decide +kernel
theorem dX5_cut_64 : decode cX5_cut 64 = .ok (.iload_n 1, 1) := by decide +kernel
theorem dX5_cut_65 : decode cX5_cut 65 = .ok (.imul, 1) := by decide +kernel
theorem dX5_cut_66 : decode cX5_cut 66 = .ok (.iload_n 2, 1) := by decide +kernel
theorem dX5_cut_67 : decode cX5_cut 67 = .ok (.iadd, 1) := by decide +kernel
theorem dX5_cut_68 : decode cX5_cut 68 = .ok (.iload 4, 2) := by decide +kernel
theorem dX5_cut_70 : decode cX5_cut 70 = .ok (.iadd, 1) := by decide +kernel
theorem dX5_cut_71 : decode cX5_cut 71 = .ok (.iload_n 3, 1) := by decide +kernel
theorem dX5_cut_72 : decode cX5_cut 72 = .ok (.isub, 1) := by decide +kernel
theorem dX5_cut_73 : decode cX5_cut 73 = .ok (.aload_n 0, 1) := by decide +kernel
theorem dX5_cut_74 : decode cX5_cut 74 = .ok (.getfield 29, 3) := by decide +kernel
theorem dX5_cut_77 : decode cX5_cut 77 = .ok (.bipush 40, 2) := by decide +kernel
theorem dX5_cut_79 : decode cX5_cut 79 = .ok (.iload_n 1, 1) := by decide +kernel
theorem dX5_cut_80 : decode cX5_cut 80 = .ok (.imul, 1) := by decide +kernel
theorem dX5_cut_81 : decode cX5_cut 81 = .ok (.iload 4, 2) := by decide +kernel
theorem dX5_cut_83 : decode cX5_cut 83 = .ok (.iadd, 1) := by decide +kernel
theorem dX5_cut_84 : decode cX5_cut 84 = .ok (.iaload, 1) := by decide +kernel
theorem dX5_cut_85 : decode cX5_cut 85 = .ok (.iastore, 1) := by decide +kernel
theorem dX5_cut_86 : decode cX5_cut 86 = .ok (.iinc 4 1, 3) := by decide +kernel
theorem dX5_cut_89 : decode cX5_cut 89 = .ok (.goto (-42), 3) := by decide +kernel
theorem dX5_cut_92 : decode cX5_cut 92 = .ok (.aload_n 0, 1) := by decide +kernel
theorem dX5_cut_93 : decode cX5_cut 93 = .ok (.getfield 26, 3) := by decide +kernel
theorem dX5_cut_96 : decode cX5_cut 96 = .ok (.iload_n 1, 1) := by decide +kernel
theorem dX5_cut_97 : decode cX5_cut 97 = .ok (.dup2, 1) := by decide +kernel
theorem dX5_cut_98 : decode cX5_cut 98 = .ok (.iaload, 1) := by decide +kernel
theorem dX5_cut_99 : decode cX5_cut 99 = .ok (.iload_n 3, 1) := by decide +kernel
theorem dX5_cut_100 : decode cX5_cut 100 = .ok (.iload_n 2, 1) := by decide +kernel
theorem dX5_cut_101 : decode cX5_cut 101 = .ok (.isub, 1) := by decide +kernel
theorem dX5_cut_102 : decode cX5_cut 102 = .ok (.isub, 1) := by decide +kernel
theorem dX5_cut_103 : decode cX5_cut 103 = .ok (.iastore, 1) := by decide +kernel
theorem dX5_cut_104 : decode cX5_cut 104 = .ok (.aload_n 0, 1) := by decide +kernel
theorem dX5_cut_105 : decode cX5_cut 105 = .ok (.getfield 26, 3) := by decide +kernel
theorem dX5_cut_108 : decode cX5_cut 108 = .ok (.iload_n 1, 1) := by decide +kernel
theorem dX5_cut_109 : decode cX5_cut 109 = .ok (.iaload, 1) := by decide +kernel
theorem dX5_cut_110 : decode cX5_cut 110 = .ok (.ireturn, 1) := by decide +kernel
theorem dX5_does_0 : decode cX5_does 0 = .ok (.iload_n 1, 1) := by decide +kernel
theorem dX5_does_1 : decode cX5_does 1 = .ok (.tableswitch 128 4 7 #[31, 38, 81, 108], 31) := by decide +kernel
theorem dX5_does_32 : decode cX5_does 32 = .ok (.aload_n 0, 1) := by decide +kernel
theorem dX5_does_33 : decode cX5_does 33 = .ok (.invokevirtual 41, 3) := by decide +kernel
theorem dX5_does_36 : decode cX5_does 36 = .ok (.goto 103, 3) := by decide +kernel
theorem dX5_does_39 : decode cX5_does 39 = .ok (.aload_n 0, 1) := by decide +kernel
theorem dX5_does_40 : decode cX5_does 40 = .ok (.getfield 13, 3) := by decide +kernel
theorem dX5_does_43 : decode cX5_does 43 = .ok (.aload_n 0, 1) := by decide +kernel
theorem dX5_does_44 : decode cX5_does 44 = .ok (.getfield 48, 3) := by decide +kernel
theorem dX5_does_47 : decode cX5_does 47 = .ok (.aload_n 0, 1) := by decide +kernel
theorem dX5_does_48 : decode cX5_does 48 = .ok (.getfield 32, 3) := by decide +kernel
theorem dX5_does_51 : decode cX5_does 51 = .ok (.iconst 0, 1) := by decide +kernel
theorem dX5_does_52 : decode cX5_does 52 = .ok (.iaload, 1) := by decide +kernel
theorem dX5_does_53 : decode cX5_does 53 = .ok (.iastore, 1) := by decide +kernel
theorem dX5_does_54 : decode cX5_does 54 = .ok (.aload_n 0, 1) := by decide +kernel
theorem dX5_does_55 : decode cX5_does 55 = .ok (.getfield 16, 3) := by decide +kernel
theorem dX5_does_58 : decode cX5_does 58 = .ok (.aload_n 0, 1) := by decide +kernel
theorem dX5_does_59 : decode cX5_does 59 = .ok (.getfield 48, 3) := by decide +kernel
theorem dX5_does_62 : decode cX5_does 62 = .ok (.aload_n 0, 1) := by decide +kernel
theorem dX5_does_63 : decode cX5_does 63 = .ok (.getfield 32, 3) := by decide +kernel
theorem dX5_does_66 : decode cX5_does 66 = .ok (.iconst 1, 1) := by decide +kernel
theorem dX5_does_67 : decode cX5_does 67 = .ok (.iaload, 1) := by decide +kernel
theorem dX5_does_68 : decode cX5_does 68 = .ok (.iastore, 1) := by decide +kernel
theorem dX5_does_69 : decode cX5_does 69 = .ok (.aload_n 0, 1) := by decide +kernel
theorem dX5_does_70 : decode cX5_does 70 = .ok (.dup, 1) := by decide +kernel
theorem dX5_does_71 : decode cX5_does 71 = .ok (.getfield 48, 3) := by decide +kernel
theorem dX5_does_74 : decode cX5_does 74 = .ok (.iconst 1, 1) := by decide +kernel
theorem dX5_does_75 : decode cX5_does 75 = .ok (.iadd, 1) := by decide +kernel
theorem dX5_does_76 : decode cX5_does 76 = .ok (.putfield 48, 3) := by decide +kernel
theorem dX5_does_79 : decode cX5_does 79 = .ok (.goto 60, 3) := by decide +kernel
theorem dX5_does_82 : decode cX5_does 82 = .ok (.aload_n 0, 1) := by decide +kernel
theorem dX5_does_83 : decode cX5_does 83 = .ok (.getfield 7, 3) := by decide +kernel
theorem dX5_does_86 : decode cX5_does 86 = .ok (.iconst 5, 1) := by decide +kernel
theorem dX5_does_87 : decode cX5_does 87 = .ok (.aload_n 0, 1) := by decide +kernel
theorem dX5_does_88 : decode cX5_does 88 = .ok (.getfield 32, 3) := by decide +kernel
theorem dX5_does_91 : decode cX5_does 91 = .ok (.iconst 0, 1) := by decide +kernel
theorem dX5_does_92 : decode cX5_does 92 = .ok (.iaload, 1) := by decide +kernel
theorem dX5_does_93 : decode cX5_does 93 = .ok (.iadd, 1) := by decide +kernel
theorem dX5_does_94 : decode cX5_does 94 = .ok (.dup2, 1) := by decide +kernel
theorem dX5_does_95 : decode cX5_does 95 = .ok (.iaload, 1) := by decide +kernel
theorem dX5_does_96 : decode cX5_does 96 = .ok (.iconst 1, 1) := by decide +kernel
theorem dX5_does_97 : decode cX5_does 97 = .ok (.aload_n 0, 1) := by decide +kernel
theorem dX5_does_98 : decode cX5_does 98 = .ok (.getfield 32, 3) := by decide +kernel
theorem dX5_does_101 : decode cX5_does 101 = .ok (.iconst 1, 1) := by decide +kernel
theorem dX5_does_102 : decode cX5_does 102 = .ok (.iaload, 1) := by decide +kernel
theorem dX5_does_103 : decode cX5_does 103 = .ok (.ishl, 1) := by decide +kernel
theorem dX5_does_104 : decode cX5_does 104 = .ok (.ior, 1) := by decide +kernel
theorem dX5_does_105 : decode cX5_does 105 = .ok (.iastore, 1) := by decide +kernel
theorem dX5_does_106 : decode cX5_does 106 = .ok (.goto 33, 3) := by decide +kernel
theorem dX5_does_109 : decode cX5_does 109 = .ok (.aload_n 0, 1) := by decide +kernel
theorem dX5_does_110 : decode cX5_does 110 = .ok (.getfield 7, 3) := by decide +kernel
theorem dX5_does_113 : decode cX5_does 113 = .ok (.iconst 4, 1) := by decide +kernel
theorem dX5_does_114 : decode cX5_does 114 = .ok (.dup2, 1) := by decide +kernel
theorem dX5_does_115 : decode cX5_does 115 = .ok (.iaload, 1) := by decide +kernel
theorem dX5_does_116 : decode cX5_does 116 = .ok (.iconst 1, 1) := by decide +kernel
theorem dX5_does_117 : decode cX5_does 117 = .ok (.aload_n 0, 1) := by decide +kernel
theorem dX5_does_118 : decode cX5_does 118 = .ok (.getfield 32, 3) := by decide +kernel
theorem dX5_does_121 : decode cX5_does 121 = .ok (.iconst 0, 1) := by decide +kernel
theorem dX5_does_122 : decode cX5_does 122 = .ok (.iaload, 1) := by decide +kernel
theorem dX5_does_123 : decode cX5_does 123 = .ok (.ishl, 1) := by decide +kernel
theorem dX5_does_124 : decode cX5_does 124 = .ok (.ior, 1) := by decide +kernel
theorem dX5_does_125 : decode cX5_does 125 = .ok (.iastore, 1) := by decide +kernel
theorem dX5_does_126 : decode cX5_does 126 = .ok (.goto 13, 3) := by decide +kernel
theorem dX5_does_129 : decode cX5_does 129 = .ok (.aload_n 0, 1) := by decide +kernel
theorem dX5_does_130 : decode cX5_does 130 = .ok (.aload_n 0, 1) := by decide +kernel
theorem dX5_does_131 : decode cX5_does 131 = .ok (.getfield 32, 3) := by decide +kernel
theorem dX5_does_134 : decode cX5_does 134 = .ok (.iconst 0, 1) := by decide +kernel
theorem dX5_does_135 : decode cX5_does 135 = .ok (.iaload, 1) := by decide +kernel
theorem dX5_does_136 : decode cX5_does 136 = .ok (.putfield 52, 3) := by decide +kernel
theorem dX5_does_139 : decode cX5_does 139 = .ok (.return_, 1) := by decide +kernel
theorem dX5_drawFor_0 : decode cX5_drawFor 0 = .ok (.ldc2_w 145, 3) := by decide +kernel
theorem dX5_drawFor_3 : decode cX5_drawFor 3 = .ok (.iload_n 2, 1) := by decide +kernel
theorem dX5_drawFor_4 : decode cX5_drawFor 4 = .ok (.i2l, 1) := by decide +kernel
theorem dX5_drawFor_5 : decode cX5_drawFor 5 = .ok (.ldiv, 1) := by decide +kernel
theorem dX5_drawFor_6 : decode cX5_drawFor 6 = .ok (.iload_n 2, 1) := by decide +kernel
theorem dX5_drawFor_7 : decode cX5_drawFor 7 = .ok (.i2l, 1) := by decide +kernel
theorem dX5_drawFor_8 : decode cX5_drawFor 8 = .ok (.lmul, 1) := by decide +kernel
theorem dX5_drawFor_9 : decode cX5_drawFor 9 = .ok (.lstore_n 3, 1) := by decide +kernel
theorem dX5_drawFor_10 : decode cX5_drawFor 10 = .ok (.ldc 147, 2) := by decide +kernel
theorem dX5_drawFor_12 : decode cX5_drawFor 12 = .ok (.istore 5, 2) := by decide +kernel
theorem dX5_drawFor_14 : decode cX5_drawFor 14 = .ok (.iconst 0, 1) := by decide +kernel
theorem dX5_drawFor_15 : decode cX5_drawFor 15 = .ok (.istore 6, 2) := by decide +kernel
theorem dX5_drawFor_17 : decode cX5_drawFor 17 = .ok (.iload 6, 2) := by decide +kernel
theorem dX5_drawFor_19 : decode cX5_drawFor 19 = .ok (.ifCond .ne 64, 3) := by decide +kernel
theorem dX5_drawFor_22 : decode cX5_drawFor 22 = .ok (.aload_n 0, 1) := by decide +kernel
theorem dX5_drawFor_23 : decode cX5_drawFor 23 = .ok (.getfield 7, 3) := by decide +kernel
theorem dX5_drawFor_26 : decode cX5_drawFor 26 = .ok (.iload_n 1, 1) := by decide +kernel
theorem dX5_drawFor_27 : decode cX5_drawFor 27 = .ok (.iconst 1, 1) := by decide +kernel
theorem dX5_drawFor_28 : decode cX5_drawFor 28 = .ok (.iadd, 1) := by decide +kernel
theorem dX5_drawFor_29 : decode cX5_drawFor 29 = .ok (.aload_n 0, 1) := by decide +kernel
theorem dX5_drawFor_30 : decode cX5_drawFor 30 = .ok (.getfield 7, 3) := by decide +kernel
theorem dX5_drawFor_33 : decode cX5_drawFor 33 = .ok (.iload_n 1, 1) := by decide +kernel
theorem dX5_drawFor_34 : decode cX5_drawFor 34 = .ok (.iconst 1, 1) := by decide +kernel
theorem dX5_drawFor_35 : decode cX5_drawFor 35 = .ok (.iadd, 1) := by decide +kernel
theorem dX5_drawFor_36 : decode cX5_drawFor 36 = .ok (.iaload, 1) := by decide +kernel
theorem dX5_drawFor_37 : decode cX5_drawFor 37 = .ok (.invokestatic 148, 3) := by decide +kernel
theorem dX5_drawFor_40 : decode cX5_drawFor 40 = .ok (.iastore, 1) := by decide +kernel
theorem dX5_drawFor_41 : decode cX5_drawFor 41 = .ok (.aload_n 0, 1) := by decide +kernel
theorem dX5_drawFor_42 : decode cX5_drawFor 42 = .ok (.getfield 7, 3) := by decide +kernel
theorem dX5_drawFor_45 : decode cX5_drawFor 45 = .ok (.iload_n 1, 1) := by decide +kernel
theorem dX5_drawFor_46 : decode cX5_drawFor 46 = .ok (.iconst 2, 1) := by decide +kernel
theorem dX5_drawFor_47 : decode cX5_drawFor 47 = .ok (.iadd, 1) := by decide +kernel
theorem dX5_drawFor_48 : decode cX5_drawFor 48 = .ok (.dup2, 1) := by decide +kernel
theorem dX5_drawFor_49 : decode cX5_drawFor 49 = .ok (.iaload, 1) := by decide +kernel
theorem dX5_drawFor_50 : decode cX5_drawFor 50 = .ok (.iconst 1, 1) := by decide +kernel
theorem dX5_drawFor_51 : decode cX5_drawFor 51 = .ok (.iadd, 1) := by decide +kernel
theorem dX5_drawFor_52 : decode cX5_drawFor 52 = .ok (.iastore, 1) := by decide +kernel
theorem dX5_drawFor_53 : decode cX5_drawFor 53 = .ok (.aload_n 0, 1) := by decide +kernel
theorem dX5_drawFor_54 : decode cX5_drawFor 54 = .ok (.getfield 7, 3) := by decide +kernel
theorem dX5_drawFor_57 : decode cX5_drawFor 57 = .ok (.iload_n 1, 1) := by decide +kernel
theorem dX5_drawFor_58 : decode cX5_drawFor 58 = .ok (.iconst 1, 1) := by decide +kernel
theorem dX5_drawFor_59 : decode cX5_drawFor 59 = .ok (.iadd, 1) := by decide +kernel
theorem dX5_drawFor_60 : decode cX5_drawFor 60 = .ok (.iaload, 1) := by decide +kernel
theorem dX5_drawFor_61 : decode cX5_drawFor 61 = .ok (.iconst 1, 1) := by decide +kernel
theorem dX5_drawFor_62 : decode cX5_drawFor 62 = .ok (.iushr, 1) := by decide +kernel
theorem dX5_drawFor_63 : decode cX5_drawFor 63 = .ok (.istore 5, 2) := by decide +kernel
theorem dX5_drawFor_65 : decode cX5_drawFor 65 = .ok (.iload 5, 2) := by decide +kernel
theorem dX5_drawFor_67 : decode cX5_drawFor 67 = .ok (.i2l, 1) := by decide +kernel
theorem dX5_drawFor_68 : decode cX5_drawFor 68 = .ok (.lload_n 3, 1) := by decide +kernel
theorem dX5_drawFor_69 : decode cX5_drawFor 69 = .ok (.lcmp, 1) := by decide +kernel
theorem dX5_drawFor_70 : decode cX5_drawFor 70 = .ok (.ifCond .ge 7, 3) := by decide +kernel
theorem dX5_drawFor_73 : decode cX5_drawFor 73 = .ok (.iconst 1, 1) := by decide +kernel
theorem dX5_drawFor_74 : decode cX5_drawFor 74 = .ok (.goto 4, 3) := by decide +kernel
theorem dX5_drawFor_77 : decode cX5_drawFor 77 = .ok (.iconst 0, 1) := by decide +kernel
theorem dX5_drawFor_78 : decode cX5_drawFor 78 = .ok (.istore 6, 2) := by decide +kernel
theorem dX5_drawFor_80 : decode cX5_drawFor 80 = .ok (.goto (-63), 3) := by decide +kernel
theorem dX5_drawFor_83 : decode cX5_drawFor 83 = .ok (.iload 5, 2) := by decide +kernel
theorem dX5_drawFor_85 : decode cX5_drawFor 85 = .ok (.iload_n 2, 1) := by decide +kernel
theorem dX5_drawFor_86 : decode cX5_drawFor 86 = .ok (.irem, 1) := by decide +kernel
theorem dX5_drawFor_87 : decode cX5_drawFor 87 = .ok (.ireturn, 1) := by decide +kernel
theorem dX5_drawOnce_0 : decode cX5_drawOnce 0 = .ok (.iconst 0, 1) := by decide +kernel
theorem dX5_drawOnce_1 : decode cX5_drawOnce 1 = .ok (.istore_n 3, 1) := by decide +kernel
theorem dX5_drawOnce_2 : decode cX5_drawOnce 2 = .ok (.iconst 0, 1) := by decide +kernel
theorem dX5_drawOnce_3 : decode cX5_drawOnce 3 = .ok (.istore 4, 2) := by decide +kernel
theorem dX5_drawOnce_5 : decode cX5_drawOnce 5 = .ok (.iload 4, 2) := by decide +kernel
theorem dX5_drawOnce_7 : decode cX5_drawOnce 7 = .ok (.aload_n 0, 1) := by decide +kernel
theorem dX5_drawOnce_8 : decode cX5_drawOnce 8 = .ok (.getfield 48, 3) := by decide +kernel
theorem dX5_drawOnce_11 : decode cX5_drawOnce 11 = .ok (.if_icmp .ge 20, 3) := by decide +kernel
theorem dX5_drawOnce_14 : decode cX5_drawOnce 14 = .ok (.iload_n 3, 1) := by decide +kernel
theorem dX5_drawOnce_15 : decode cX5_drawOnce 15 = .ok (.aload_n 0, 1) := by decide +kernel
theorem dX5_drawOnce_16 : decode cX5_drawOnce 16 = .ok (.iload_n 1, 1) := by decide +kernel
theorem dX5_drawOnce_17 : decode cX5_drawOnce 17 = .ok (.iload 4, 2) := by decide +kernel
theorem dX5_drawOnce_19 : decode cX5_drawOnce 19 = .ok (.iload_n 2, 1) := by decide +kernel
theorem dX5_drawOnce_20 : decode cX5_drawOnce 20 = .ok (.invokevirtual 155, 3) := by decide +kernel
theorem dX5_drawOnce_23 : decode cX5_drawOnce 23 = .ok (.iadd, 1) := by decide +kernel
theorem dX5_drawOnce_24 : decode cX5_drawOnce 24 = .ok (.istore_n 3, 1) := by decide +kernel
theorem dX5_drawOnce_25 : decode cX5_drawOnce 25 = .ok (.iinc 4 1, 3) := by decide +kernel
theorem dX5_drawOnce_28 : decode cX5_drawOnce 28 = .ok (.goto (-23), 3) := by decide +kernel
theorem dX5_drawOnce_31 : decode cX5_drawOnce 31 = .ok (.aload_n 0, 1) := by decide +kernel
theorem dX5_drawOnce_32 : decode cX5_drawOnce 32 = .ok (.iload_n 1, 1) := by decide +kernel
theorem dX5_drawOnce_33 : decode cX5_drawOnce 33 = .ok (.iload_n 3, 1) := by decide +kernel
theorem dX5_drawOnce_34 : decode cX5_drawOnce 34 = .ok (.invokevirtual 159, 3) := by decide +kernel
theorem dX5_drawOnce_37 : decode cX5_drawOnce 37 = .ok (.istore 4, 2) := by decide +kernel
theorem dX5_drawOnce_39 : decode cX5_drawOnce 39 = .ok (.iconst 0, 1) := by decide +kernel
theorem dX5_drawOnce_40 : decode cX5_drawOnce 40 = .ok (.istore 5, 2) := by decide +kernel
theorem dX5_drawOnce_42 : decode cX5_drawOnce 42 = .ok (.aload_n 0, 1) := by decide +kernel
theorem dX5_drawOnce_43 : decode cX5_drawOnce 43 = .ok (.iload_n 1, 1) := by decide +kernel
theorem dX5_drawOnce_44 : decode cX5_drawOnce 44 = .ok (.iconst 0, 1) := by decide +kernel
theorem dX5_drawOnce_45 : decode cX5_drawOnce 45 = .ok (.iload_n 2, 1) := by decide +kernel
theorem dX5_drawOnce_46 : decode cX5_drawOnce 46 = .ok (.invokevirtual 155, 3) := by decide +kernel
theorem dX5_drawOnce_49 : decode cX5_drawOnce 49 = .ok (.istore 6, 2) := by decide +kernel
theorem dX5_drawOnce_51 : decode cX5_drawOnce 51 = .ok (.iload 6, 2) := by decide +kernel
theorem dX5_drawOnce_53 : decode cX5_drawOnce 53 = .ok (.iload 4, 2) := by decide +kernel
theorem dX5_drawOnce_55 : decode cX5_drawOnce 55 = .ok (.if_icmp .gt 22, 3) := by decide +kernel
theorem dX5_drawOnce_58 : decode cX5_drawOnce 58 = .ok (.iinc 5 1, 3) := by decide +kernel
theorem dX5_drawOnce_61 : decode cX5_drawOnce 61 = .ok (.iload 6, 2) := by decide +kernel
theorem dX5_drawOnce_63 : decode cX5_drawOnce 63 = .ok (.aload_n 0, 1) := by decide +kernel
theorem dX5_drawOnce_64 : decode cX5_drawOnce 64 = .ok (.iload_n 1, 1) := by decide +kernel
theorem dX5_drawOnce_65 : decode cX5_drawOnce 65 = .ok (.iload 5, 2) := by decide +kernel
theorem dX5_drawOnce_67 : decode cX5_drawOnce 67 = .ok (.iload_n 2, 1) := by decide +kernel
theorem dX5_drawOnce_68 : decode cX5_drawOnce 68 = .ok (.invokevirtual 155, 3) := by decide +kernel
theorem dX5_drawOnce_71 : decode cX5_drawOnce 71 = .ok (.iadd, 1) := by decide +kernel
theorem dX5_drawOnce_72 : decode cX5_drawOnce 72 = .ok (.istore 6, 2) := by decide +kernel
theorem dX5_drawOnce_74 : decode cX5_drawOnce 74 = .ok (.goto (-23), 3) := by decide +kernel
theorem dX5_drawOnce_77 : decode cX5_drawOnce 77 = .ok (.iload 5, 2) := by decide +kernel
theorem dX5_drawOnce_79 : decode cX5_drawOnce 79 = .ok (.ireturn, 1) := by decide +kernel
theorem dX5_drop_0 : decode cX5_drop 0 = .ok (.iload_n 1, 1) := by decide +kernel
theorem dX5_drop_1 : decode cX5_drop 1 = .ok (.invokestatic 210, 3) := by decide +kernel
theorem dX5_drop_4 : decode cX5_drop 4 = .ok (.ifCond .ne 6, 3) := by decide +kernel
theorem dX5_drop_7 : decode cX5_drop 7 = .ok (.bipush (-2), 2) := by decide +kernel
theorem dX5_drop_9 : decode cX5_drop 9 = .ok (.ireturn, 1) := by decide +kernel
theorem dX5_drop_10 : decode cX5_drop 10 = .ok (.aload_n 0, 1) := by decide +kernel
theorem dX5_drop_11 : decode cX5_drop 11 = .ok (.getfield 26, 3) := by decide +kernel
theorem dX5_drop_14 : decode cX5_drop 14 = .ok (.iload_n 1, 1) := by decide +kernel
theorem dX5_drop_15 : decode cX5_drop 15 = .ok (.iaload, 1) := by decide +kernel
theorem dX5_drop_16 : decode cX5_drop 16 = .ok (.istore_n 2, 1) := by decide +kernel
theorem dX5_drop_17 : decode cX5_drop 17 = .ok (.aload_n 0, 1) := by decide +kernel
theorem dX5_drop_18 : decode cX5_drop 18 = .ok (.getfield 26, 3) := by decide +kernel
theorem dX5_drop_21 : decode cX5_drop 21 = .ok (.iload_n 1, 1) := by decide +kernel
theorem dX5_drop_22 : decode cX5_drop 22 = .ok (.iconst (-1), 1) := by decide +kernel
theorem dX5_drop_23 : decode cX5_drop 23 = .ok (.iastore, 1) := by decide +kernel
theorem dX5_drop_24 : decode cX5_drop 24 = .ok (.iload_n 2, 1) := by decide +kernel
theorem dX5_drop_25 : decode cX5_drop 25 = .ok (.ifCond .ge 8, 3) := by decide +kernel
theorem dX5_drop_28 : decode cX5_drop 28 = .ok (.bipush (-11), 2) := by decide +kernel
theorem dX5_drop_30 : decode cX5_drop 30 = .ok (.goto 4, 3) := by decide +kernel
theorem dX5_drop_33 : decode cX5_drop 33 = .ok (.iload_n 2, 1) := by decide +kernel
theorem dX5_drop_34 : decode cX5_drop 34 = .ok (.ireturn, 1) := by decide +kernel
theorem dX5_erase_0 : decode cX5_erase 0 = .ok (.aload_n 0, 1) := by decide +kernel
theorem dX5_erase_1 : decode cX5_erase 1 = .ok (.getfield 61, 3) := by decide +kernel
theorem dX5_erase_4 : decode cX5_erase 4 = .ok (.istore_n 1, 1) := by decide +kernel
theorem dX5_erase_5 : decode cX5_erase 5 = .ok (.aload_n 0, 1) := by decide +kernel
theorem dX5_erase_6 : decode cX5_erase 6 = .ok (.iconst 0, 1) := by decide +kernel
theorem dX5_erase_7 : decode cX5_erase 7 = .ok (.putfield 61, 3) := by decide +kernel
theorem dX5_erase_10 : decode cX5_erase 10 = .ok (.iload_n 1, 1) := by decide +kernel
theorem dX5_erase_11 : decode cX5_erase 11 = .ok (.ireturn, 1) := by decide +kernel
theorem dX5_fault_0 : decode cX5_fault 0 = .ok (.aload_n 0, 1) := by decide +kernel
theorem dX5_fault_1 : decode cX5_fault 1 = .ok (.iconst 0, 1) := by decide +kernel
theorem dX5_fault_2 : decode cX5_fault 2 = .ok (.invokevirtual 132, 3) := by decide +kernel
theorem dX5_fault_5 : decode cX5_fault 5 = .ok (.ifCond .eq 7, 3) := by decide +kernel
theorem dX5_fault_8 : decode cX5_fault 8 = .ok (.iconst (-1), 1) := by decide +kernel
theorem dX5_fault_9 : decode cX5_fault 9 = .ok (.goto 7, 3) := by decide +kernel
theorem dX5_fault_12 : decode cX5_fault 12 = .ok (.aload_n 0, 1) := by decide +kernel
theorem dX5_fault_13 : decode cX5_fault 13 = .ok (.getfield 75, 3) := by decide +kernel
theorem dX5_fault_16 : decode cX5_fault 16 = .ok (.ireturn, 1) := by decide +kernel
theorem dX5_find_0 : decode cX5_find 0 = .ok (.iload_n 1, 1) := by decide +kernel
theorem dX5_find_1 : decode cX5_find 1 = .ok (.invokestatic 210, 3) := by decide +kernel
theorem dX5_find_4 : decode cX5_find 4 = .ok (.ifCond .ne 6, 3) := by decide +kernel
theorem dX5_find_7 : decode cX5_find 7 = .ok (.bipush (-2), 2) := by decide +kernel
theorem dX5_find_9 : decode cX5_find 9 = .ok (.ireturn, 1) := by decide +kernel
theorem dX5_find_10 : decode cX5_find 10 = .ok (.iload_n 2, 1) := by decide +kernel
theorem dX5_find_11 : decode cX5_find 11 = .ok (.i2l, 1) := by decide +kernel
theorem dX5_find_12 : decode cX5_find 12 = .ok (.lconst 0, 1) := by decide +kernel
theorem dX5_find_13 : decode cX5_find 13 = .ok (.ldc2_w 213, 3) := by decide +kernel
theorem dX5_find_16 : decode cX5_find 16 = .ok (.invokestatic 57, 3) := by decide +kernel
theorem dX5_find_19 : decode cX5_find 19 = .ok (.ifCond .ne 6, 3) := by decide +kernel
theorem dX5_find_22 : decode cX5_find 22 = .ok (.bipush (-3), 2) := by decide +kernel
theorem dX5_find_24 : decode cX5_find 24 = .ok (.ireturn, 1) := by decide +kernel
theorem dX5_find_25 : decode cX5_find 25 = .ok (.aload_n 0, 1) := by decide +kernel
theorem dX5_find_26 : decode cX5_find 26 = .ok (.getfield 26, 3) := by decide +kernel
theorem dX5_find_29 : decode cX5_find 29 = .ok (.iload_n 1, 1) := by decide +kernel
theorem dX5_find_30 : decode cX5_find 30 = .ok (.iaload, 1) := by decide +kernel
theorem dX5_find_31 : decode cX5_find 31 = .ok (.ifCond .lt 18, 3) := by decide +kernel
theorem dX5_find_34 : decode cX5_find 34 = .ok (.iload_n 2, 1) := by decide +kernel
theorem dX5_find_35 : decode cX5_find 35 = .ok (.ifCond .le 17, 3) := by decide +kernel
theorem dX5_find_38 : decode cX5_find 38 = .ok (.aload_n 0, 1) := by decide +kernel
theorem dX5_find_39 : decode cX5_find 39 = .ok (.getfield 26, 3) := by decide +kernel
theorem dX5_find_42 : decode cX5_find 42 = .ok (.iload_n 2, 1) := by decide +kernel
theorem dX5_find_43 : decode cX5_find 43 = .ok (.iconst 1, 1) := by decide +kernel
theorem dX5_find_44 : decode cX5_find 44 = .ok (.isub, 1) := by decide +kernel
theorem dX5_find_45 : decode cX5_find 45 = .ok (.iaload, 1) := by decide +kernel
theorem dX5_find_46 : decode cX5_find 46 = .ok (.ifCond .ge 6, 3) := by decide +kernel
theorem dX5_find_49 : decode cX5_find 49 = .ok (.bipush (-11), 2) := by decide +kernel
theorem dX5_find_51 : decode cX5_find 51 = .ok (.ireturn, 1) := by decide +kernel
theorem dX5_find_52 : decode cX5_find 52 = .ok (.aload_n 0, 1) := by decide +kernel
theorem dX5_find_53 : decode cX5_find 53 = .ok (.invokevirtual 194, 3) := by decide +kernel
theorem dX5_find_56 : decode cX5_find 56 = .ok (.iload_n 2, 1) := by decide +kernel
theorem dX5_find_57 : decode cX5_find 57 = .ok (.ifCond .ne 10, 3) := by decide +kernel
theorem dX5_find_60 : decode cX5_find 60 = .ok (.aload_n 0, 1) := by decide +kernel
theorem dX5_find_61 : decode cX5_find 61 = .ok (.getfield 188, 3) := by decide +kernel
theorem dX5_find_64 : decode cX5_find 64 = .ok (.goto 11, 3) := by decide +kernel
theorem dX5_find_67 : decode cX5_find 67 = .ok (.aload_n 0, 1) := by decide +kernel
theorem dX5_find_68 : decode cX5_find 68 = .ok (.getfield 26, 3) := by decide +kernel
theorem dX5_find_71 : decode cX5_find 71 = .ok (.iload_n 2, 1) := by decide +kernel
theorem dX5_find_72 : decode cX5_find 72 = .ok (.iconst 1, 1) := by decide +kernel
theorem dX5_find_73 : decode cX5_find 73 = .ok (.isub, 1) := by decide +kernel
theorem dX5_find_74 : decode cX5_find 74 = .ok (.iaload, 1) := by decide +kernel
theorem dX5_find_75 : decode cX5_find 75 = .ok (.istore_n 3, 1) := by decide +kernel
theorem dX5_find_76 : decode cX5_find 76 = .ok (.iconst 0, 1) := by decide +kernel
theorem dX5_find_77 : decode cX5_find 77 = .ok (.istore 4, 2) := by decide +kernel
theorem dX5_find_79 : decode cX5_find 79 = .ok (.iload 4, 2) := by decide +kernel
theorem dX5_find_81 : decode cX5_find 81 = .ok (.aload_n 0, 1) := by decide +kernel
theorem dX5_find_82 : decode cX5_find 82 = .ok (.getfield 26, 3) := by decide +kernel
theorem dX5_find_85 : decode cX5_find 85 = .ok (.iload_n 1, 1) := by decide +kernel
theorem dX5_find_86 : decode cX5_find 86 = .ok (.iaload, 1) := by decide +kernel
theorem dX5_find_87 : decode cX5_find 87 = .ok (.iadd, 1) := by decide +kernel
theorem dX5_find_88 : decode cX5_find 88 = .ok (.iload_n 3, 1) := by decide +kernel
theorem dX5_find_89 : decode cX5_find 89 = .ok (.if_icmp .gt 23, 3) := by decide +kernel
theorem dX5_find_92 : decode cX5_find 92 = .ok (.aload_n 0, 1) := by decide +kernel
theorem dX5_find_93 : decode cX5_find 93 = .ok (.iload_n 1, 1) := by decide +kernel
theorem dX5_find_94 : decode cX5_find 94 = .ok (.iload_n 2, 1) := by decide +kernel
theorem dX5_find_95 : decode cX5_find 95 = .ok (.iload 4, 2) := by decide +kernel
theorem dX5_find_97 : decode cX5_find 97 = .ok (.invokevirtual 215, 3) := by decide +kernel
theorem dX5_find_100 : decode cX5_find 100 = .ok (.ifCond .eq 6, 3) := by decide +kernel
theorem dX5_find_103 : decode cX5_find 103 = .ok (.iload 4, 2) := by decide +kernel
theorem dX5_find_105 : decode cX5_find 105 = .ok (.ireturn, 1) := by decide +kernel
theorem dX5_find_106 : decode cX5_find 106 = .ok (.iinc 4 1, 3) := by decide +kernel
theorem dX5_find_109 : decode cX5_find 109 = .ok (.goto (-30), 3) := by decide +kernel
theorem dX5_find_112 : decode cX5_find 112 = .ok (.iconst (-1), 1) := by decide +kernel
theorem dX5_find_113 : decode cX5_find 113 = .ok (.ireturn, 1) := by decide +kernel
theorem dX5_has_0 : decode cX5_has 0 = .ok (.iload_n 0, 1) := by decide +kernel
theorem dX5_has_1 : decode cX5_has 1 = .ok (.iload_n 1, 1) := by decide +kernel
theorem dX5_has_2 : decode cX5_has 2 = .ok (.ishr, 1) := by decide +kernel
theorem dX5_has_3 : decode cX5_has 3 = .ok (.iconst 1, 1) := by decide +kernel
theorem dX5_has_4 : decode cX5_has 4 = .ok (.iand, 1) := by decide +kernel
theorem dX5_has_5 : decode cX5_has 5 = .ok (.iconst 1, 1) := by decide +kernel
theorem dX5_has_6 : decode cX5_has 6 = .ok (.if_icmp .ne 7, 3) := by decide +kernel
theorem dX5_has_9 : decode cX5_has 9 = .ok (.iconst 1, 1) := by decide +kernel
theorem dX5_has_10 : decode cX5_has 10 = .ok (.goto 4, 3) := by decide +kernel
theorem dX5_has_13 : decode cX5_has 13 = .ok (.iconst 0, 1) := by decide +kernel
theorem dX5_has_14 : decode cX5_has 14 = .ok (.ireturn, 1) := by decide +kernel
theorem dX5_in_0 : decode cX5_in 0 = .ok (.lload_n 0, 1) := by decide +kernel
theorem dX5_in_1 : decode cX5_in 1 = .ok (.lload_n 2, 1) := by decide +kernel
theorem dX5_in_2 : decode cX5_in 2 = .ok (.lcmp, 1) := by decide +kernel
theorem dX5_in_3 : decode cX5_in 3 = .ok (.ifCond .lt 14, 3) := by decide +kernel
theorem dX5_in_6 : decode cX5_in 6 = .ok (.lload_n 0, 1) := by decide +kernel
theorem dX5_in_7 : decode cX5_in 7 = .ok (.lload 4, 2) := by decide +kernel
theorem dX5_in_9 : decode cX5_in 9 = .ok (.lcmp, 1) := by decide +kernel
theorem dX5_in_10 : decode cX5_in 10 = .ok (.ifCond .gt 7, 3) := by decide +kernel
theorem dX5_in_13 : decode cX5_in 13 = .ok (.iconst 1, 1) := by decide +kernel
theorem dX5_in_14 : decode cX5_in 14 = .ok (.goto 4, 3) := by decide +kernel
theorem dX5_in_17 : decode cX5_in 17 = .ok (.iconst 0, 1) := by decide +kernel
theorem dX5_in_18 : decode cX5_in 18 = .ok (.ireturn, 1) := by decide +kernel
theorem dX5_init_0 : decode cX5_init 0 = .ok (.aload_n 0, 1) := by decide +kernel
theorem dX5_init_1 : decode cX5_init 1 = .ok (.invokespecial 1, 3) := by decide +kernel
theorem dX5_init_4 : decode cX5_init 4 = .ok (.aload_n 0, 1) := by decide +kernel
theorem dX5_init_5 : decode cX5_init 5 = .ok (.sipush 1001, 3) := by decide +kernel
theorem dX5_init_8 : decode cX5_init 8 = .ok (.newarray .int, 2) := by decide +kernel
theorem dX5_init_10 : decode cX5_init 10 = .ok (.putfield 7, 3) := by decide +kernel
theorem dX5_init_13 : decode cX5_init 13 = .ok (.aload_n 0, 1) := by decide +kernel
theorem dX5_init_14 : decode cX5_init 14 = .ok (.bipush 6, 2) := by decide +kernel
theorem dX5_init_16 : decode cX5_init 16 = .ok (.newarray .int, 2) := by decide +kernel
theorem dX5_init_18 : decode cX5_init 18 = .ok (.putfield 13, 3) := by decide +kernel
theorem dX5_init_21 : decode cX5_init 21 = .ok (.aload_n 0, 1) := by decide +kernel
theorem dX5_init_22 : decode cX5_init 22 = .ok (.bipush 6, 2) := by decide +kernel
theorem dX5_init_24 : decode cX5_init 24 = .ok (.newarray .int, 2) := by decide +kernel
theorem dX5_init_26 : decode cX5_init 26 = .ok (.putfield 16, 3) := by decide +kernel
theorem dX5_init_29 : decode cX5_init 29 = .ok (.aload_n 0, 1) := by decide +kernel
theorem dX5_init_30 : decode cX5_init 30 = .ok (.iconst 2, 1) := by decide +kernel
theorem dX5_init_31 : decode cX5_init 31 = .ok (.newarray .boolean, 2) := by decide +kernel
theorem dX5_init_33 : decode cX5_init 33 = .ok (.putfield 19, 3) := by decide +kernel
theorem dX5_init_36 : decode cX5_init 36 = .ok (.aload_n 0, 1) := by decide +kernel
theorem dX5_init_37 : decode cX5_init 37 = .ok (.sipush 200, 3) := by decide +kernel
theorem dX5_init_40 : decode cX5_init 40 = .ok (.newarray .int, 2) := by decide +kernel
theorem dX5_init_42 : decode cX5_init 42 = .ok (.putfield 23, 3) := by decide +kernel
theorem dX5_init_45 : decode cX5_init 45 = .ok (.aload_n 0, 1) := by decide +kernel
theorem dX5_init_46 : decode cX5_init 46 = .ok (.iconst 3, 1) := by decide +kernel
theorem dX5_init_47 : decode cX5_init 47 = .ok (.newarray .int, 2) := by decide +kernel
theorem dX5_init_49 : decode cX5_init 49 = .ok (.dup, 1) := by decide +kernel
theorem dX5_init_50 : decode cX5_init 50 = .ok (.iconst 0, 1) := by decide +kernel
theorem dX5_init_51 : decode cX5_init 51 = .ok (.iconst (-1), 1) := by decide +kernel
theorem dX5_init_52 : decode cX5_init 52 = .ok (.iastore, 1) := by decide +kernel
theorem dX5_init_53 : decode cX5_init 53 = .ok (.dup, 1) := by decide +kernel
theorem dX5_init_54 : decode cX5_init 54 = .ok (.iconst 1, 1) := by decide +kernel
theorem dX5_init_55 : decode cX5_init 55 = .ok (.iconst (-1), 1) := by decide +kernel
theorem dX5_init_56 : decode cX5_init 56 = .ok (.iastore, 1) := by decide +kernel
theorem dX5_init_57 : decode cX5_init 57 = .ok (.dup, 1) := by decide +kernel
theorem dX5_init_58 : decode cX5_init 58 = .ok (.iconst 2, 1) := by decide +kernel
theorem dX5_init_59 : decode cX5_init 59 = .ok (.iconst (-1), 1) := by decide +kernel
theorem dX5_init_60 : decode cX5_init 60 = .ok (.iastore, 1) := by decide +kernel
theorem dX5_init_61 : decode cX5_init 61 = .ok (.putfield 26, 3) := by decide +kernel
theorem dX5_init_64 : decode cX5_init 64 = .ok (.aload_n 0, 1) := by decide +kernel
theorem dX5_init_65 : decode cX5_init 65 = .ok (.bipush 120, 2) := by decide +kernel
theorem dX5_init_67 : decode cX5_init 67 = .ok (.newarray .int, 2) := by decide +kernel
theorem dX5_init_69 : decode cX5_init 69 = .ok (.putfield 29, 3) := by decide +kernel
theorem dX5_init_72 : decode cX5_init 72 = .ok (.aload_n 0, 1) := by decide +kernel
theorem dX5_init_73 : decode cX5_init 73 = .ok (.iconst 2, 1) := by decide +kernel
theorem dX5_init_74 : decode cX5_init 74 = .ok (.newarray .int, 2) := by decide +kernel
theorem dX5_init_76 : decode cX5_init 76 = .ok (.putfield 32, 3) := by decide +kernel
theorem dX5_init_79 : decode cX5_init 79 = .ok (.aload_n 0, 1) := by decide +kernel
theorem dX5_init_80 : decode cX5_init 80 = .ok (.bipush 54, 2) := by decide +kernel
theorem dX5_init_82 : decode cX5_init 82 = .ok (.newarray .int, 2) := by decide +kernel
theorem dX5_init_84 : decode cX5_init 84 = .ok (.dup, 1) := by decide +kernel
theorem dX5_init_85 : decode cX5_init 85 = .ok (.iconst 0, 1) := by decide +kernel
theorem dX5_init_86 : decode cX5_init 86 = .ok (.bipush 112, 2) := by decide +kernel
theorem dX5_init_88 : decode cX5_init 88 = .ok (.iastore, 1) := by decide +kernel
theorem dX5_init_89 : decode cX5_init 89 = .ok (.dup, 1) := by decide +kernel
theorem dX5_init_90 : decode cX5_init 90 = .ok (.iconst 1, 1) := by decide +kernel
theorem dX5_init_91 : decode cX5_init 91 = .ok (.bipush 108, 2) := by decide +kernel
theorem dX5_init_93 : decode cX5_init 93 = .ok (.iastore, 1) := by decide +kernel
theorem dX5_init_94 : decode cX5_init 94 = .ok (.dup, 1) := by decide +kernel
theorem dX5_init_95 : decode cX5_init 95 = .ok (.iconst 2, 1) := by decide +kernel
theorem dX5_init_96 : decode cX5_init 96 = .ok (.bipush 97, 2) := by decide +kernel
theorem dX5_init_98 : decode cX5_init 98 = .ok (.iastore, 1) := by decide +kernel
theorem dX5_init_99 : decode cX5_init 99 = .ok (.dup, 1) := by decide +kernel
theorem dX5_init_100 : decode cX5_init 100 = .ok (.iconst 3, 1) := by decide +kernel
theorem dX5_init_101 : decode cX5_init 101 = .ok (.bipush 105, 2) := by decide +kernel
theorem dX5_init_103 : decode cX5_init 103 = .ok (.iastore, 1) := by decide +kernel
theorem dX5_init_104 : decode cX5_init 104 = .ok (.dup, 1) := by decide +kernel
theorem dX5_init_105 : decode cX5_init 105 = .ok (.iconst 4, 1) := by decide +kernel
theorem dX5_init_106 : decode cX5_init 106 = .ok (.bipush 110, 2) := by decide +kernel
theorem dX5_init_108 : decode cX5_init 108 = .ok (.iastore, 1) := by decide +kernel
theorem dX5_init_109 : decode cX5_init 109 = .ok (.dup, 1) := by decide +kernel
theorem dX5_init_110 : decode cX5_init 110 = .ok (.iconst 5, 1) := by decide +kernel
theorem dX5_init_111 : decode cX5_init 111 = .ok (.iconst 0, 1) := by decide +kernel
theorem dX5_init_112 : decode cX5_init 112 = .ok (.iastore, 1) := by decide +kernel
theorem dX5_init_113 : decode cX5_init 113 = .ok (.dup, 1) := by decide +kernel
theorem dX5_init_114 : decode cX5_init 114 = .ok (.bipush 6, 2) := by decide +kernel
theorem dX5_init_116 : decode cX5_init 116 = .ok (.bipush 118, 2) := by decide +kernel
theorem dX5_init_118 : decode cX5_init 118 = .ok (.iastore, 1) := by decide +kernel
theorem dX5_init_119 : decode cX5_init 119 = .ok (.dup, 1) := by decide +kernel
theorem dX5_init_120 : decode cX5_init 120 = .ok (.bipush 7, 2) := by decide +kernel
theorem dX5_init_122 : decode cX5_init 122 = .ok (.bipush 101, 2) := by decide +kernel
theorem dX5_init_124 : decode cX5_init 124 = .ok (.iastore, 1) := by decide +kernel
theorem dX5_init_125 : decode cX5_init 125 = .ok (.dup, 1) := by decide +kernel
theorem dX5_init_126 : decode cX5_init 126 = .ok (.bipush 8, 2) := by decide +kernel
theorem dX5_init_128 : decode cX5_init 128 = .ok (.bipush 114, 2) := by decide +kernel
theorem dX5_init_130 : decode cX5_init 130 = .ok (.iastore, 1) := by decide +kernel
theorem dX5_init_131 : decode cX5_init 131 = .ok (.dup, 1) := by decide +kernel
theorem dX5_init_132 : decode cX5_init 132 = .ok (.bipush 9, 2) := by decide +kernel
theorem dX5_init_134 : decode cX5_init 134 = .ok (.bipush 115, 2) := by decide +kernel
theorem dX5_init_136 : decode cX5_init 136 = .ok (.iastore, 1) := by decide +kernel
theorem dX5_init_137 : decode cX5_init 137 = .ok (.dup, 1) := by decide +kernel
theorem dX5_init_138 : decode cX5_init 138 = .ok (.bipush 10, 2) := by decide +kernel
theorem dX5_init_140 : decode cX5_init 140 = .ok (.bipush 101, 2) := by decide +kernel
theorem dX5_init_142 : decode cX5_init 142 = .ok (.iastore, 1) := by decide +kernel
theorem dX5_init_143 : decode cX5_init 143 = .ok (.dup, 1) := by decide +kernel
theorem dX5_init_144 : decode cX5_init 144 = .ok (.bipush 11, 2) := by decide +kernel
theorem dX5_init_146 : decode cX5_init 146 = .ok (.bipush 100, 2) := by decide +kernel
theorem dX5_init_148 : decode cX5_init 148 = .ok (.iastore, 1) := by decide +kernel
theorem dX5_init_149 : decode cX5_init 149 = .ok (.dup, 1) := by decide +kernel
theorem dX5_init_150 : decode cX5_init 150 = .ok (.bipush 12, 2) := by decide +kernel
theorem dX5_init_152 : decode cX5_init 152 = .ok (.bipush 111, 2) := by decide +kernel
theorem dX5_init_154 : decode cX5_init 154 = .ok (.iastore, 1) := by decide +kernel
theorem dX5_init_155 : decode cX5_init 155 = .ok (.dup, 1) := by decide +kernel
theorem dX5_init_156 : decode cX5_init 156 = .ok (.bipush 13, 2) := by decide +kernel
theorem dX5_init_158 : decode cX5_init 158 = .ok (.bipush 119, 2) := by decide +kernel
theorem dX5_init_160 : decode cX5_init 160 = .ok (.iastore, 1) := by decide +kernel
theorem dX5_init_161 : decode cX5_init 161 = .ok (.dup, 1) := by decide +kernel
theorem dX5_init_162 : decode cX5_init 162 = .ok (.bipush 14, 2) := by decide +kernel
theorem dX5_init_164 : decode cX5_init 164 = .ok (.bipush 105, 2) := by decide +kernel
theorem dX5_init_166 : decode cX5_init 166 = .ok (.iastore, 1) := by decide +kernel
theorem dX5_init_167 : decode cX5_init 167 = .ok (.dup, 1) := by decide +kernel
theorem dX5_init_168 : decode cX5_init 168 = .ok (.bipush 15, 2) := by decide +kernel
theorem dX5_init_170 : decode cX5_init 170 = .ok (.bipush 110, 2) := by decide +kernel
theorem dX5_init_172 : decode cX5_init 172 = .ok (.iastore, 1) := by decide +kernel
theorem dX5_init_173 : decode cX5_init 173 = .ok (.dup, 1) := by decide +kernel
theorem dX5_init_174 : decode cX5_init 174 = .ok (.bipush 16, 2) := by decide +kernel
theorem dX5_init_176 : decode cX5_init 176 = .ok (.bipush 103, 2) := by decide +kernel
theorem dX5_init_178 : decode cX5_init 178 = .ok (.iastore, 1) := by decide +kernel
theorem dX5_init_179 : decode cX5_init 179 = .ok (.dup, 1) := by decide +kernel
theorem dX5_init_180 : decode cX5_init 180 = .ok (.bipush 17, 2) := by decide +kernel
theorem dX5_init_182 : decode cX5_init 182 = .ok (.iconst 0, 1) := by decide +kernel
theorem dX5_init_183 : decode cX5_init 183 = .ok (.iastore, 1) := by decide +kernel
theorem dX5_init_184 : decode cX5_init 184 = .ok (.dup, 1) := by decide +kernel
theorem dX5_init_185 : decode cX5_init 185 = .ok (.bipush 18, 2) := by decide +kernel
theorem dX5_init_187 : decode cX5_init 187 = .ok (.bipush 98, 2) := by decide +kernel
theorem dX5_init_189 : decode cX5_init 189 = .ok (.iastore, 1) := by decide +kernel
theorem dX5_init_190 : decode cX5_init 190 = .ok (.dup, 1) := by decide +kernel
theorem dX5_init_191 : decode cX5_init 191 = .ok (.bipush 19, 2) := by decide +kernel
theorem dX5_init_193 : decode cX5_init 193 = .ok (.bipush 111, 2) := by decide +kernel
theorem dX5_init_195 : decode cX5_init 195 = .ok (.iastore, 1) := by decide +kernel
theorem dX5_init_196 : decode cX5_init 196 = .ok (.dup, 1) := by decide +kernel
theorem dX5_init_197 : decode cX5_init 197 = .ok (.bipush 20, 2) := by decide +kernel
theorem dX5_init_199 : decode cX5_init 199 = .ok (.bipush 116, 2) := by decide +kernel
theorem dX5_init_201 : decode cX5_init 201 = .ok (.iastore, 1) := by decide +kernel
theorem dX5_init_202 : decode cX5_init 202 = .ok (.dup, 1) := by decide +kernel
theorem dX5_init_203 : decode cX5_init 203 = .ok (.bipush 21, 2) := by decide +kernel
theorem dX5_init_205 : decode cX5_init 205 = .ok (.bipush 104, 2) := by decide +kernel
theorem dX5_init_207 : decode cX5_init 207 = .ok (.iastore, 1) := by decide +kernel
theorem dX5_init_208 : decode cX5_init 208 = .ok (.dup, 1) := by decide +kernel
theorem dX5_init_209 : decode cX5_init 209 = .ok (.bipush 22, 2) := by decide +kernel
theorem dX5_init_211 : decode cX5_init 211 = .ok (.iconst 0, 1) := by decide +kernel
theorem dX5_init_212 : decode cX5_init 212 = .ok (.iastore, 1) := by decide +kernel
theorem dX5_init_213 : decode cX5_init 213 = .ok (.dup, 1) := by decide +kernel
theorem dX5_init_214 : decode cX5_init 214 = .ok (.bipush 23, 2) := by decide +kernel
theorem dX5_init_216 : decode cX5_init 216 = .ok (.iconst 0, 1) := by decide +kernel
theorem dX5_init_217 : decode cX5_init 217 = .ok (.iastore, 1) := by decide +kernel
theorem dX5_init_218 : decode cX5_init 218 = .ok (.dup, 1) := by decide +kernel
theorem dX5_init_219 : decode cX5_init 219 = .ok (.bipush 24, 2) := by decide +kernel
theorem dX5_init_221 : decode cX5_init 221 = .ok (.bipush 119, 2) := by decide +kernel
theorem dX5_init_223 : decode cX5_init 223 = .ok (.iastore, 1) := by decide +kernel
theorem dX5_init_224 : decode cX5_init 224 = .ok (.dup, 1) := by decide +kernel
theorem dX5_init_225 : decode cX5_init 225 = .ok (.bipush 25, 2) := by decide +kernel
theorem dX5_init_227 : decode cX5_init 227 = .ok (.bipush 104, 2) := by decide +kernel
theorem dX5_init_229 : decode cX5_init 229 = .ok (.iastore, 1) := by decide +kernel
theorem dX5_init_230 : decode cX5_init 230 = .ok (.dup, 1) := by decide +kernel
theorem dX5_init_231 : decode cX5_init 231 = .ok (.bipush 26, 2) := by decide +kernel
theorem dX5_init_233 : decode cX5_init 233 = .ok (.bipush 101, 2) := by decide +kernel
theorem dX5_init_235 : decode cX5_init 235 = .ok (.iastore, 1) := by decide +kernel
theorem dX5_init_236 : decode cX5_init 236 = .ok (.dup, 1) := by decide +kernel
theorem dX5_init_237 : decode cX5_init 237 = .ok (.bipush 27, 2) := by decide +kernel
theorem dX5_init_239 : decode cX5_init 239 = .ok (.bipush 101, 2) := by decide +kernel
theorem dX5_init_241 : decode cX5_init 241 = .ok (.iastore, 1) := by decide +kernel
theorem dX5_init_242 : decode cX5_init 242 = .ok (.dup, 1) := by decide +kernel
theorem dX5_init_243 : decode cX5_init 243 = .ok (.bipush 28, 2) := by decide +kernel
theorem dX5_init_245 : decode cX5_init 245 = .ok (.bipush 108, 2) := by decide +kernel
theorem dX5_init_247 : decode cX5_init 247 = .ok (.iastore, 1) := by decide +kernel
theorem dX5_init_248 : decode cX5_init 248 = .ok (.dup, 1) := by decide +kernel
theorem dX5_init_249 : decode cX5_init 249 = .ok (.bipush 29, 2) := by decide +kernel
theorem dX5_init_251 : decode cX5_init 251 = .ok (.iconst 0, 1) := by decide +kernel
theorem dX5_init_252 : decode cX5_init 252 = .ok (.iastore, 1) := by decide +kernel
theorem dX5_init_253 : decode cX5_init 253 = .ok (.dup, 1) := by decide +kernel
theorem dX5_init_254 : decode cX5_init 254 = .ok (.bipush 30, 2) := by decide +kernel
theorem dX5_init_256 : decode cX5_init 256 = .ok (.bipush 106, 2) := by decide +kernel
theorem dX5_init_258 : decode cX5_init 258 = .ok (.iastore, 1) := by decide +kernel
theorem dX5_init_259 : decode cX5_init 259 = .ok (.dup, 1) := by decide +kernel
theorem dX5_init_260 : decode cX5_init 260 = .ok (.bipush 31, 2) := by decide +kernel
theorem dX5_init_262 : decode cX5_init 262 = .ok (.bipush 117, 2) := by decide +kernel
theorem dX5_init_264 : decode cX5_init 264 = .ok (.iastore, 1) := by decide +kernel
theorem dX5_init_265 : decode cX5_init 265 = .ok (.dup, 1) := by decide +kernel
theorem dX5_init_266 : decode cX5_init 266 = .ok (.bipush 32, 2) := by decide +kernel
theorem dX5_init_268 : decode cX5_init 268 = .ok (.bipush 100, 2) := by decide +kernel
theorem dX5_init_270 : decode cX5_init 270 = .ok (.iastore, 1) := by decide +kernel
theorem dX5_init_271 : decode cX5_init 271 = .ok (.dup, 1) := by decide +kernel
theorem dX5_init_272 : decode cX5_init 272 = .ok (.bipush 33, 2) := by decide +kernel
theorem dX5_init_274 : decode cX5_init 274 = .ok (.bipush 103, 2) := by decide +kernel
theorem dX5_init_276 : decode cX5_init 276 = .ok (.iastore, 1) := by decide +kernel
theorem dX5_init_277 : decode cX5_init 277 = .ok (.dup, 1) := by decide +kernel
theorem dX5_init_278 : decode cX5_init 278 = .ok (.bipush 34, 2) := by decide +kernel
theorem dX5_init_280 : decode cX5_init 280 = .ok (.bipush 101, 2) := by decide +kernel
theorem dX5_init_282 : decode cX5_init 282 = .ok (.iastore, 1) := by decide +kernel
theorem dX5_init_283 : decode cX5_init 283 = .ok (.dup, 1) := by decide +kernel
theorem dX5_init_284 : decode cX5_init 284 = .ok (.bipush 35, 2) := by decide +kernel
theorem dX5_init_286 : decode cX5_init 286 = .ok (.iconst 0, 1) := by decide +kernel
theorem dX5_init_287 : decode cX5_init 287 = .ok (.iastore, 1) := by decide +kernel
theorem dX5_init_288 : decode cX5_init 288 = .ok (.dup, 1) := by decide +kernel
theorem dX5_init_289 : decode cX5_init 289 = .ok (.bipush 36, 2) := by decide +kernel
theorem dX5_init_291 : decode cX5_init 291 = .ok (.bipush 98, 2) := by decide +kernel
theorem dX5_init_293 : decode cX5_init 293 = .ok (.iastore, 1) := by decide +kernel
theorem dX5_init_294 : decode cX5_init 294 = .ok (.dup, 1) := by decide +kernel
theorem dX5_init_295 : decode cX5_init 295 = .ok (.bipush 37, 2) := by decide +kernel
theorem dX5_init_297 : decode cX5_init 297 = .ok (.bipush 97, 2) := by decide +kernel
theorem dX5_init_299 : decode cX5_init 299 = .ok (.iastore, 1) := by decide +kernel
theorem dX5_init_300 : decode cX5_init 300 = .ok (.dup, 1) := by decide +kernel
theorem dX5_init_301 : decode cX5_init 301 = .ok (.bipush 38, 2) := by decide +kernel
theorem dX5_init_303 : decode cX5_init 303 = .ok (.bipush 114, 2) := by decide +kernel
theorem dX5_init_305 : decode cX5_init 305 = .ok (.iastore, 1) := by decide +kernel
theorem dX5_init_306 : decode cX5_init 306 = .ok (.dup, 1) := by decide +kernel
theorem dX5_init_307 : decode cX5_init 307 = .ok (.bipush 39, 2) := by decide +kernel
theorem dX5_init_309 : decode cX5_init 309 = .ok (.iconst 0, 1) := by decide +kernel
theorem dX5_init_310 : decode cX5_init 310 = .ok (.iastore, 1) := by decide +kernel
theorem dX5_init_311 : decode cX5_init 311 = .ok (.dup, 1) := by decide +kernel
theorem dX5_init_312 : decode cX5_init 312 = .ok (.bipush 40, 2) := by decide +kernel
theorem dX5_init_314 : decode cX5_init 314 = .ok (.iconst 0, 1) := by decide +kernel
theorem dX5_init_315 : decode cX5_init 315 = .ok (.iastore, 1) := by decide +kernel
theorem dX5_init_316 : decode cX5_init 316 = .ok (.dup, 1) := by decide +kernel
theorem dX5_init_317 : decode cX5_init 317 = .ok (.bipush 41, 2) := by decide +kernel
theorem dX5_init_319 : decode cX5_init 319 = .ok (.iconst 0, 1) := by decide +kernel
theorem dX5_init_320 : decode cX5_init 320 = .ok (.iastore, 1) := by decide +kernel
theorem dX5_init_321 : decode cX5_init 321 = .ok (.dup, 1) := by decide +kernel
theorem dX5_init_322 : decode cX5_init 322 = .ok (.bipush 42, 2) := by decide +kernel
theorem dX5_init_324 : decode cX5_init 324 = .ok (.bipush 97, 2) := by decide +kernel
theorem dX5_init_326 : decode cX5_init 326 = .ok (.iastore, 1) := by decide +kernel
theorem dX5_init_327 : decode cX5_init 327 = .ok (.dup, 1) := by decide +kernel
theorem dX5_init_328 : decode cX5_init 328 = .ok (.bipush 43, 2) := by decide +kernel
theorem dX5_init_330 : decode cX5_init 330 = .ok (.bipush 119, 2) := by decide +kernel
theorem dX5_init_332 : decode cX5_init 332 = .ok (.iastore, 1) := by decide +kernel
theorem dX5_init_333 : decode cX5_init 333 = .ok (.dup, 1) := by decide +kernel
theorem dX5_init_334 : decode cX5_init 334 = .ok (.bipush 44, 2) := by decide +kernel
theorem dX5_init_336 : decode cX5_init 336 = .ok (.bipush 97, 2) := by decide +kernel
theorem dX5_init_338 : decode cX5_init 338 = .ok (.iastore, 1) := by decide +kernel
theorem dX5_init_339 : decode cX5_init 339 = .ok (.dup, 1) := by decide +kernel
theorem dX5_init_340 : decode cX5_init 340 = .ok (.bipush 45, 2) := by decide +kernel
theorem dX5_init_342 : decode cX5_init 342 = .ok (.bipush 121, 2) := by decide +kernel
theorem dX5_init_344 : decode cX5_init 344 = .ok (.iastore, 1) := by decide +kernel
theorem dX5_init_345 : decode cX5_init 345 = .ok (.dup, 1) := by decide +kernel
theorem dX5_init_346 : decode cX5_init 346 = .ok (.bipush 46, 2) := by decide +kernel
theorem dX5_init_348 : decode cX5_init 348 = .ok (.iconst 0, 1) := by decide +kernel
theorem dX5_init_349 : decode cX5_init 349 = .ok (.iastore, 1) := by decide +kernel
theorem dX5_init_350 : decode cX5_init 350 = .ok (.dup, 1) := by decide +kernel
theorem dX5_init_351 : decode cX5_init 351 = .ok (.bipush 47, 2) := by decide +kernel
theorem dX5_init_353 : decode cX5_init 353 = .ok (.iconst 0, 1) := by decide +kernel
theorem dX5_init_354 : decode cX5_init 354 = .ok (.iastore, 1) := by decide +kernel
theorem dX5_init_355 : decode cX5_init 355 = .ok (.dup, 1) := by decide +kernel
theorem dX5_init_356 : decode cX5_init 356 = .ok (.bipush 48, 2) := by decide +kernel
theorem dX5_init_358 : decode cX5_init 358 = .ok (.bipush 114, 2) := by decide +kernel
theorem dX5_init_360 : decode cX5_init 360 = .ok (.iastore, 1) := by decide +kernel
theorem dX5_init_361 : decode cX5_init 361 = .ok (.dup, 1) := by decide +kernel
theorem dX5_init_362 : decode cX5_init 362 = .ok (.bipush 49, 2) := by decide +kernel
theorem dX5_init_364 : decode cX5_init 364 = .ok (.bipush 117, 2) := by decide +kernel
theorem dX5_init_366 : decode cX5_init 366 = .ok (.iastore, 1) := by decide +kernel
theorem dX5_init_367 : decode cX5_init 367 = .ok (.dup, 1) := by decide +kernel
theorem dX5_init_368 : decode cX5_init 368 = .ok (.bipush 50, 2) := by decide +kernel
theorem dX5_init_370 : decode cX5_init 370 = .ok (.bipush 108, 2) := by decide +kernel
theorem dX5_init_372 : decode cX5_init 372 = .ok (.iastore, 1) := by decide +kernel
theorem dX5_init_373 : decode cX5_init 373 = .ok (.dup, 1) := by decide +kernel
theorem dX5_init_374 : decode cX5_init 374 = .ok (.bipush 51, 2) := by decide +kernel
theorem dX5_init_376 : decode cX5_init 376 = .ok (.bipush 101, 2) := by decide +kernel
theorem dX5_init_378 : decode cX5_init 378 = .ok (.iastore, 1) := by decide +kernel
theorem dX5_init_379 : decode cX5_init 379 = .ok (.dup, 1) := by decide +kernel
theorem dX5_init_380 : decode cX5_init 380 = .ok (.bipush 52, 2) := by decide +kernel
theorem dX5_init_382 : decode cX5_init 382 = .ok (.iconst 0, 1) := by decide +kernel
theorem dX5_init_383 : decode cX5_init 383 = .ok (.iastore, 1) := by decide +kernel
theorem dX5_init_384 : decode cX5_init 384 = .ok (.dup, 1) := by decide +kernel
theorem dX5_init_385 : decode cX5_init 385 = .ok (.bipush 53, 2) := by decide +kernel
theorem dX5_init_387 : decode cX5_init 387 = .ok (.iconst 0, 1) := by decide +kernel
theorem dX5_init_388 : decode cX5_init 388 = .ok (.iastore, 1) := by decide +kernel
theorem dX5_init_389 : decode cX5_init 389 = .ok (.putfield 35, 3) := by decide +kernel
theorem dX5_init_392 : decode cX5_init 392 = .ok (.aload_n 0, 1) := by decide +kernel
theorem dX5_init_393 : decode cX5_init 393 = .ok (.sipush 140, 3) := by decide +kernel
theorem dX5_init_396 : decode cX5_init 396 = .ok (.newarray .int, 2) := by decide +kernel
theorem dX5_init_398 : decode cX5_init 398 = .ok (.putfield 38, 3) := by decide +kernel
theorem dX5_init_401 : decode cX5_init 401 = .ok (.aload_n 0, 1) := by decide +kernel
theorem dX5_init_402 : decode cX5_init 402 = .ok (.invokevirtual 41, 3) := by decide +kernel
theorem dX5_init_405 : decode cX5_init 405 = .ok (.aload_n 0, 1) := by decide +kernel
theorem dX5_init_406 : decode cX5_init 406 = .ok (.getfield 7, 3) := by decide +kernel
theorem dX5_init_409 : decode cX5_init 409 = .ok (.iconst 0, 1) := by decide +kernel
theorem dX5_init_410 : decode cX5_init 410 = .ok (.iconst 1, 1) := by decide +kernel
theorem dX5_init_411 : decode cX5_init 411 = .ok (.iastore, 1) := by decide +kernel
theorem dX5_init_412 : decode cX5_init 412 = .ok (.aload_n 0, 1) := by decide +kernel
theorem dX5_init_413 : decode cX5_init 413 = .ok (.getfield 7, 3) := by decide +kernel
theorem dX5_init_416 : decode cX5_init 416 = .ok (.iconst 1, 1) := by decide +kernel
theorem dX5_init_417 : decode cX5_init 417 = .ok (.iconst 1, 1) := by decide +kernel
theorem dX5_init_418 : decode cX5_init 418 = .ok (.iastore, 1) := by decide +kernel
theorem dX5_init_419 : decode cX5_init 419 = .ok (.aload_n 0, 1) := by decide +kernel
theorem dX5_init_420 : decode cX5_init 420 = .ok (.iconst 0, 1) := by decide +kernel
theorem dX5_init_421 : decode cX5_init 421 = .ok (.sipush 847, 3) := by decide +kernel
theorem dX5_init_424 : decode cX5_init 424 = .ok (.invokevirtual 44, 3) := by decide +kernel
theorem dX5_init_427 : decode cX5_init 427 = .ok (.return_, 1) := by decide +kernel
theorem dX5_insert_0 : decode cX5_insert 0 = .ok (.iload_n 1, 1) := by decide +kernel
theorem dX5_insert_1 : decode cX5_insert 1 = .ok (.invokestatic 210, 3) := by decide +kernel
theorem dX5_insert_4 : decode cX5_insert 4 = .ok (.ifCond .ne 6, 3) := by decide +kernel
theorem dX5_insert_7 : decode cX5_insert 7 = .ok (.bipush (-2), 2) := by decide +kernel
theorem dX5_insert_9 : decode cX5_insert 9 = .ok (.ireturn, 1) := by decide +kernel
theorem dX5_insert_10 : decode cX5_insert 10 = .ok (.iload_n 3, 1) := by decide +kernel
theorem dX5_insert_11 : decode cX5_insert 11 = .ok (.invokestatic 78, 3) := by decide +kernel
theorem dX5_insert_14 : decode cX5_insert 14 = .ok (.ifCond .ne 19, 3) := by decide +kernel
theorem dX5_insert_17 : decode cX5_insert 17 = .ok (.iload_n 3, 1) := by decide +kernel
theorem dX5_insert_18 : decode cX5_insert 18 = .ok (.invokestatic 82, 3) := by decide +kernel
theorem dX5_insert_21 : decode cX5_insert 21 = .ok (.ifCond .ne 12, 3) := by decide +kernel
theorem dX5_insert_24 : decode cX5_insert 24 = .ok (.iload_n 3, 1) := by decide +kernel
theorem dX5_insert_25 : decode cX5_insert 25 = .ok (.bipush 46, 2) := by decide +kernel
theorem dX5_insert_27 : decode cX5_insert 27 = .ok (.if_icmp .eq 6, 3) := by decide +kernel
theorem dX5_insert_30 : decode cX5_insert 30 = .ok (.bipush (-3), 2) := by decide +kernel
theorem dX5_insert_32 : decode cX5_insert 32 = .ok (.ireturn, 1) := by decide +kernel
theorem dX5_insert_33 : decode cX5_insert 33 = .ok (.aload_n 0, 1) := by decide +kernel
theorem dX5_insert_34 : decode cX5_insert 34 = .ok (.getfield 26, 3) := by decide +kernel
theorem dX5_insert_37 : decode cX5_insert 37 = .ok (.iload_n 1, 1) := by decide +kernel
theorem dX5_insert_38 : decode cX5_insert 38 = .ok (.iaload, 1) := by decide +kernel
theorem dX5_insert_39 : decode cX5_insert 39 = .ok (.ifCond .ge 6, 3) := by decide +kernel
theorem dX5_insert_42 : decode cX5_insert 42 = .ok (.bipush (-11), 2) := by decide +kernel
theorem dX5_insert_44 : decode cX5_insert 44 = .ok (.ireturn, 1) := by decide +kernel
theorem dX5_insert_45 : decode cX5_insert 45 = .ok (.iload_n 2, 1) := by decide +kernel
theorem dX5_insert_46 : decode cX5_insert 46 = .ok (.i2l, 1) := by decide +kernel
theorem dX5_insert_47 : decode cX5_insert 47 = .ok (.lconst 0, 1) := by decide +kernel
theorem dX5_insert_48 : decode cX5_insert 48 = .ok (.aload_n 0, 1) := by decide +kernel
theorem dX5_insert_49 : decode cX5_insert 49 = .ok (.getfield 26, 3) := by decide +kernel
theorem dX5_insert_52 : decode cX5_insert 52 = .ok (.iload_n 1, 1) := by decide +kernel
theorem dX5_insert_53 : decode cX5_insert 53 = .ok (.iaload, 1) := by decide +kernel
theorem dX5_insert_54 : decode cX5_insert 54 = .ok (.i2l, 1) := by decide +kernel
theorem dX5_insert_55 : decode cX5_insert 55 = .ok (.invokestatic 57, 3) := by decide +kernel
theorem dX5_insert_58 : decode cX5_insert 58 = .ok (.ifCond .ne 6, 3) := by decide +kernel
theorem dX5_insert_61 : decode cX5_insert 61 = .ok (.bipush (-12), 2) := by decide +kernel
theorem dX5_insert_63 : decode cX5_insert 63 = .ok (.ireturn, 1) := by decide +kernel
theorem dX5_insert_64 : decode cX5_insert 64 = .ok (.aload_n 0, 1) := by decide +kernel
theorem dX5_insert_65 : decode cX5_insert 65 = .ok (.getfield 26, 3) := by decide +kernel
theorem dX5_insert_68 : decode cX5_insert 68 = .ok (.iload_n 1, 1) := by decide +kernel
theorem dX5_insert_69 : decode cX5_insert 69 = .ok (.iaload, 1) := by decide +kernel
theorem dX5_insert_70 : decode cX5_insert 70 = .ok (.bipush 40, 2) := by decide +kernel
theorem dX5_insert_72 : decode cX5_insert 72 = .ok (.if_icmp .ne 6, 3) := by decide +kernel
theorem dX5_insert_75 : decode cX5_insert 75 = .ok (.bipush (-13), 2) := by decide +kernel
theorem dX5_insert_77 : decode cX5_insert 77 = .ok (.ireturn, 1) := by decide +kernel
theorem dX5_insert_78 : decode cX5_insert 78 = .ok (.aload_n 0, 1) := by decide +kernel
theorem dX5_insert_79 : decode cX5_insert 79 = .ok (.getfield 26, 3) := by decide +kernel
theorem dX5_insert_82 : decode cX5_insert 82 = .ok (.iload_n 1, 1) := by decide +kernel
theorem dX5_insert_83 : decode cX5_insert 83 = .ok (.iaload, 1) := by decide +kernel
theorem dX5_insert_84 : decode cX5_insert 84 = .ok (.istore 4, 2) := by decide +kernel
theorem dX5_insert_86 : decode cX5_insert 86 = .ok (.iload 4, 2) := by decide +kernel
theorem dX5_insert_88 : decode cX5_insert 88 = .ok (.iload_n 2, 1) := by decide +kernel
theorem dX5_insert_89 : decode cX5_insert 89 = .ok (.if_icmp .le 35, 3) := by decide +kernel
theorem dX5_insert_92 : decode cX5_insert 92 = .ok (.aload_n 0, 1) := by decide +kernel
theorem dX5_insert_93 : decode cX5_insert 93 = .ok (.getfield 29, 3) := by decide +kernel
theorem dX5_insert_96 : decode cX5_insert 96 = .ok (.bipush 40, 2) := by decide +kernel
theorem dX5_insert_98 : decode cX5_insert 98 = .ok (.iload_n 1, 1) := by decide +kernel
theorem dX5_insert_99 : decode cX5_insert 99 = .ok (.imul, 1) := by decide +kernel
theorem dX5_insert_100 : decode cX5_insert 100 = .ok (.iload 4, 2) := by decide +kernel
theorem dX5_insert_102 : decode cX5_insert 102 = .ok (.iadd, 1) := by decide +kernel
theorem dX5_insert_103 : decode cX5_insert 103 = .ok (.aload_n 0, 1) := by decide +kernel
theorem dX5_insert_104 : decode cX5_insert 104 = .ok (.getfield 29, 3) := by decide +kernel
theorem dX5_insert_107 : decode cX5_insert 107 = .ok (.bipush 40, 2) := by decide +kernel
theorem dX5_insert_109 : decode cX5_insert 109 = .ok (.iload_n 1, 1) := by decide +kernel
theorem dX5_insert_110 : decode cX5_insert 110 = .ok (.imul, 1) := by decide +kernel
theorem dX5_insert_111 : decode cX5_insert 111 = .ok (.iload 4, 2) := by decide +kernel
theorem dX5_insert_113 : decode cX5_insert 113 = .ok (.iadd, 1) := by decide +kernel
theorem dX5_insert_114 : decode cX5_insert 114 = .ok (.iconst 1, 1) := by decide +kernel
theorem dX5_insert_115 : decode cX5_insert 115 = .ok (.isub, 1) := by decide +kernel
theorem dX5_insert_116 : decode cX5_insert 116 = .ok (.iaload, 1) := by decide +kernel
theorem dX5_insert_117 : decode cX5_insert 117 = .ok (.iastore, 1) := by decide +kernel
theorem dX5_insert_118 : decode cX5_insert 118 = .ok (.iinc 4 (-1), 3) := by decide +kernel
theorem dX5_insert_121 : decode cX5_insert 121 = .ok (.goto (-35), 3) := by decide +kernel
theorem dX5_insert_124 : decode cX5_insert 124 = .ok (.aload_n 0, 1) := by decide +kernel
theorem dX5_insert_125 : decode cX5_insert 125 = .ok (.getfield 29, 3) := by decide +kernel
theorem dX5_insert_128 : decode cX5_insert 128 = .ok (.bipush 40, 2) := by decide +kernel
theorem dX5_insert_130 : decode cX5_insert 130 = .ok (.iload_n 1, 1) := by decide +kernel
theorem dX5_insert_131 : decode cX5_insert 131 = .ok (.imul, 1) := by decide +kernel
theorem dX5_insert_132 : decode cX5_insert 132 = .ok (.iload_n 2, 1) := by decide +kernel
theorem dX5_insert_133 : decode cX5_insert 133 = .ok (.iadd, 1) := by decide +kernel
theorem dX5_insert_134 : decode cX5_insert 134 = .ok (.iload_n 3, 1) := by decide +kernel
theorem dX5_insert_135 : decode cX5_insert 135 = .ok (.iastore, 1) := by decide +kernel
theorem dX5_insert_136 : decode cX5_insert 136 = .ok (.aload_n 0, 1) := by decide +kernel
theorem dX5_insert_137 : decode cX5_insert 137 = .ok (.getfield 26, 3) := by decide +kernel
theorem dX5_insert_140 : decode cX5_insert 140 = .ok (.iload_n 1, 1) := by decide +kernel
theorem dX5_insert_141 : decode cX5_insert 141 = .ok (.dup2, 1) := by decide +kernel
theorem dX5_insert_142 : decode cX5_insert 142 = .ok (.iaload, 1) := by decide +kernel
theorem dX5_insert_143 : decode cX5_insert 143 = .ok (.iconst 1, 1) := by decide +kernel
theorem dX5_insert_144 : decode cX5_insert 144 = .ok (.iadd, 1) := by decide +kernel
theorem dX5_insert_145 : decode cX5_insert 145 = .ok (.iastore, 1) := by decide +kernel
theorem dX5_insert_146 : decode cX5_insert 146 = .ok (.aload_n 0, 1) := by decide +kernel
theorem dX5_insert_147 : decode cX5_insert 147 = .ok (.getfield 26, 3) := by decide +kernel
theorem dX5_insert_150 : decode cX5_insert 150 = .ok (.iload_n 1, 1) := by decide +kernel
theorem dX5_insert_151 : decode cX5_insert 151 = .ok (.iaload, 1) := by decide +kernel
theorem dX5_insert_152 : decode cX5_insert 152 = .ok (.ireturn, 1) := by decide +kernel
theorem dX5_isAnyone_0 : decode cX5_isAnyone 0 = .ok (.iconst 0, 1) := by decide +kernel
theorem dX5_isAnyone_1 : decode cX5_isAnyone 1 = .ok (.istore 4, 2) := by decide +kernel
theorem dX5_isAnyone_3 : decode cX5_isAnyone 3 = .ok (.iconst 0, 1) := by decide +kernel
theorem dX5_isAnyone_4 : decode cX5_isAnyone 4 = .ok (.istore 5, 2) := by decide +kernel
theorem dX5_isAnyone_6 : decode cX5_isAnyone 6 = .ok (.iload 5, 2) := by decide +kernel
theorem dX5_isAnyone_8 : decode cX5_isAnyone 8 = .ok (.aload_n 0, 1) := by decide +kernel
theorem dX5_isAnyone_9 : decode cX5_isAnyone 9 = .ok (.getfield 48, 3) := by decide +kernel
theorem dX5_isAnyone_12 : decode cX5_isAnyone 12 = .ok (.if_icmp .ge 54, 3) := by decide +kernel
theorem dX5_isAnyone_15 : decode cX5_isAnyone 15 = .ok (.iload 4, 2) := by decide +kernel
theorem dX5_isAnyone_17 : decode cX5_isAnyone 17 = .ok (.ifCond .ne 36, 3) := by decide +kernel
theorem dX5_isAnyone_20 : decode cX5_isAnyone 20 = .ok (.iload 5, 2) := by decide +kernel
theorem dX5_isAnyone_22 : decode cX5_isAnyone 22 = .ok (.iload_n 3, 1) := by decide +kernel
theorem dX5_isAnyone_23 : decode cX5_isAnyone 23 = .ok (.if_icmp .eq 34, 3) := by decide +kernel
theorem dX5_isAnyone_26 : decode cX5_isAnyone 26 = .ok (.aload_n 0, 1) := by decide +kernel
theorem dX5_isAnyone_27 : decode cX5_isAnyone 27 = .ok (.getfield 7, 3) := by decide +kernel
theorem dX5_isAnyone_30 : decode cX5_isAnyone 30 = .ok (.iload_n 1, 1) := by decide +kernel
theorem dX5_isAnyone_31 : decode cX5_isAnyone 31 = .ok (.iconst 4, 1) := by decide +kernel
theorem dX5_isAnyone_32 : decode cX5_isAnyone 32 = .ok (.iadd, 1) := by decide +kernel
theorem dX5_isAnyone_33 : decode cX5_isAnyone 33 = .ok (.iaload, 1) := by decide +kernel
theorem dX5_isAnyone_34 : decode cX5_isAnyone 34 = .ok (.iload 5, 2) := by decide +kernel
theorem dX5_isAnyone_36 : decode cX5_isAnyone 36 = .ok (.invokestatic 93, 3) := by decide +kernel
theorem dX5_isAnyone_39 : decode cX5_isAnyone 39 = .ok (.ifCond .ne 18, 3) := by decide +kernel
theorem dX5_isAnyone_42 : decode cX5_isAnyone 42 = .ok (.aload_n 0, 1) := by decide +kernel
theorem dX5_isAnyone_43 : decode cX5_isAnyone 43 = .ok (.iload_n 1, 1) := by decide +kernel
theorem dX5_isAnyone_44 : decode cX5_isAnyone 44 = .ok (.iload 5, 2) := by decide +kernel
theorem dX5_isAnyone_46 : decode cX5_isAnyone 46 = .ok (.iload_n 2, 1) := by decide +kernel
theorem dX5_isAnyone_47 : decode cX5_isAnyone 47 = .ok (.invokevirtual 152, 3) := by decide +kernel
theorem dX5_isAnyone_50 : decode cX5_isAnyone 50 = .ok (.ifCond .ne 7, 3) := by decide +kernel
theorem dX5_isAnyone_53 : decode cX5_isAnyone 53 = .ok (.iconst 1, 1) := by decide +kernel
theorem dX5_isAnyone_54 : decode cX5_isAnyone 54 = .ok (.goto 4, 3) := by decide +kernel
theorem dX5_isAnyone_57 : decode cX5_isAnyone 57 = .ok (.iconst 0, 1) := by decide +kernel
theorem dX5_isAnyone_58 : decode cX5_isAnyone 58 = .ok (.istore 4, 2) := by decide +kernel
theorem dX5_isAnyone_60 : decode cX5_isAnyone 60 = .ok (.iinc 5 1, 3) := by decide +kernel
theorem dX5_isAnyone_63 : decode cX5_isAnyone 63 = .ok (.goto (-57), 3) := by decide +kernel
theorem dX5_isAnyone_66 : decode cX5_isAnyone 66 = .ok (.iload 4, 2) := by decide +kernel
theorem dX5_isAnyone_68 : decode cX5_isAnyone 68 = .ok (.ireturn, 1) := by decide +kernel
theorem dX5_isBarred_0 : decode cX5_isBarred 0 = .ok (.aload_n 0, 1) := by decide +kernel
theorem dX5_isBarred_1 : decode cX5_isBarred 1 = .ok (.getfield 7, 3) := by decide +kernel
theorem dX5_isBarred_4 : decode cX5_isBarred 4 = .ok (.iload_n 1, 1) := by decide +kernel
theorem dX5_isBarred_5 : decode cX5_isBarred 5 = .ok (.iconst 5, 1) := by decide +kernel
theorem dX5_isBarred_6 : decode cX5_isBarred 6 = .ok (.iadd, 1) := by decide +kernel
theorem dX5_isBarred_7 : decode cX5_isBarred 7 = .ok (.iload_n 2, 1) := by decide +kernel
theorem dX5_isBarred_8 : decode cX5_isBarred 8 = .ok (.iadd, 1) := by decide +kernel
theorem dX5_isBarred_9 : decode cX5_isBarred 9 = .ok (.iaload, 1) := by decide +kernel
theorem dX5_isBarred_10 : decode cX5_isBarred 10 = .ok (.iload_n 3, 1) := by decide +kernel
theorem dX5_isBarred_11 : decode cX5_isBarred 11 = .ok (.invokestatic 93, 3) := by decide +kernel
theorem dX5_isBarred_14 : decode cX5_isBarred 14 = .ok (.ireturn, 1) := by decide +kernel
theorem dX5_isCase_0 : decode cX5_isCase 0 = .ok (.iload_n 1, 1) := by decide +kernel
theorem dX5_isCase_1 : decode cX5_isCase 1 = .ok (.i2l, 1) := by decide +kernel
theorem dX5_isCase_2 : decode cX5_isCase 2 = .ok (.lconst 0, 1) := by decide +kernel
theorem dX5_isCase_3 : decode cX5_isCase 3 = .ok (.aload_n 0, 1) := by decide +kernel
theorem dX5_isCase_4 : decode cX5_isCase 4 = .ok (.getfield 7, 3) := by decide +kernel
theorem dX5_isCase_7 : decode cX5_isCase 7 = .ok (.iconst 3, 1) := by decide +kernel
theorem dX5_isCase_8 : decode cX5_isCase 8 = .ok (.iaload, 1) := by decide +kernel
theorem dX5_isCase_9 : decode cX5_isCase 9 = .ok (.iconst 1, 1) := by decide +kernel
theorem dX5_isCase_10 : decode cX5_isCase 10 = .ok (.isub, 1) := by decide +kernel
theorem dX5_isCase_11 : decode cX5_isCase 11 = .ok (.i2l, 1) := by decide +kernel
theorem dX5_isCase_12 : decode cX5_isCase 12 = .ok (.invokestatic 57, 3) := by decide +kernel
theorem dX5_isCase_15 : decode cX5_isCase 15 = .ok (.ireturn, 1) := by decide +kernel
theorem dX5_isDigit_0 : decode cX5_isDigit 0 = .ok (.iload_n 0, 1) := by decide +kernel
theorem dX5_isDigit_1 : decode cX5_isDigit 1 = .ok (.i2l, 1) := by decide +kernel
theorem dX5_isDigit_2 : decode cX5_isDigit 2 = .ok (.ldc2_w 68, 3) := by decide +kernel
theorem dX5_isDigit_5 : decode cX5_isDigit 5 = .ok (.ldc2_w 70, 3) := by decide +kernel
theorem dX5_isDigit_8 : decode cX5_isDigit 8 = .ok (.invokestatic 57, 3) := by decide +kernel
theorem dX5_isDigit_11 : decode cX5_isDigit 11 = .ok (.ireturn, 1) := by decide +kernel
theorem dX5_isJudge_0 : decode cX5_isJudge 0 = .ok (.iload_n 1, 1) := by decide +kernel
theorem dX5_isJudge_1 : decode cX5_isJudge 1 = .ok (.i2l, 1) := by decide +kernel
theorem dX5_isJudge_2 : decode cX5_isJudge 2 = .ok (.lconst 0, 1) := by decide +kernel
theorem dX5_isJudge_3 : decode cX5_isJudge 3 = .ok (.aload_n 0, 1) := by decide +kernel
theorem dX5_isJudge_4 : decode cX5_isJudge 4 = .ok (.getfield 48, 3) := by decide +kernel
theorem dX5_isJudge_7 : decode cX5_isJudge 7 = .ok (.iconst 1, 1) := by decide +kernel
theorem dX5_isJudge_8 : decode cX5_isJudge 8 = .ok (.isub, 1) := by decide +kernel
theorem dX5_isJudge_9 : decode cX5_isJudge 9 = .ok (.i2l, 1) := by decide +kernel
theorem dX5_isJudge_10 : decode cX5_isJudge 10 = .ok (.invokestatic 57, 3) := by decide +kernel
theorem dX5_isJudge_13 : decode cX5_isJudge 13 = .ok (.ireturn, 1) := by decide +kernel
theorem dX5_isParty_0 : decode cX5_isParty 0 = .ok (.iload_n 0, 1) := by decide +kernel
theorem dX5_isParty_1 : decode cX5_isParty 1 = .ok (.i2l, 1) := by decide +kernel
theorem dX5_isParty_2 : decode cX5_isParty 2 = .ok (.lconst 0, 1) := by decide +kernel
theorem dX5_isParty_3 : decode cX5_isParty 3 = .ok (.ldc2_w 171, 3) := by decide +kernel
theorem dX5_isParty_6 : decode cX5_isParty 6 = .ok (.invokestatic 57, 3) := by decide +kernel
theorem dX5_isParty_9 : decode cX5_isParty 9 = .ok (.ireturn, 1) := by decide +kernel
theorem dX5_isSlip_0 : decode cX5_isSlip 0 = .ok (.iload_n 0, 1) := by decide +kernel
theorem dX5_isSlip_1 : decode cX5_isSlip 1 = .ok (.i2l, 1) := by decide +kernel
theorem dX5_isSlip_2 : decode cX5_isSlip 2 = .ok (.lconst 0, 1) := by decide +kernel
theorem dX5_isSlip_3 : decode cX5_isSlip 3 = .ok (.ldc2_w 208, 3) := by decide +kernel
theorem dX5_isSlip_6 : decode cX5_isSlip 6 = .ok (.invokestatic 57, 3) := by decide +kernel
theorem dX5_isSlip_9 : decode cX5_isSlip 9 = .ok (.ireturn, 1) := by decide +kernel
theorem dX5_isSmall_0 : decode cX5_isSmall 0 = .ok (.iload_n 0, 1) := by decide +kernel
theorem dX5_isSmall_1 : decode cX5_isSmall 1 = .ok (.i2l, 1) := by decide +kernel
theorem dX5_isSmall_2 : decode cX5_isSmall 2 = .ok (.ldc2_w 64, 3) := by decide +kernel
theorem dX5_isSmall_5 : decode cX5_isSmall 5 = .ok (.ldc2_w 66, 3) := by decide +kernel
theorem dX5_isSmall_8 : decode cX5_isSmall 8 = .ok (.invokestatic 57, 3) := by decide +kernel
theorem dX5_isSmall_11 : decode cX5_isSmall 11 = .ok (.ireturn, 1) := by decide +kernel
theorem dX5_isSubject_0 : decode cX5_isSubject 0 = .ok (.iload_n 0, 1) := by decide +kernel
theorem dX5_isSubject_1 : decode cX5_isSubject 1 = .ok (.i2l, 1) := by decide +kernel
theorem dX5_isSubject_2 : decode cX5_isSubject 2 = .ok (.lconst 0, 1) := by decide +kernel
theorem dX5_isSubject_3 : decode cX5_isSubject 3 = .ok (.ldc2_w 91, 3) := by decide +kernel
theorem dX5_isSubject_6 : decode cX5_isSubject 6 = .ok (.invokestatic 57, 3) := by decide +kernel
theorem dX5_isSubject_9 : decode cX5_isSubject 9 = .ok (.ireturn, 1) := by decide +kernel
theorem dX5_isWord_0 : decode cX5_isWord 0 = .ok (.aload_n 0, 1) := by decide +kernel
theorem dX5_isWord_1 : decode cX5_isWord 1 = .ok (.getfield 72, 3) := by decide +kernel
theorem dX5_isWord_4 : decode cX5_isWord 4 = .ok (.aload_n 0, 1) := by decide +kernel
theorem dX5_isWord_5 : decode cX5_isWord 5 = .ok (.getfield 75, 3) := by decide +kernel
theorem dX5_isWord_8 : decode cX5_isWord 8 = .ok (.if_icmp .le 21, 3) := by decide +kernel
theorem dX5_isWord_11 : decode cX5_isWord 11 = .ok (.aload_n 0, 1) := by decide +kernel
theorem dX5_isWord_12 : decode cX5_isWord 12 = .ok (.getfield 72, 3) := by decide +kernel
theorem dX5_isWord_15 : decode cX5_isWord 15 = .ok (.aload_n 0, 1) := by decide +kernel
theorem dX5_isWord_16 : decode cX5_isWord 16 = .ok (.getfield 75, 3) := by decide +kernel
theorem dX5_isWord_19 : decode cX5_isWord 19 = .ok (.isub, 1) := by decide +kernel
theorem dX5_isWord_20 : decode cX5_isWord 20 = .ok (.bipush 7, 2) := by decide +kernel
theorem dX5_isWord_22 : decode cX5_isWord 22 = .ok (.if_icmp .ge 7, 3) := by decide +kernel
theorem dX5_isWord_25 : decode cX5_isWord 25 = .ok (.iconst 1, 1) := by decide +kernel
theorem dX5_isWord_26 : decode cX5_isWord 26 = .ok (.goto 4, 3) := by decide +kernel
theorem dX5_isWord_29 : decode cX5_isWord 29 = .ok (.iconst 0, 1) := by decide +kernel
theorem dX5_isWord_30 : decode cX5_isWord 30 = .ok (.istore_n 2, 1) := by decide +kernel
theorem dX5_isWord_31 : decode cX5_isWord 31 = .ok (.iconst 0, 1) := by decide +kernel
theorem dX5_isWord_32 : decode cX5_isWord 32 = .ok (.istore_n 3, 1) := by decide +kernel
theorem dX5_isWord_33 : decode cX5_isWord 33 = .ok (.iload_n 3, 1) := by decide +kernel
theorem dX5_isWord_34 : decode cX5_isWord 34 = .ok (.bipush 6, 2) := by decide +kernel
theorem dX5_isWord_36 : decode cX5_isWord 36 = .ok (.if_icmp .ge 61, 3) := by decide +kernel
theorem dX5_isWord_39 : decode cX5_isWord 39 = .ok (.iload_n 2, 1) := by decide +kernel
theorem dX5_isWord_40 : decode cX5_isWord 40 = .ok (.ifCond .eq 57, 3) := by decide +kernel
theorem dX5_isWord_43 : decode cX5_isWord 43 = .ok (.aload_n 0, 1) := by decide +kernel
theorem dX5_isWord_44 : decode cX5_isWord 44 = .ok (.getfield 35, 3) := by decide +kernel
theorem dX5_isWord_47 : decode cX5_isWord 47 = .ok (.bipush 6, 2) := by decide +kernel
theorem dX5_isWord_49 : decode cX5_isWord 49 = .ok (.iload_n 1, 1) := by decide +kernel
theorem dX5_isWord_50 : decode cX5_isWord 50 = .ok (.imul, 1) := by decide +kernel
theorem dX5_isWord_51 : decode cX5_isWord 51 = .ok (.iload_n 3, 1) := by decide +kernel
theorem dX5_isWord_52 : decode cX5_isWord 52 = .ok (.iadd, 1) := by decide +kernel
theorem dX5_isWord_53 : decode cX5_isWord 53 = .ok (.iaload, 1) := by decide +kernel
theorem dX5_isWord_54 : decode cX5_isWord 54 = .ok (.aload_n 0, 1) := by decide +kernel
theorem dX5_isWord_55 : decode cX5_isWord 55 = .ok (.getfield 75, 3) := by decide +kernel
theorem dX5_isWord_58 : decode cX5_isWord 58 = .ok (.iload_n 3, 1) := by decide +kernel
theorem dX5_isWord_59 : decode cX5_isWord 59 = .ok (.iadd, 1) := by decide +kernel
theorem dX5_isWord_60 : decode cX5_isWord 60 = .ok (.aload_n 0, 1) := by decide +kernel
theorem dX5_isWord_61 : decode cX5_isWord 61 = .ok (.getfield 72, 3) := by decide +kernel
theorem dX5_isWord_64 : decode cX5_isWord 64 = .ok (.if_icmp .ge 17, 3) := by decide +kernel
theorem dX5_isWord_67 : decode cX5_isWord 67 = .ok (.aload_n 0, 1) := by decide +kernel
theorem dX5_isWord_68 : decode cX5_isWord 68 = .ok (.getfield 23, 3) := by decide +kernel
theorem dX5_isWord_71 : decode cX5_isWord 71 = .ok (.aload_n 0, 1) := by decide +kernel
theorem dX5_isWord_72 : decode cX5_isWord 72 = .ok (.getfield 75, 3) := by decide +kernel
theorem dX5_isWord_75 : decode cX5_isWord 75 = .ok (.iload_n 3, 1) := by decide +kernel
theorem dX5_isWord_76 : decode cX5_isWord 76 = .ok (.iadd, 1) := by decide +kernel
theorem dX5_isWord_77 : decode cX5_isWord 77 = .ok (.iaload, 1) := by decide +kernel
theorem dX5_isWord_78 : decode cX5_isWord 78 = .ok (.goto 4, 3) := by decide +kernel
theorem dX5_isWord_81 : decode cX5_isWord 81 = .ok (.iconst 0, 1) := by decide +kernel
theorem dX5_isWord_82 : decode cX5_isWord 82 = .ok (.if_icmp .ne 7, 3) := by decide +kernel
theorem dX5_isWord_85 : decode cX5_isWord 85 = .ok (.iconst 1, 1) := by decide +kernel
theorem dX5_isWord_86 : decode cX5_isWord 86 = .ok (.goto 4, 3) := by decide +kernel
theorem dX5_isWord_89 : decode cX5_isWord 89 = .ok (.iconst 0, 1) := by decide +kernel
theorem dX5_isWord_90 : decode cX5_isWord 90 = .ok (.istore_n 2, 1) := by decide +kernel
theorem dX5_isWord_91 : decode cX5_isWord 91 = .ok (.iinc 3 1, 3) := by decide +kernel
theorem dX5_isWord_94 : decode cX5_isWord 94 = .ok (.goto (-61), 3) := by decide +kernel
theorem dX5_isWord_97 : decode cX5_isWord 97 = .ok (.iload_n 2, 1) := by decide +kernel
theorem dX5_isWord_98 : decode cX5_isWord 98 = .ok (.ireturn, 1) := by decide +kernel
theorem dX5_join_0 : decode cX5_join 0 = .ok (.iload_n 1, 1) := by decide +kernel
theorem dX5_join_1 : decode cX5_join 1 = .ok (.invokestatic 210, 3) := by decide +kernel
theorem dX5_join_4 : decode cX5_join 4 = .ok (.ifCond .eq 10, 3) := by decide +kernel
theorem dX5_join_7 : decode cX5_join 7 = .ok (.iload_n 2, 1) := by decide +kernel
theorem dX5_join_8 : decode cX5_join 8 = .ok (.invokestatic 210, 3) := by decide +kernel
theorem dX5_join_11 : decode cX5_join 11 = .ok (.ifCond .ne 6, 3) := by decide +kernel
theorem dX5_join_14 : decode cX5_join 14 = .ok (.bipush (-2), 2) := by decide +kernel
theorem dX5_join_16 : decode cX5_join 16 = .ok (.ireturn, 1) := by decide +kernel
theorem dX5_join_17 : decode cX5_join 17 = .ok (.aload_n 0, 1) := by decide +kernel
theorem dX5_join_18 : decode cX5_join 18 = .ok (.getfield 26, 3) := by decide +kernel
theorem dX5_join_21 : decode cX5_join 21 = .ok (.iload_n 1, 1) := by decide +kernel
theorem dX5_join_22 : decode cX5_join 22 = .ok (.iaload, 1) := by decide +kernel
theorem dX5_join_23 : decode cX5_join 23 = .ok (.ifCond .lt 12, 3) := by decide +kernel
theorem dX5_join_26 : decode cX5_join 26 = .ok (.aload_n 0, 1) := by decide +kernel
theorem dX5_join_27 : decode cX5_join 27 = .ok (.getfield 26, 3) := by decide +kernel
theorem dX5_join_30 : decode cX5_join 30 = .ok (.iload_n 2, 1) := by decide +kernel
theorem dX5_join_31 : decode cX5_join 31 = .ok (.iaload, 1) := by decide +kernel
theorem dX5_join_32 : decode cX5_join 32 = .ok (.ifCond .ge 6, 3) := by decide +kernel
theorem dX5_join_35 : decode cX5_join 35 = .ok (.bipush (-11), 2) := by decide +kernel
theorem dX5_join_37 : decode cX5_join 37 = .ok (.ireturn, 1) := by decide +kernel
theorem dX5_join_38 : decode cX5_join 38 = .ok (.aload_n 0, 1) := by decide +kernel
theorem dX5_join_39 : decode cX5_join 39 = .ok (.getfield 26, 3) := by decide +kernel
theorem dX5_join_42 : decode cX5_join 42 = .ok (.iload_n 2, 1) := by decide +kernel
theorem dX5_join_43 : decode cX5_join 43 = .ok (.iaload, 1) := by decide +kernel
theorem dX5_join_44 : decode cX5_join 44 = .ok (.istore_n 3, 1) := by decide +kernel
theorem dX5_join_45 : decode cX5_join 45 = .ok (.aload_n 0, 1) := by decide +kernel
theorem dX5_join_46 : decode cX5_join 46 = .ok (.getfield 26, 3) := by decide +kernel
theorem dX5_join_49 : decode cX5_join 49 = .ok (.iload_n 1, 1) := by decide +kernel
theorem dX5_join_50 : decode cX5_join 50 = .ok (.iaload, 1) := by decide +kernel
theorem dX5_join_51 : decode cX5_join 51 = .ok (.iload_n 3, 1) := by decide +kernel
theorem dX5_join_52 : decode cX5_join 52 = .ok (.iadd, 1) := by decide +kernel
theorem dX5_join_53 : decode cX5_join 53 = .ok (.bipush 40, 2) := by decide +kernel
theorem dX5_join_55 : decode cX5_join 55 = .ok (.if_icmp .le 6, 3) := by decide +kernel
theorem dX5_join_58 : decode cX5_join 58 = .ok (.bipush (-13), 2) := by decide +kernel
theorem dX5_join_60 : decode cX5_join 60 = .ok (.ireturn, 1) := by decide +kernel
theorem dX5_join_61 : decode cX5_join 61 = .ok (.iconst 0, 1) := by decide +kernel
theorem dX5_join_62 : decode cX5_join 62 = .ok (.istore 4, 2) := by decide +kernel
theorem dX5_join_64 : decode cX5_join 64 = .ok (.iload 4, 2) := by decide +kernel
theorem dX5_join_66 : decode cX5_join 66 = .ok (.iload_n 3, 1) := by decide +kernel
theorem dX5_join_67 : decode cX5_join 67 = .ok (.if_icmp .ge 47, 3) := by decide +kernel
theorem dX5_join_70 : decode cX5_join 70 = .ok (.aload_n 0, 1) := by decide +kernel
theorem dX5_join_71 : decode cX5_join 71 = .ok (.getfield 29, 3) := by decide +kernel
theorem dX5_join_74 : decode cX5_join 74 = .ok (.bipush 40, 2) := by decide +kernel
theorem dX5_join_76 : decode cX5_join 76 = .ok (.iload_n 1, 1) := by decide +kernel
theorem dX5_join_77 : decode cX5_join 77 = .ok (.imul, 1) := by decide +kernel
theorem dX5_join_78 : decode cX5_join 78 = .ok (.aload_n 0, 1) := by decide +kernel
theorem dX5_join_79 : decode cX5_join 79 = .ok (.getfield 26, 3) := by decide +kernel
theorem dX5_join_82 : decode cX5_join 82 = .ok (.iload_n 1, 1) := by decide +kernel
theorem dX5_join_83 : decode cX5_join 83 = .ok (.iaload, 1) := by decide +kernel
theorem dX5_join_84 : decode cX5_join 84 = .ok (.iadd, 1) := by decide +kernel
theorem dX5_join_85 : decode cX5_join 85 = .ok (.aload_n 0, 1) := by decide +kernel
theorem dX5_join_86 : decode cX5_join 86 = .ok (.getfield 29, 3) := by decide +kernel
theorem dX5_join_89 : decode cX5_join 89 = .ok (.bipush 40, 2) := by decide +kernel
theorem dX5_join_91 : decode cX5_join 91 = .ok (.iload_n 2, 1) := by decide +kernel
theorem dX5_join_92 : decode cX5_join 92 = .ok (.imul, 1) := by decide +kernel
theorem dX5_join_93 : decode cX5_join 93 = .ok (.iload 4, 2) := by decide +kernel
theorem dX5_join_95 : decode cX5_join 95 = .ok (.iadd, 1) := by decide +kernel
theorem dX5_join_96 : decode cX5_join 96 = .ok (.iaload, 1) := by decide +kernel
theorem dX5_join_97 : decode cX5_join 97 = .ok (.iastore, 1) := by decide +kernel
theorem dX5_join_98 : decode cX5_join 98 = .ok (.aload_n 0, 1) := by decide +kernel
theorem dX5_join_99 : decode cX5_join 99 = .ok (.getfield 26, 3) := by decide +kernel
theorem dX5_join_102 : decode cX5_join 102 = .ok (.iload_n 1, 1) := by decide +kernel
theorem dX5_join_103 : decode cX5_join 103 = .ok (.dup2, 1) := by decide +kernel
theorem dX5_join_104 : decode cX5_join 104 = .ok (.iaload, 1) := by decide +kernel
theorem dX5_join_105 : decode cX5_join 105 = .ok (.iconst 1, 1) := by decide +kernel
theorem dX5_join_106 : decode cX5_join 106 = .ok (.iadd, 1) := by decide +kernel
theorem dX5_join_107 : decode cX5_join 107 = .ok (.iastore, 1) := by decide +kernel
theorem dX5_join_108 : decode cX5_join 108 = .ok (.iinc 4 1, 3) := by decide +kernel
theorem dX5_join_111 : decode cX5_join 111 = .ok (.goto (-47), 3) := by decide +kernel
theorem dX5_join_114 : decode cX5_join 114 = .ok (.aload_n 0, 1) := by decide +kernel
theorem dX5_join_115 : decode cX5_join 115 = .ok (.getfield 26, 3) := by decide +kernel
theorem dX5_join_118 : decode cX5_join 118 = .ok (.iload_n 1, 1) := by decide +kernel
theorem dX5_join_119 : decode cX5_join 119 = .ok (.iaload, 1) := by decide +kernel
theorem dX5_join_120 : decode cX5_join 120 = .ok (.ireturn, 1) := by decide +kernel
theorem dX5_judge_0 : decode cX5_judge 0 = .ok (.aload_n 0, 1) := by decide +kernel
theorem dX5_judge_1 : decode cX5_judge 1 = .ok (.iload_n 1, 1) := by decide +kernel
theorem dX5_judge_2 : decode cX5_judge 2 = .ok (.invokevirtual 139, 3) := by decide +kernel
theorem dX5_judge_5 : decode cX5_judge 5 = .ok (.ifCond .ne 6, 3) := by decide +kernel
theorem dX5_judge_8 : decode cX5_judge 8 = .ok (.bipush (-2), 2) := by decide +kernel
theorem dX5_judge_10 : decode cX5_judge 10 = .ok (.ireturn, 1) := by decide +kernel
theorem dX5_judge_11 : decode cX5_judge 11 = .ok (.iload_n 2, 1) := by decide +kernel
theorem dX5_judge_12 : decode cX5_judge 12 = .ok (.tableswitch 133 0 5 #[40, 47, 54, 63, 74, 87], 40) := by decide +kernel
theorem dX5_judge_52 : decode cX5_judge 52 = .ok (.aload_n 0, 1) := by decide +kernel
theorem dX5_judge_53 : decode cX5_judge 53 = .ok (.getfield 13, 3) := by decide +kernel
theorem dX5_judge_56 : decode cX5_judge 56 = .ok (.iload_n 1, 1) := by decide +kernel
theorem dX5_judge_57 : decode cX5_judge 57 = .ok (.iaload, 1) := by decide +kernel
theorem dX5_judge_58 : decode cX5_judge 58 = .ok (.ireturn, 1) := by decide +kernel
theorem dX5_judge_59 : decode cX5_judge 59 = .ok (.aload_n 0, 1) := by decide +kernel
theorem dX5_judge_60 : decode cX5_judge 60 = .ok (.getfield 16, 3) := by decide +kernel
theorem dX5_judge_63 : decode cX5_judge 63 = .ok (.iload_n 1, 1) := by decide +kernel
theorem dX5_judge_64 : decode cX5_judge 64 = .ok (.iaload, 1) := by decide +kernel
theorem dX5_judge_65 : decode cX5_judge 65 = .ok (.ireturn, 1) := by decide +kernel
theorem dX5_judge_66 : decode cX5_judge 66 = .ok (.aload_n 0, 1) := by decide +kernel
theorem dX5_judge_67 : decode cX5_judge 67 = .ok (.getfield 7, 3) := by decide +kernel
theorem dX5_judge_70 : decode cX5_judge 70 = .ok (.iconst 5, 1) := by decide +kernel
theorem dX5_judge_71 : decode cX5_judge 71 = .ok (.iload_n 1, 1) := by decide +kernel
theorem dX5_judge_72 : decode cX5_judge 72 = .ok (.iadd, 1) := by decide +kernel
theorem dX5_judge_73 : decode cX5_judge 73 = .ok (.iaload, 1) := by decide +kernel
theorem dX5_judge_74 : decode cX5_judge 74 = .ok (.ireturn, 1) := by decide +kernel
theorem dX5_judge_75 : decode cX5_judge 75 = .ok (.aload_n 0, 1) := by decide +kernel
theorem dX5_judge_76 : decode cX5_judge 76 = .ok (.getfield 7, 3) := by decide +kernel
theorem dX5_judge_79 : decode cX5_judge 79 = .ok (.iconst 4, 1) := by decide +kernel
theorem dX5_judge_80 : decode cX5_judge 80 = .ok (.iaload, 1) := by decide +kernel
theorem dX5_judge_81 : decode cX5_judge 81 = .ok (.iload_n 1, 1) := by decide +kernel
theorem dX5_judge_82 : decode cX5_judge 82 = .ok (.ishr, 1) := by decide +kernel
theorem dX5_judge_83 : decode cX5_judge 83 = .ok (.iconst 1, 1) := by decide +kernel
theorem dX5_judge_84 : decode cX5_judge 84 = .ok (.iand, 1) := by decide +kernel
theorem dX5_judge_85 : decode cX5_judge 85 = .ok (.ireturn, 1) := by decide +kernel
theorem dX5_judge_86 : decode cX5_judge 86 = .ok (.aload_n 0, 1) := by decide +kernel
theorem dX5_judge_87 : decode cX5_judge 87 = .ok (.getfield 7, 3) := by decide +kernel
theorem dX5_judge_90 : decode cX5_judge 90 = .ok (.bipush 11, 2) := by decide +kernel
theorem dX5_judge_92 : decode cX5_judge 92 = .ok (.iload_n 1, 1) := by decide +kernel
theorem dX5_judge_93 : decode cX5_judge 93 = .ok (.iadd, 1) := by decide +kernel
theorem dX5_judge_94 : decode cX5_judge 94 = .ok (.iaload, 1) := by decide +kernel
theorem dX5_judge_95 : decode cX5_judge 95 = .ok (.bipush 100, 2) := by decide +kernel
theorem dX5_judge_97 : decode cX5_judge 97 = .ok (.iadd, 1) := by decide +kernel
theorem dX5_judge_98 : decode cX5_judge 98 = .ok (.ireturn, 1) := by decide +kernel
theorem dX5_judge_99 : decode cX5_judge 99 = .ok (.iconst 0, 1) := by decide +kernel
theorem dX5_judge_100 : decode cX5_judge 100 = .ok (.istore_n 3, 1) := by decide +kernel
theorem dX5_judge_101 : decode cX5_judge 101 = .ok (.iconst 0, 1) := by decide +kernel
theorem dX5_judge_102 : decode cX5_judge 102 = .ok (.istore 4, 2) := by decide +kernel
theorem dX5_judge_104 : decode cX5_judge 104 = .ok (.iload 4, 2) := by decide +kernel
theorem dX5_judge_106 : decode cX5_judge 106 = .ok (.aload_n 0, 1) := by decide +kernel
theorem dX5_judge_107 : decode cX5_judge 107 = .ok (.getfield 7, 3) := by decide +kernel
theorem dX5_judge_110 : decode cX5_judge 110 = .ok (.iconst 3, 1) := by decide +kernel
theorem dX5_judge_111 : decode cX5_judge 111 = .ok (.iaload, 1) := by decide +kernel
theorem dX5_judge_112 : decode cX5_judge 112 = .ok (.if_icmp .ge 31, 3) := by decide +kernel
theorem dX5_judge_115 : decode cX5_judge 115 = .ok (.iload_n 3, 1) := by decide +kernel
theorem dX5_judge_116 : decode cX5_judge 116 = .ok (.aload_n 0, 1) := by decide +kernel
theorem dX5_judge_117 : decode cX5_judge 117 = .ok (.getfield 7, 3) := by decide +kernel
theorem dX5_judge_120 : decode cX5_judge 120 = .ok (.bipush 57, 2) := by decide +kernel
theorem dX5_judge_122 : decode cX5_judge 122 = .ok (.iload 4, 2) := by decide +kernel
theorem dX5_judge_124 : decode cX5_judge 124 = .ok (.iadd, 1) := by decide +kernel
theorem dX5_judge_125 : decode cX5_judge 125 = .ok (.iaload, 1) := by decide +kernel
theorem dX5_judge_126 : decode cX5_judge 126 = .ok (.iload_n 1, 1) := by decide +kernel
theorem dX5_judge_127 : decode cX5_judge 127 = .ok (.if_icmp .ne 7, 3) := by decide +kernel
theorem dX5_judge_130 : decode cX5_judge 130 = .ok (.iconst 1, 1) := by decide +kernel
theorem dX5_judge_131 : decode cX5_judge 131 = .ok (.goto 4, 3) := by decide +kernel
theorem dX5_judge_134 : decode cX5_judge 134 = .ok (.iconst 0, 1) := by decide +kernel
theorem dX5_judge_135 : decode cX5_judge 135 = .ok (.iadd, 1) := by decide +kernel
theorem dX5_judge_136 : decode cX5_judge 136 = .ok (.istore_n 3, 1) := by decide +kernel
theorem dX5_judge_137 : decode cX5_judge 137 = .ok (.iinc 4 1, 3) := by decide +kernel
theorem dX5_judge_140 : decode cX5_judge 140 = .ok (.goto (-36), 3) := by decide +kernel
theorem dX5_judge_143 : decode cX5_judge 143 = .ok (.iload_n 3, 1) := by decide +kernel
theorem dX5_judge_144 : decode cX5_judge 144 = .ok (.ireturn, 1) := by decide +kernel
theorem dX5_judge_145 : decode cX5_judge 145 = .ok (.bipush (-3), 2) := by decide +kernel
theorem dX5_judge_147 : decode cX5_judge 147 = .ok (.ireturn, 1) := by decide +kernel
end
section
theorem dX5_keep_0 : decode cX5_keep 0 = .ok (.iload_n 1, 1) := by decide +kernel
theorem dX5_keep_1 : decode cX5_keep 1 = .ok (.i2l, 1) := by decide +kernel
theorem dX5_keep_2 : decode cX5_keep 2 = .ok (.lconst 0, 1) := by decide +kernel
theorem dX5_keep_3 : decode cX5_keep 3 = .ok (.lconst 1, 1) := by decide +kernel
theorem dX5_keep_4 : decode cX5_keep 4 = .ok (.invokestatic 57, 3) := by decide +kernel
theorem dX5_keep_7 : decode cX5_keep 7 = .ok (.ifCond .ne 6, 3) := by decide +kernel
theorem dX5_keep_10 : decode cX5_keep 10 = .ok (.bipush (-2), 2) := by decide +kernel
theorem dX5_keep_12 : decode cX5_keep 12 = .ok (.ireturn, 1) := by decide +kernel
theorem dX5_keep_13 : decode cX5_keep 13 = .ok (.aload_n 0, 1) := by decide +kernel
theorem dX5_keep_14 : decode cX5_keep 14 = .ok (.iconst 0, 1) := by decide +kernel
theorem dX5_keep_15 : decode cX5_keep 15 = .ok (.sipush 693, 3) := by decide +kernel
theorem dX5_keep_18 : decode cX5_keep 18 = .ok (.bipush 77, 2) := by decide +kernel
theorem dX5_keep_20 : decode cX5_keep 20 = .ok (.iload_n 1, 1) := by decide +kernel
theorem dX5_keep_21 : decode cX5_keep 21 = .ok (.imul, 1) := by decide +kernel
theorem dX5_keep_22 : decode cX5_keep 22 = .ok (.iadd, 1) := by decide +kernel
theorem dX5_keep_23 : decode cX5_keep 23 = .ok (.invokevirtual 44, 3) := by decide +kernel
theorem dX5_keep_26 : decode cX5_keep 26 = .ok (.aload_n 0, 1) := by decide +kernel
theorem dX5_keep_27 : decode cX5_keep 27 = .ok (.getfield 19, 3) := by decide +kernel
theorem dX5_keep_30 : decode cX5_keep 30 = .ok (.iload_n 1, 1) := by decide +kernel
theorem dX5_keep_31 : decode cX5_keep 31 = .ok (.iconst 1, 1) := by decide +kernel
theorem dX5_keep_32 : decode cX5_keep 32 = .ok (.bastore, 1) := by decide +kernel
theorem dX5_keep_33 : decode cX5_keep 33 = .ok (.aload_n 0, 1) := by decide +kernel
theorem dX5_keep_34 : decode cX5_keep 34 = .ok (.getfield 7, 3) := by decide +kernel
theorem dX5_keep_37 : decode cX5_keep 37 = .ok (.iconst 3, 1) := by decide +kernel
theorem dX5_keep_38 : decode cX5_keep 38 = .ok (.iaload, 1) := by decide +kernel
theorem dX5_keep_39 : decode cX5_keep 39 = .ok (.ireturn, 1) := by decide +kernel
theorem dX5_keepPast_0 : decode cX5_keepPast 0 = .ok (.iconst 0, 1) := by decide +kernel
theorem dX5_keepPast_1 : decode cX5_keepPast 1 = .ok (.istore_n 1, 1) := by decide +kernel
theorem dX5_keepPast_2 : decode cX5_keepPast 2 = .ok (.iload_n 1, 1) := by decide +kernel
theorem dX5_keepPast_3 : decode cX5_keepPast 3 = .ok (.sipush 539, 3) := by decide +kernel
theorem dX5_keepPast_6 : decode cX5_keepPast 6 = .ok (.if_icmp .ge 37, 3) := by decide +kernel
theorem dX5_keepPast_9 : decode cX5_keepPast 9 = .ok (.aload_n 0, 1) := by decide +kernel
theorem dX5_keepPast_10 : decode cX5_keepPast 10 = .ok (.getfield 136, 3) := by decide +kernel
theorem dX5_keepPast_13 : decode cX5_keepPast 13 = .ok (.bipush 8, 2) := by decide +kernel
theorem dX5_keepPast_15 : decode cX5_keepPast 15 = .ok (.if_icmp .ne 28, 3) := by decide +kernel
theorem dX5_keepPast_18 : decode cX5_keepPast 18 = .ok (.aload_n 0, 1) := by decide +kernel
theorem dX5_keepPast_19 : decode cX5_keepPast 19 = .ok (.getfield 7, 3) := by decide +kernel
theorem dX5_keepPast_22 : decode cX5_keepPast 22 = .ok (.bipush 77, 2) := by decide +kernel
theorem dX5_keepPast_24 : decode cX5_keepPast 24 = .ok (.iload_n 1, 1) := by decide +kernel
theorem dX5_keepPast_25 : decode cX5_keepPast 25 = .ok (.iadd, 1) := by decide +kernel
theorem dX5_keepPast_26 : decode cX5_keepPast 26 = .ok (.aload_n 0, 1) := by decide +kernel
theorem dX5_keepPast_27 : decode cX5_keepPast 27 = .ok (.getfield 7, 3) := by decide +kernel
theorem dX5_keepPast_30 : decode cX5_keepPast 30 = .ok (.sipush 154, 3) := by decide +kernel
theorem dX5_keepPast_33 : decode cX5_keepPast 33 = .ok (.iload_n 1, 1) := by decide +kernel
theorem dX5_keepPast_34 : decode cX5_keepPast 34 = .ok (.iadd, 1) := by decide +kernel
theorem dX5_keepPast_35 : decode cX5_keepPast 35 = .ok (.iaload, 1) := by decide +kernel
theorem dX5_keepPast_36 : decode cX5_keepPast 36 = .ok (.iastore, 1) := by decide +kernel
theorem dX5_keepPast_37 : decode cX5_keepPast 37 = .ok (.iinc 1 1, 3) := by decide +kernel
theorem dX5_keepPast_40 : decode cX5_keepPast 40 = .ok (.goto (-38), 3) := by decide +kernel
theorem dX5_keepPast_43 : decode cX5_keepPast 43 = .ok (.aload_n 0, 1) := by decide +kernel
theorem dX5_keepPast_44 : decode cX5_keepPast 44 = .ok (.dup, 1) := by decide +kernel
theorem dX5_keepPast_45 : decode cX5_keepPast 45 = .ok (.getfield 136, 3) := by decide +kernel
theorem dX5_keepPast_48 : decode cX5_keepPast 48 = .ok (.aload_n 0, 1) := by decide +kernel
theorem dX5_keepPast_49 : decode cX5_keepPast 49 = .ok (.getfield 136, 3) := by decide +kernel
theorem dX5_keepPast_52 : decode cX5_keepPast 52 = .ok (.bipush 8, 2) := by decide +kernel
theorem dX5_keepPast_54 : decode cX5_keepPast 54 = .ok (.if_icmp .ne 7, 3) := by decide +kernel
theorem dX5_keepPast_57 : decode cX5_keepPast 57 = .ok (.iconst 1, 1) := by decide +kernel
theorem dX5_keepPast_58 : decode cX5_keepPast 58 = .ok (.goto 4, 3) := by decide +kernel
theorem dX5_keepPast_61 : decode cX5_keepPast 61 = .ok (.iconst 0, 1) := by decide +kernel
theorem dX5_keepPast_62 : decode cX5_keepPast 62 = .ok (.isub, 1) := by decide +kernel
theorem dX5_keepPast_63 : decode cX5_keepPast 63 = .ok (.putfield 136, 3) := by decide +kernel
theorem dX5_keepPast_66 : decode cX5_keepPast 66 = .ok (.aload_n 0, 1) := by decide +kernel
theorem dX5_keepPast_67 : decode cX5_keepPast 67 = .ok (.iconst 0, 1) := by decide +kernel
theorem dX5_keepPast_68 : decode cX5_keepPast 68 = .ok (.bipush 77, 2) := by decide +kernel
theorem dX5_keepPast_70 : decode cX5_keepPast 70 = .ok (.bipush 77, 2) := by decide +kernel
theorem dX5_keepPast_72 : decode cX5_keepPast 72 = .ok (.aload_n 0, 1) := by decide +kernel
theorem dX5_keepPast_73 : decode cX5_keepPast 73 = .ok (.getfield 136, 3) := by decide +kernel
theorem dX5_keepPast_76 : decode cX5_keepPast 76 = .ok (.imul, 1) := by decide +kernel
theorem dX5_keepPast_77 : decode cX5_keepPast 77 = .ok (.iadd, 1) := by decide +kernel
theorem dX5_keepPast_78 : decode cX5_keepPast 78 = .ok (.invokevirtual 44, 3) := by decide +kernel
theorem dX5_keepPast_81 : decode cX5_keepPast 81 = .ok (.aload_n 0, 1) := by decide +kernel
theorem dX5_keepPast_82 : decode cX5_keepPast 82 = .ok (.dup, 1) := by decide +kernel
theorem dX5_keepPast_83 : decode cX5_keepPast 83 = .ok (.getfield 136, 3) := by decide +kernel
theorem dX5_keepPast_86 : decode cX5_keepPast 86 = .ok (.iconst 1, 1) := by decide +kernel
theorem dX5_keepPast_87 : decode cX5_keepPast 87 = .ok (.iadd, 1) := by decide +kernel
theorem dX5_keepPast_88 : decode cX5_keepPast 88 = .ok (.putfield 136, 3) := by decide +kernel
theorem dX5_keepPast_91 : decode cX5_keepPast 91 = .ok (.return_, 1) := by decide +kernel
theorem dX5_layWriting_0 : decode cX5_layWriting 0 = .ok (.aload_n 0, 1) := by decide +kernel
theorem dX5_layWriting_1 : decode cX5_layWriting 1 = .ok (.iconst 0, 1) := by decide +kernel
theorem dX5_layWriting_2 : decode cX5_layWriting 2 = .ok (.putfield 188, 3) := by decide +kernel
theorem dX5_layWriting_5 : decode cX5_layWriting 5 = .ok (.iconst 0, 1) := by decide +kernel
theorem dX5_layWriting_6 : decode cX5_layWriting 6 = .ok (.istore_n 1, 1) := by decide +kernel
theorem dX5_layWriting_7 : decode cX5_layWriting 7 = .ok (.iload_n 1, 1) := by decide +kernel
theorem dX5_layWriting_8 : decode cX5_layWriting 8 = .ok (.aload_n 0, 1) := by decide +kernel
theorem dX5_layWriting_9 : decode cX5_layWriting 9 = .ok (.getfield 7, 3) := by decide +kernel
theorem dX5_layWriting_12 : decode cX5_layWriting 12 = .ok (.iconst 3, 1) := by decide +kernel
theorem dX5_layWriting_13 : decode cX5_layWriting 13 = .ok (.iaload, 1) := by decide +kernel
theorem dX5_layWriting_14 : decode cX5_layWriting 14 = .ok (.if_icmp .ge 97, 3) := by decide +kernel
theorem dX5_layWriting_17 : decode cX5_layWriting 17 = .ok (.iload_n 1, 1) := by decide +kernel
theorem dX5_layWriting_18 : decode cX5_layWriting 18 = .ok (.bipush 9, 2) := by decide +kernel
theorem dX5_layWriting_20 : decode cX5_layWriting 20 = .ok (.if_icmp .le 14, 3) := by decide +kernel
theorem dX5_layWriting_23 : decode cX5_layWriting 23 = .ok (.aload_n 0, 1) := by decide +kernel
theorem dX5_layWriting_24 : decode cX5_layWriting 24 = .ok (.bipush 48, 2) := by decide +kernel
theorem dX5_layWriting_26 : decode cX5_layWriting 26 = .ok (.iload_n 1, 1) := by decide +kernel
theorem dX5_layWriting_27 : decode cX5_layWriting 27 = .ok (.bipush 10, 2) := by decide +kernel
theorem dX5_layWriting_29 : decode cX5_layWriting 29 = .ok (.idiv, 1) := by decide +kernel
theorem dX5_layWriting_30 : decode cX5_layWriting 30 = .ok (.iadd, 1) := by decide +kernel
theorem dX5_layWriting_31 : decode cX5_layWriting 31 = .ok (.invokevirtual 191, 3) := by decide +kernel
theorem dX5_layWriting_34 : decode cX5_layWriting 34 = .ok (.aload_n 0, 1) := by decide +kernel
theorem dX5_layWriting_35 : decode cX5_layWriting 35 = .ok (.bipush 48, 2) := by decide +kernel
theorem dX5_layWriting_37 : decode cX5_layWriting 37 = .ok (.iload_n 1, 1) := by decide +kernel
theorem dX5_layWriting_38 : decode cX5_layWriting 38 = .ok (.bipush 10, 2) := by decide +kernel
theorem dX5_layWriting_40 : decode cX5_layWriting 40 = .ok (.irem, 1) := by decide +kernel
theorem dX5_layWriting_41 : decode cX5_layWriting 41 = .ok (.iadd, 1) := by decide +kernel
theorem dX5_layWriting_42 : decode cX5_layWriting 42 = .ok (.invokevirtual 191, 3) := by decide +kernel
theorem dX5_layWriting_45 : decode cX5_layWriting 45 = .ok (.aload_n 0, 1) := by decide +kernel
theorem dX5_layWriting_46 : decode cX5_layWriting 46 = .ok (.bipush 97, 2) := by decide +kernel
theorem dX5_layWriting_48 : decode cX5_layWriting 48 = .ok (.aload_n 0, 1) := by decide +kernel
theorem dX5_layWriting_49 : decode cX5_layWriting 49 = .ok (.getfield 7, 3) := by decide +kernel
theorem dX5_layWriting_52 : decode cX5_layWriting 52 = .ok (.bipush 17, 2) := by decide +kernel
theorem dX5_layWriting_54 : decode cX5_layWriting 54 = .ok (.iload_n 1, 1) := by decide +kernel
theorem dX5_layWriting_55 : decode cX5_layWriting 55 = .ok (.iadd, 1) := by decide +kernel
theorem dX5_layWriting_56 : decode cX5_layWriting 56 = .ok (.iaload, 1) := by decide +kernel
theorem dX5_layWriting_57 : decode cX5_layWriting 57 = .ok (.iadd, 1) := by decide +kernel
theorem dX5_layWriting_58 : decode cX5_layWriting 58 = .ok (.invokevirtual 191, 3) := by decide +kernel
theorem dX5_layWriting_61 : decode cX5_layWriting 61 = .ok (.aload_n 0, 1) := by decide +kernel
theorem dX5_layWriting_62 : decode cX5_layWriting 62 = .ok (.bipush 48, 2) := by decide +kernel
theorem dX5_layWriting_64 : decode cX5_layWriting 64 = .ok (.aload_n 0, 1) := by decide +kernel
theorem dX5_layWriting_65 : decode cX5_layWriting 65 = .ok (.getfield 7, 3) := by decide +kernel
theorem dX5_layWriting_68 : decode cX5_layWriting 68 = .ok (.bipush 37, 2) := by decide +kernel
theorem dX5_layWriting_70 : decode cX5_layWriting 70 = .ok (.iload_n 1, 1) := by decide +kernel
theorem dX5_layWriting_71 : decode cX5_layWriting 71 = .ok (.iadd, 1) := by decide +kernel
theorem dX5_layWriting_72 : decode cX5_layWriting 72 = .ok (.iaload, 1) := by decide +kernel
theorem dX5_layWriting_73 : decode cX5_layWriting 73 = .ok (.iadd, 1) := by decide +kernel
theorem dX5_layWriting_74 : decode cX5_layWriting 74 = .ok (.invokevirtual 191, 3) := by decide +kernel
theorem dX5_layWriting_77 : decode cX5_layWriting 77 = .ok (.aload_n 0, 1) := by decide +kernel
theorem dX5_layWriting_78 : decode cX5_layWriting 78 = .ok (.bipush 106, 2) := by decide +kernel
theorem dX5_layWriting_80 : decode cX5_layWriting 80 = .ok (.invokevirtual 191, 3) := by decide +kernel
theorem dX5_layWriting_83 : decode cX5_layWriting 83 = .ok (.aload_n 0, 1) := by decide +kernel
theorem dX5_layWriting_84 : decode cX5_layWriting 84 = .ok (.bipush 48, 2) := by decide +kernel
theorem dX5_layWriting_86 : decode cX5_layWriting 86 = .ok (.aload_n 0, 1) := by decide +kernel
theorem dX5_layWriting_87 : decode cX5_layWriting 87 = .ok (.getfield 7, 3) := by decide +kernel
theorem dX5_layWriting_90 : decode cX5_layWriting 90 = .ok (.bipush 57, 2) := by decide +kernel
theorem dX5_layWriting_92 : decode cX5_layWriting 92 = .ok (.iload_n 1, 1) := by decide +kernel
theorem dX5_layWriting_93 : decode cX5_layWriting 93 = .ok (.iadd, 1) := by decide +kernel
theorem dX5_layWriting_94 : decode cX5_layWriting 94 = .ok (.iaload, 1) := by decide +kernel
theorem dX5_layWriting_95 : decode cX5_layWriting 95 = .ok (.iadd, 1) := by decide +kernel
theorem dX5_layWriting_96 : decode cX5_layWriting 96 = .ok (.invokevirtual 191, 3) := by decide +kernel
theorem dX5_layWriting_99 : decode cX5_layWriting 99 = .ok (.aload_n 0, 1) := by decide +kernel
theorem dX5_layWriting_100 : decode cX5_layWriting 100 = .ok (.bipush 46, 2) := by decide +kernel
theorem dX5_layWriting_102 : decode cX5_layWriting 102 = .ok (.invokevirtual 191, 3) := by decide +kernel
theorem dX5_layWriting_105 : decode cX5_layWriting 105 = .ok (.iinc 1 1, 3) := by decide +kernel
theorem dX5_layWriting_108 : decode cX5_layWriting 108 = .ok (.goto (-101), 3) := by decide +kernel
theorem dX5_layWriting_111 : decode cX5_layWriting 111 = .ok (.return_, 1) := by decide +kernel
theorem dX5_letter_0 : decode cX5_letter 0 = .ok (.iload_n 1, 1) := by decide +kernel
theorem dX5_letter_1 : decode cX5_letter 1 = .ok (.invokestatic 210, 3) := by decide +kernel
theorem dX5_letter_4 : decode cX5_letter 4 = .ok (.ifCond .ne 8, 3) := by decide +kernel
theorem dX5_letter_7 : decode cX5_letter 7 = .ok (.bipush (-2), 2) := by decide +kernel
theorem dX5_letter_9 : decode cX5_letter 9 = .ok (.goto 51, 3) := by decide +kernel
theorem dX5_letter_12 : decode cX5_letter 12 = .ok (.aload_n 0, 1) := by decide +kernel
theorem dX5_letter_13 : decode cX5_letter 13 = .ok (.getfield 26, 3) := by decide +kernel
theorem dX5_letter_16 : decode cX5_letter 16 = .ok (.iload_n 1, 1) := by decide +kernel
theorem dX5_letter_17 : decode cX5_letter 17 = .ok (.iaload, 1) := by decide +kernel
theorem dX5_letter_18 : decode cX5_letter 18 = .ok (.ifCond .ge 8, 3) := by decide +kernel
theorem dX5_letter_21 : decode cX5_letter 21 = .ok (.bipush (-11), 2) := by decide +kernel
theorem dX5_letter_23 : decode cX5_letter 23 = .ok (.goto 37, 3) := by decide +kernel
theorem dX5_letter_26 : decode cX5_letter 26 = .ok (.iload_n 2, 1) := by decide +kernel
theorem dX5_letter_27 : decode cX5_letter 27 = .ok (.i2l, 1) := by decide +kernel
theorem dX5_letter_28 : decode cX5_letter 28 = .ok (.lconst 0, 1) := by decide +kernel
theorem dX5_letter_29 : decode cX5_letter 29 = .ok (.aload_n 0, 1) := by decide +kernel
theorem dX5_letter_30 : decode cX5_letter 30 = .ok (.getfield 26, 3) := by decide +kernel
theorem dX5_letter_33 : decode cX5_letter 33 = .ok (.iload_n 1, 1) := by decide +kernel
theorem dX5_letter_34 : decode cX5_letter 34 = .ok (.iaload, 1) := by decide +kernel
theorem dX5_letter_35 : decode cX5_letter 35 = .ok (.iconst 1, 1) := by decide +kernel
theorem dX5_letter_36 : decode cX5_letter 36 = .ok (.isub, 1) := by decide +kernel
theorem dX5_letter_37 : decode cX5_letter 37 = .ok (.i2l, 1) := by decide +kernel
theorem dX5_letter_38 : decode cX5_letter 38 = .ok (.invokestatic 57, 3) := by decide +kernel
theorem dX5_letter_41 : decode cX5_letter 41 = .ok (.ifCond .eq 17, 3) := by decide +kernel
theorem dX5_letter_44 : decode cX5_letter 44 = .ok (.aload_n 0, 1) := by decide +kernel
theorem dX5_letter_45 : decode cX5_letter 45 = .ok (.getfield 29, 3) := by decide +kernel
theorem dX5_letter_48 : decode cX5_letter 48 = .ok (.bipush 40, 2) := by decide +kernel
theorem dX5_letter_50 : decode cX5_letter 50 = .ok (.iload_n 1, 1) := by decide +kernel
theorem dX5_letter_51 : decode cX5_letter 51 = .ok (.imul, 1) := by decide +kernel
theorem dX5_letter_52 : decode cX5_letter 52 = .ok (.iload_n 2, 1) := by decide +kernel
theorem dX5_letter_53 : decode cX5_letter 53 = .ok (.iadd, 1) := by decide +kernel
theorem dX5_letter_54 : decode cX5_letter 54 = .ok (.iaload, 1) := by decide +kernel
theorem dX5_letter_55 : decode cX5_letter 55 = .ok (.goto 5, 3) := by decide +kernel
theorem dX5_letter_58 : decode cX5_letter 58 = .ok (.bipush (-12), 2) := by decide +kernel
theorem dX5_letter_60 : decode cX5_letter 60 = .ok (.ireturn, 1) := by decide +kernel
theorem dX5_like_0 : decode cX5_like 0 = .ok (.iload_n 1, 1) := by decide +kernel
theorem dX5_like_1 : decode cX5_like 1 = .ok (.i2l, 1) := by decide +kernel
theorem dX5_like_2 : decode cX5_like 2 = .ok (.lconst 1, 1) := by decide +kernel
theorem dX5_like_3 : decode cX5_like 3 = .ok (.ldc2_w 206, 3) := by decide +kernel
theorem dX5_like_6 : decode cX5_like 6 = .ok (.invokestatic 57, 3) := by decide +kernel
theorem dX5_like_9 : decode cX5_like 9 = .ok (.ifCond .ne 6, 3) := by decide +kernel
theorem dX5_like_12 : decode cX5_like 12 = .ok (.bipush (-3), 2) := by decide +kernel
theorem dX5_like_14 : decode cX5_like 14 = .ok (.ireturn, 1) := by decide +kernel
theorem dX5_like_15 : decode cX5_like 15 = .ok (.aload_n 0, 1) := by decide +kernel
theorem dX5_like_16 : decode cX5_like 16 = .ok (.invokevirtual 200, 3) := by decide +kernel
theorem dX5_like_19 : decode cX5_like 19 = .ok (.ifCond .ne 6, 3) := by decide +kernel
theorem dX5_like_22 : decode cX5_like 22 = .ok (.bipush (-4), 2) := by decide +kernel
theorem dX5_like_24 : decode cX5_like 24 = .ok (.ireturn, 1) := by decide +kernel
theorem dX5_like_25 : decode cX5_like 25 = .ok (.iconst 1, 1) := by decide +kernel
theorem dX5_like_26 : decode cX5_like 26 = .ok (.istore_n 2, 1) := by decide +kernel
theorem dX5_like_27 : decode cX5_like 27 = .ok (.iload_n 2, 1) := by decide +kernel
theorem dX5_like_28 : decode cX5_like 28 = .ok (.sipush 301, 3) := by decide +kernel
theorem dX5_like_31 : decode cX5_like 31 = .ok (.if_icmp .ge 30, 3) := by decide +kernel
theorem dX5_like_34 : decode cX5_like 34 = .ok (.iload_n 1, 1) := by decide +kernel
theorem dX5_like_35 : decode cX5_like 35 = .ok (.aload_n 0, 1) := by decide +kernel
theorem dX5_like_36 : decode cX5_like 36 = .ok (.getfield 7, 3) := by decide +kernel
theorem dX5_like_39 : decode cX5_like 39 = .ok (.iconst 3, 1) := by decide +kernel
theorem dX5_like_40 : decode cX5_like 40 = .ok (.iaload, 1) := by decide +kernel
theorem dX5_like_41 : decode cX5_like 41 = .ok (.if_icmp .gt 20, 3) := by decide +kernel
theorem dX5_like_44 : decode cX5_like 44 = .ok (.aload_n 0, 1) := by decide +kernel
theorem dX5_like_45 : decode cX5_like 45 = .ok (.iload_n 2, 1) := by decide +kernel
theorem dX5_like_46 : decode cX5_like 46 = .ok (.invokevirtual 203, 3) := by decide +kernel
theorem dX5_like_49 : decode cX5_like 49 = .ok (.iload_n 1, 1) := by decide +kernel
theorem dX5_like_50 : decode cX5_like 50 = .ok (.if_icmp .lt 5, 3) := by decide +kernel
theorem dX5_like_53 : decode cX5_like 53 = .ok (.iload_n 2, 1) := by decide +kernel
theorem dX5_like_54 : decode cX5_like 54 = .ok (.ireturn, 1) := by decide +kernel
theorem dX5_like_55 : decode cX5_like 55 = .ok (.iinc 2 1, 3) := by decide +kernel
theorem dX5_like_58 : decode cX5_like 58 = .ok (.goto (-31), 3) := by decide +kernel
theorem dX5_like_61 : decode cX5_like 61 = .ok (.iconst (-1), 1) := by decide +kernel
theorem dX5_like_62 : decode cX5_like 62 = .ok (.ireturn, 1) := by decide +kernel
theorem dX5_named_0 : decode cX5_named 0 = .ok (.iload_n 1, 1) := by decide +kernel
theorem dX5_named_1 : decode cX5_named 1 = .ok (.invokestatic 210, 3) := by decide +kernel
theorem dX5_named_4 : decode cX5_named 4 = .ok (.ifCond .ne 6, 3) := by decide +kernel
theorem dX5_named_7 : decode cX5_named 7 = .ok (.bipush (-2), 2) := by decide +kernel
theorem dX5_named_9 : decode cX5_named 9 = .ok (.ireturn, 1) := by decide +kernel
theorem dX5_named_10 : decode cX5_named 10 = .ok (.aload_n 0, 1) := by decide +kernel
theorem dX5_named_11 : decode cX5_named 11 = .ok (.getfield 26, 3) := by decide +kernel
theorem dX5_named_14 : decode cX5_named 14 = .ok (.iload_n 1, 1) := by decide +kernel
theorem dX5_named_15 : decode cX5_named 15 = .ok (.iaload, 1) := by decide +kernel
theorem dX5_named_16 : decode cX5_named 16 = .ok (.ifCond .ge 6, 3) := by decide +kernel
theorem dX5_named_19 : decode cX5_named 19 = .ok (.bipush (-11), 2) := by decide +kernel
theorem dX5_named_21 : decode cX5_named 21 = .ok (.ireturn, 1) := by decide +kernel
theorem dX5_named_22 : decode cX5_named 22 = .ok (.iconst 0, 1) := by decide +kernel
theorem dX5_named_23 : decode cX5_named 23 = .ok (.istore_n 2, 1) := by decide +kernel
theorem dX5_named_24 : decode cX5_named 24 = .ok (.iload_n 2, 1) := by decide +kernel
theorem dX5_named_25 : decode cX5_named 25 = .ok (.iconst 3, 1) := by decide +kernel
theorem dX5_named_26 : decode cX5_named 26 = .ok (.if_icmp .gt 98, 3) := by decide +kernel
theorem dX5_named_29 : decode cX5_named 29 = .ok (.aload_n 0, 1) := by decide +kernel
theorem dX5_named_30 : decode cX5_named 30 = .ok (.getfield 26, 3) := by decide +kernel
theorem dX5_named_33 : decode cX5_named 33 = .ok (.iload_n 1, 1) := by decide +kernel
theorem dX5_named_34 : decode cX5_named 34 = .ok (.iaload, 1) := by decide +kernel
theorem dX5_named_35 : decode cX5_named 35 = .ok (.i2l, 1) := by decide +kernel
theorem dX5_named_36 : decode cX5_named 36 = .ok (.lconst 1, 1) := by decide +kernel
theorem dX5_named_37 : decode cX5_named 37 = .ok (.ldc2_w 218, 3) := by decide +kernel
theorem dX5_named_40 : decode cX5_named 40 = .ok (.invokestatic 57, 3) := by decide +kernel
theorem dX5_named_43 : decode cX5_named 43 = .ok (.istore_n 3, 1) := by decide +kernel
theorem dX5_named_44 : decode cX5_named 44 = .ok (.iconst 0, 1) := by decide +kernel
theorem dX5_named_45 : decode cX5_named 45 = .ok (.istore 4, 2) := by decide +kernel
theorem dX5_named_47 : decode cX5_named 47 = .ok (.iload 4, 2) := by decide +kernel
theorem dX5_named_49 : decode cX5_named 49 = .ok (.bipush 6, 2) := by decide +kernel
theorem dX5_named_51 : decode cX5_named 51 = .ok (.if_icmp .ge 61, 3) := by decide +kernel
theorem dX5_named_54 : decode cX5_named 54 = .ok (.iload_n 3, 1) := by decide +kernel
theorem dX5_named_55 : decode cX5_named 55 = .ok (.ifCond .eq 57, 3) := by decide +kernel
theorem dX5_named_58 : decode cX5_named 58 = .ok (.aload_n 0, 1) := by decide +kernel
theorem dX5_named_59 : decode cX5_named 59 = .ok (.getfield 35, 3) := by decide +kernel
theorem dX5_named_62 : decode cX5_named 62 = .ok (.bipush 6, 2) := by decide +kernel
theorem dX5_named_64 : decode cX5_named 64 = .ok (.iload_n 2, 1) := by decide +kernel
theorem dX5_named_65 : decode cX5_named 65 = .ok (.imul, 1) := by decide +kernel
theorem dX5_named_66 : decode cX5_named 66 = .ok (.iload 4, 2) := by decide +kernel
theorem dX5_named_68 : decode cX5_named 68 = .ok (.iadd, 1) := by decide +kernel
theorem dX5_named_69 : decode cX5_named 69 = .ok (.iaload, 1) := by decide +kernel
theorem dX5_named_70 : decode cX5_named 70 = .ok (.iload 4, 2) := by decide +kernel
theorem dX5_named_72 : decode cX5_named 72 = .ok (.aload_n 0, 1) := by decide +kernel
theorem dX5_named_73 : decode cX5_named 73 = .ok (.getfield 26, 3) := by decide +kernel
theorem dX5_named_76 : decode cX5_named 76 = .ok (.iload_n 1, 1) := by decide +kernel
theorem dX5_named_77 : decode cX5_named 77 = .ok (.iaload, 1) := by decide +kernel
theorem dX5_named_78 : decode cX5_named 78 = .ok (.if_icmp .ge 18, 3) := by decide +kernel
theorem dX5_named_81 : decode cX5_named 81 = .ok (.aload_n 0, 1) := by decide +kernel
theorem dX5_named_82 : decode cX5_named 82 = .ok (.getfield 29, 3) := by decide +kernel
theorem dX5_named_85 : decode cX5_named 85 = .ok (.bipush 40, 2) := by decide +kernel
theorem dX5_named_87 : decode cX5_named 87 = .ok (.iload_n 1, 1) := by decide +kernel
theorem dX5_named_88 : decode cX5_named 88 = .ok (.imul, 1) := by decide +kernel
theorem dX5_named_89 : decode cX5_named 89 = .ok (.iload 4, 2) := by decide +kernel
theorem dX5_named_91 : decode cX5_named 91 = .ok (.iadd, 1) := by decide +kernel
theorem dX5_named_92 : decode cX5_named 92 = .ok (.iaload, 1) := by decide +kernel
theorem dX5_named_93 : decode cX5_named 93 = .ok (.goto 4, 3) := by decide +kernel
theorem dX5_named_96 : decode cX5_named 96 = .ok (.iconst 0, 1) := by decide +kernel
theorem dX5_named_97 : decode cX5_named 97 = .ok (.if_icmp .ne 7, 3) := by decide +kernel
theorem dX5_named_100 : decode cX5_named 100 = .ok (.iconst 1, 1) := by decide +kernel
theorem dX5_named_101 : decode cX5_named 101 = .ok (.goto 4, 3) := by decide +kernel
theorem dX5_named_104 : decode cX5_named 104 = .ok (.iconst 0, 1) := by decide +kernel
theorem dX5_named_105 : decode cX5_named 105 = .ok (.istore_n 3, 1) := by decide +kernel
theorem dX5_named_106 : decode cX5_named 106 = .ok (.iinc 4 1, 3) := by decide +kernel
theorem dX5_named_109 : decode cX5_named 109 = .ok (.goto (-62), 3) := by decide +kernel
theorem dX5_named_112 : decode cX5_named 112 = .ok (.iload_n 3, 1) := by decide +kernel
theorem dX5_named_113 : decode cX5_named 113 = .ok (.ifCond .eq 5, 3) := by decide +kernel
theorem dX5_named_116 : decode cX5_named 116 = .ok (.iload_n 2, 1) := by decide +kernel
theorem dX5_named_117 : decode cX5_named 117 = .ok (.ireturn, 1) := by decide +kernel
theorem dX5_named_118 : decode cX5_named 118 = .ok (.iinc 2 1, 3) := by decide +kernel
theorem dX5_named_121 : decode cX5_named 121 = .ok (.goto (-97), 3) := by decide +kernel
theorem dX5_named_124 : decode cX5_named 124 = .ok (.iconst (-1), 1) := by decide +kernel
theorem dX5_named_125 : decode cX5_named 125 = .ok (.ireturn, 1) := by decide +kernel
theorem dX5_next_0 : decode cX5_next 0 = .ok (.iload_n 1, 1) := by decide +kernel
theorem dX5_next_1 : decode cX5_next 1 = .ok (.invokestatic 173, 3) := by decide +kernel
theorem dX5_next_4 : decode cX5_next 4 = .ok (.ifCond .eq 10, 3) := by decide +kernel
theorem dX5_next_7 : decode cX5_next 7 = .ok (.iload_n 2, 1) := by decide +kernel
theorem dX5_next_8 : decode cX5_next 8 = .ok (.invokestatic 176, 3) := by decide +kernel
theorem dX5_next_11 : decode cX5_next 11 = .ok (.ifCond .ne 6, 3) := by decide +kernel
theorem dX5_next_14 : decode cX5_next 14 = .ok (.bipush (-3), 2) := by decide +kernel
theorem dX5_next_16 : decode cX5_next 16 = .ok (.ireturn, 1) := by decide +kernel
theorem dX5_next_17 : decode cX5_next 17 = .ok (.aload_n 0, 1) := by decide +kernel
theorem dX5_next_18 : decode cX5_next 18 = .ok (.iconst 0, 1) := by decide +kernel
theorem dX5_next_19 : decode cX5_next 19 = .ok (.iload_n 2, 1) := by decide +kernel
theorem dX5_next_20 : decode cX5_next 20 = .ok (.iconst (-1), 1) := by decide +kernel
theorem dX5_next_21 : decode cX5_next 21 = .ok (.invokevirtual 179, 3) := by decide +kernel
theorem dX5_next_24 : decode cX5_next 24 = .ok (.ifCond .ne 6, 3) := by decide +kernel
theorem dX5_next_27 : decode cX5_next 27 = .ok (.bipush (-4), 2) := by decide +kernel
theorem dX5_next_29 : decode cX5_next 29 = .ok (.ireturn, 1) := by decide +kernel
theorem dX5_next_30 : decode cX5_next 30 = .ok (.aload_n 0, 1) := by decide +kernel
theorem dX5_next_31 : decode cX5_next 31 = .ok (.iconst 0, 1) := by decide +kernel
theorem dX5_next_32 : decode cX5_next 32 = .ok (.sipush 924, 3) := by decide +kernel
theorem dX5_next_35 : decode cX5_next 35 = .ok (.invokevirtual 44, 3) := by decide +kernel
theorem dX5_next_38 : decode cX5_next 38 = .ok (.aload_n 0, 1) := by decide +kernel
theorem dX5_next_39 : decode cX5_next 39 = .ok (.sipush 924, 3) := by decide +kernel
theorem dX5_next_42 : decode cX5_next 42 = .ok (.iload_n 1, 1) := by decide +kernel
theorem dX5_next_43 : decode cX5_next 43 = .ok (.iload_n 2, 1) := by decide +kernel
theorem dX5_next_44 : decode cX5_next 44 = .ok (.invokevirtual 185, 3) := by decide +kernel
theorem dX5_next_47 : decode cX5_next 47 = .ok (.ireturn, 1) := by decide +kernel
theorem dX5_nextToken_0 : decode cX5_nextToken 0 = .ok (.aload_n 0, 1) := by decide +kernel
theorem dX5_nextToken_1 : decode cX5_nextToken 1 = .ok (.aload_n 0, 1) := by decide +kernel
theorem dX5_nextToken_2 : decode cX5_nextToken 2 = .ok (.getfield 72, 3) := by decide +kernel
theorem dX5_nextToken_5 : decode cX5_nextToken 5 = .ok (.putfield 75, 3) := by decide +kernel
theorem dX5_nextToken_8 : decode cX5_nextToken 8 = .ok (.aload_n 0, 1) := by decide +kernel
theorem dX5_nextToken_9 : decode cX5_nextToken 9 = .ok (.getfield 75, 3) := by decide +kernel
theorem dX5_nextToken_12 : decode cX5_nextToken 12 = .ok (.aload_n 0, 1) := by decide +kernel
theorem dX5_nextToken_13 : decode cX5_nextToken 13 = .ok (.getfield 61, 3) := by decide +kernel
theorem dX5_nextToken_16 : decode cX5_nextToken 16 = .ok (.if_icmp .ge 30, 3) := by decide +kernel
theorem dX5_nextToken_19 : decode cX5_nextToken 19 = .ok (.aload_n 0, 1) := by decide +kernel
theorem dX5_nextToken_20 : decode cX5_nextToken 20 = .ok (.getfield 23, 3) := by decide +kernel
theorem dX5_nextToken_23 : decode cX5_nextToken 23 = .ok (.aload_n 0, 1) := by decide +kernel
theorem dX5_nextToken_24 : decode cX5_nextToken 24 = .ok (.getfield 75, 3) := by decide +kernel
theorem dX5_nextToken_27 : decode cX5_nextToken 27 = .ok (.iaload, 1) := by decide +kernel
theorem dX5_nextToken_28 : decode cX5_nextToken 28 = .ok (.bipush 32, 2) := by decide +kernel
theorem dX5_nextToken_30 : decode cX5_nextToken 30 = .ok (.if_icmp .ne 16, 3) := by decide +kernel
theorem dX5_nextToken_33 : decode cX5_nextToken 33 = .ok (.aload_n 0, 1) := by decide +kernel
theorem dX5_nextToken_34 : decode cX5_nextToken 34 = .ok (.dup, 1) := by decide +kernel
theorem dX5_nextToken_35 : decode cX5_nextToken 35 = .ok (.getfield 75, 3) := by decide +kernel
theorem dX5_nextToken_38 : decode cX5_nextToken 38 = .ok (.iconst 1, 1) := by decide +kernel
theorem dX5_nextToken_39 : decode cX5_nextToken 39 = .ok (.iadd, 1) := by decide +kernel
theorem dX5_nextToken_40 : decode cX5_nextToken 40 = .ok (.putfield 75, 3) := by decide +kernel
theorem dX5_nextToken_43 : decode cX5_nextToken 43 = .ok (.goto (-35), 3) := by decide +kernel
theorem dX5_nextToken_46 : decode cX5_nextToken 46 = .ok (.aload_n 0, 1) := by decide +kernel
theorem dX5_nextToken_47 : decode cX5_nextToken 47 = .ok (.aload_n 0, 1) := by decide +kernel
theorem dX5_nextToken_48 : decode cX5_nextToken 48 = .ok (.getfield 75, 3) := by decide +kernel
theorem dX5_nextToken_51 : decode cX5_nextToken 51 = .ok (.aload_n 0, 1) := by decide +kernel
theorem dX5_nextToken_52 : decode cX5_nextToken 52 = .ok (.getfield 61, 3) := by decide +kernel
theorem dX5_nextToken_55 : decode cX5_nextToken 55 = .ok (.if_icmp .ge 12, 3) := by decide +kernel
theorem dX5_nextToken_58 : decode cX5_nextToken 58 = .ok (.aload_n 0, 1) := by decide +kernel
theorem dX5_nextToken_59 : decode cX5_nextToken 59 = .ok (.getfield 75, 3) := by decide +kernel
theorem dX5_nextToken_62 : decode cX5_nextToken 62 = .ok (.iconst 1, 1) := by decide +kernel
theorem dX5_nextToken_63 : decode cX5_nextToken 63 = .ok (.iadd, 1) := by decide +kernel
theorem dX5_nextToken_64 : decode cX5_nextToken 64 = .ok (.goto 7, 3) := by decide +kernel
theorem dX5_nextToken_67 : decode cX5_nextToken 67 = .ok (.aload_n 0, 1) := by decide +kernel
theorem dX5_nextToken_68 : decode cX5_nextToken 68 = .ok (.getfield 75, 3) := by decide +kernel
theorem dX5_nextToken_71 : decode cX5_nextToken 71 = .ok (.putfield 72, 3) := by decide +kernel
theorem dX5_nextToken_74 : decode cX5_nextToken 74 = .ok (.aload_n 0, 1) := by decide +kernel
theorem dX5_nextToken_75 : decode cX5_nextToken 75 = .ok (.getfield 75, 3) := by decide +kernel
theorem dX5_nextToken_78 : decode cX5_nextToken 78 = .ok (.aload_n 0, 1) := by decide +kernel
theorem dX5_nextToken_79 : decode cX5_nextToken 79 = .ok (.getfield 61, 3) := by decide +kernel
theorem dX5_nextToken_82 : decode cX5_nextToken 82 = .ok (.if_icmp .ge 57, 3) := by decide +kernel
theorem dX5_nextToken_85 : decode cX5_nextToken 85 = .ok (.aload_n 0, 1) := by decide +kernel
theorem dX5_nextToken_86 : decode cX5_nextToken 86 = .ok (.getfield 23, 3) := by decide +kernel
theorem dX5_nextToken_89 : decode cX5_nextToken 89 = .ok (.aload_n 0, 1) := by decide +kernel
theorem dX5_nextToken_90 : decode cX5_nextToken 90 = .ok (.getfield 75, 3) := by decide +kernel
theorem dX5_nextToken_93 : decode cX5_nextToken 93 = .ok (.iaload, 1) := by decide +kernel
theorem dX5_nextToken_94 : decode cX5_nextToken 94 = .ok (.invokestatic 78, 3) := by decide +kernel
theorem dX5_nextToken_97 : decode cX5_nextToken 97 = .ok (.ifCond .eq 42, 3) := by decide +kernel
theorem dX5_nextToken_100 : decode cX5_nextToken 100 = .ok (.aload_n 0, 1) := by decide +kernel
theorem dX5_nextToken_101 : decode cX5_nextToken 101 = .ok (.getfield 72, 3) := by decide +kernel
theorem dX5_nextToken_104 : decode cX5_nextToken 104 = .ok (.aload_n 0, 1) := by decide +kernel
theorem dX5_nextToken_105 : decode cX5_nextToken 105 = .ok (.getfield 61, 3) := by decide +kernel
theorem dX5_nextToken_108 : decode cX5_nextToken 108 = .ok (.if_icmp .ge 96, 3) := by decide +kernel
theorem dX5_nextToken_111 : decode cX5_nextToken 111 = .ok (.aload_n 0, 1) := by decide +kernel
theorem dX5_nextToken_112 : decode cX5_nextToken 112 = .ok (.getfield 23, 3) := by decide +kernel
theorem dX5_nextToken_115 : decode cX5_nextToken 115 = .ok (.aload_n 0, 1) := by decide +kernel
theorem dX5_nextToken_116 : decode cX5_nextToken 116 = .ok (.getfield 72, 3) := by decide +kernel
theorem dX5_nextToken_119 : decode cX5_nextToken 119 = .ok (.iaload, 1) := by decide +kernel
theorem dX5_nextToken_120 : decode cX5_nextToken 120 = .ok (.invokestatic 78, 3) := by decide +kernel
theorem dX5_nextToken_123 : decode cX5_nextToken 123 = .ok (.ifCond .eq 81, 3) := by decide +kernel
theorem dX5_nextToken_126 : decode cX5_nextToken 126 = .ok (.aload_n 0, 1) := by decide +kernel
theorem dX5_nextToken_127 : decode cX5_nextToken 127 = .ok (.dup, 1) := by decide +kernel
theorem dX5_nextToken_128 : decode cX5_nextToken 128 = .ok (.getfield 72, 3) := by decide +kernel
theorem dX5_nextToken_131 : decode cX5_nextToken 131 = .ok (.iconst 1, 1) := by decide +kernel
theorem dX5_nextToken_132 : decode cX5_nextToken 132 = .ok (.iadd, 1) := by decide +kernel
theorem dX5_nextToken_133 : decode cX5_nextToken 133 = .ok (.putfield 72, 3) := by decide +kernel
theorem dX5_nextToken_136 : decode cX5_nextToken 136 = .ok (.goto (-36), 3) := by decide +kernel
theorem dX5_nextToken_139 : decode cX5_nextToken 139 = .ok (.aload_n 0, 1) := by decide +kernel
theorem dX5_nextToken_140 : decode cX5_nextToken 140 = .ok (.getfield 75, 3) := by decide +kernel
theorem dX5_nextToken_143 : decode cX5_nextToken 143 = .ok (.aload_n 0, 1) := by decide +kernel
theorem dX5_nextToken_144 : decode cX5_nextToken 144 = .ok (.getfield 61, 3) := by decide +kernel
theorem dX5_nextToken_147 : decode cX5_nextToken 147 = .ok (.if_icmp .ge 57, 3) := by decide +kernel
theorem dX5_nextToken_150 : decode cX5_nextToken 150 = .ok (.aload_n 0, 1) := by decide +kernel
theorem dX5_nextToken_151 : decode cX5_nextToken 151 = .ok (.getfield 23, 3) := by decide +kernel
theorem dX5_nextToken_154 : decode cX5_nextToken 154 = .ok (.aload_n 0, 1) := by decide +kernel
theorem dX5_nextToken_155 : decode cX5_nextToken 155 = .ok (.getfield 75, 3) := by decide +kernel
theorem dX5_nextToken_158 : decode cX5_nextToken 158 = .ok (.iaload, 1) := by decide +kernel
theorem dX5_nextToken_159 : decode cX5_nextToken 159 = .ok (.invokestatic 82, 3) := by decide +kernel
theorem dX5_nextToken_162 : decode cX5_nextToken 162 = .ok (.ifCond .eq 42, 3) := by decide +kernel
theorem dX5_nextToken_165 : decode cX5_nextToken 165 = .ok (.aload_n 0, 1) := by decide +kernel
theorem dX5_nextToken_166 : decode cX5_nextToken 166 = .ok (.getfield 72, 3) := by decide +kernel
theorem dX5_nextToken_169 : decode cX5_nextToken 169 = .ok (.aload_n 0, 1) := by decide +kernel
theorem dX5_nextToken_170 : decode cX5_nextToken 170 = .ok (.getfield 61, 3) := by decide +kernel
theorem dX5_nextToken_173 : decode cX5_nextToken 173 = .ok (.if_icmp .ge 31, 3) := by decide +kernel
theorem dX5_nextToken_176 : decode cX5_nextToken 176 = .ok (.aload_n 0, 1) := by decide +kernel
theorem dX5_nextToken_177 : decode cX5_nextToken 177 = .ok (.getfield 23, 3) := by decide +kernel
theorem dX5_nextToken_180 : decode cX5_nextToken 180 = .ok (.aload_n 0, 1) := by decide +kernel
theorem dX5_nextToken_181 : decode cX5_nextToken 181 = .ok (.getfield 72, 3) := by decide +kernel
theorem dX5_nextToken_184 : decode cX5_nextToken 184 = .ok (.iaload, 1) := by decide +kernel
theorem dX5_nextToken_185 : decode cX5_nextToken 185 = .ok (.invokestatic 82, 3) := by decide +kernel
theorem dX5_nextToken_188 : decode cX5_nextToken 188 = .ok (.ifCond .eq 16, 3) := by decide +kernel
theorem dX5_nextToken_191 : decode cX5_nextToken 191 = .ok (.aload_n 0, 1) := by decide +kernel
theorem dX5_nextToken_192 : decode cX5_nextToken 192 = .ok (.dup, 1) := by decide +kernel
theorem dX5_nextToken_193 : decode cX5_nextToken 193 = .ok (.getfield 72, 3) := by decide +kernel
theorem dX5_nextToken_196 : decode cX5_nextToken 196 = .ok (.iconst 1, 1) := by decide +kernel
theorem dX5_nextToken_197 : decode cX5_nextToken 197 = .ok (.iadd, 1) := by decide +kernel
theorem dX5_nextToken_198 : decode cX5_nextToken 198 = .ok (.putfield 72, 3) := by decide +kernel
theorem dX5_nextToken_201 : decode cX5_nextToken 201 = .ok (.goto (-36), 3) := by decide +kernel
theorem dX5_nextToken_204 : decode cX5_nextToken 204 = .ok (.return_, 1) := by decide +kernel
theorem dX5_number_0 : decode cX5_number 0 = .ok (.aload_n 0, 1) := by decide +kernel
theorem dX5_number_1 : decode cX5_number 1 = .ok (.getfield 75, 3) := by decide +kernel
theorem dX5_number_4 : decode cX5_number 4 = .ok (.aload_n 0, 1) := by decide +kernel
theorem dX5_number_5 : decode cX5_number 5 = .ok (.getfield 61, 3) := by decide +kernel
theorem dX5_number_8 : decode cX5_number 8 = .ok (.if_icmp .eq 31, 3) := by decide +kernel
theorem dX5_number_11 : decode cX5_number 11 = .ok (.aload_n 0, 1) := by decide +kernel
theorem dX5_number_12 : decode cX5_number 12 = .ok (.getfield 23, 3) := by decide +kernel
theorem dX5_number_15 : decode cX5_number 15 = .ok (.aload_n 0, 1) := by decide +kernel
theorem dX5_number_16 : decode cX5_number 16 = .ok (.getfield 75, 3) := by decide +kernel
theorem dX5_number_19 : decode cX5_number 19 = .ok (.iaload, 1) := by decide +kernel
theorem dX5_number_20 : decode cX5_number 20 = .ok (.invokestatic 82, 3) := by decide +kernel
theorem dX5_number_23 : decode cX5_number 23 = .ok (.ifCond .eq 16, 3) := by decide +kernel
theorem dX5_number_26 : decode cX5_number 26 = .ok (.aload_n 0, 1) := by decide +kernel
theorem dX5_number_27 : decode cX5_number 27 = .ok (.getfield 72, 3) := by decide +kernel
theorem dX5_number_30 : decode cX5_number 30 = .ok (.aload_n 0, 1) := by decide +kernel
theorem dX5_number_31 : decode cX5_number 31 = .ok (.getfield 75, 3) := by decide +kernel
theorem dX5_number_34 : decode cX5_number 34 = .ok (.isub, 1) := by decide +kernel
theorem dX5_number_35 : decode cX5_number 35 = .ok (.iconst 2, 1) := by decide +kernel
theorem dX5_number_36 : decode cX5_number 36 = .ok (.if_icmp .le 5, 3) := by decide +kernel
theorem dX5_number_39 : decode cX5_number 39 = .ok (.iconst 0, 1) := by decide +kernel
theorem dX5_number_40 : decode cX5_number 40 = .ok (.ireturn, 1) := by decide +kernel
theorem dX5_number_41 : decode cX5_number 41 = .ok (.aload_n 0, 1) := by decide +kernel
theorem dX5_number_42 : decode cX5_number 42 = .ok (.getfield 23, 3) := by decide +kernel
theorem dX5_number_45 : decode cX5_number 45 = .ok (.aload_n 0, 1) := by decide +kernel
theorem dX5_number_46 : decode cX5_number 46 = .ok (.getfield 75, 3) := by decide +kernel
theorem dX5_number_49 : decode cX5_number 49 = .ok (.iaload, 1) := by decide +kernel
theorem dX5_number_50 : decode cX5_number 50 = .ok (.bipush 48, 2) := by decide +kernel
theorem dX5_number_52 : decode cX5_number 52 = .ok (.isub, 1) := by decide +kernel
theorem dX5_number_53 : decode cX5_number 53 = .ok (.istore 4, 2) := by decide +kernel
theorem dX5_number_55 : decode cX5_number 55 = .ok (.aload_n 0, 1) := by decide +kernel
theorem dX5_number_56 : decode cX5_number 56 = .ok (.getfield 72, 3) := by decide +kernel
theorem dX5_number_59 : decode cX5_number 59 = .ok (.aload_n 0, 1) := by decide +kernel
theorem dX5_number_60 : decode cX5_number 60 = .ok (.getfield 75, 3) := by decide +kernel
theorem dX5_number_63 : decode cX5_number 63 = .ok (.isub, 1) := by decide +kernel
theorem dX5_number_64 : decode cX5_number 64 = .ok (.iconst 2, 1) := by decide +kernel
theorem dX5_number_65 : decode cX5_number 65 = .ok (.if_icmp .ne 26, 3) := by decide +kernel
theorem dX5_number_68 : decode cX5_number 68 = .ok (.bipush 10, 2) := by decide +kernel
theorem dX5_number_70 : decode cX5_number 70 = .ok (.iload 4, 2) := by decide +kernel
theorem dX5_number_72 : decode cX5_number 72 = .ok (.imul, 1) := by decide +kernel
theorem dX5_number_73 : decode cX5_number 73 = .ok (.aload_n 0, 1) := by decide +kernel
theorem dX5_number_74 : decode cX5_number 74 = .ok (.getfield 23, 3) := by decide +kernel
theorem dX5_number_77 : decode cX5_number 77 = .ok (.aload_n 0, 1) := by decide +kernel
theorem dX5_number_78 : decode cX5_number 78 = .ok (.getfield 75, 3) := by decide +kernel
theorem dX5_number_81 : decode cX5_number 81 = .ok (.iconst 1, 1) := by decide +kernel
theorem dX5_number_82 : decode cX5_number 82 = .ok (.iadd, 1) := by decide +kernel
theorem dX5_number_83 : decode cX5_number 83 = .ok (.iaload, 1) := by decide +kernel
theorem dX5_number_84 : decode cX5_number 84 = .ok (.iadd, 1) := by decide +kernel
theorem dX5_number_85 : decode cX5_number 85 = .ok (.bipush 48, 2) := by decide +kernel
theorem dX5_number_87 : decode cX5_number 87 = .ok (.isub, 1) := by decide +kernel
theorem dX5_number_88 : decode cX5_number 88 = .ok (.goto 5, 3) := by decide +kernel
theorem dX5_number_91 : decode cX5_number 91 = .ok (.iload 4, 2) := by decide +kernel
theorem dX5_number_93 : decode cX5_number 93 = .ok (.istore 4, 2) := by decide +kernel
theorem dX5_number_95 : decode cX5_number 95 = .ok (.iload 4, 2) := by decide +kernel
theorem dX5_number_97 : decode cX5_number 97 = .ok (.i2l, 1) := by decide +kernel
theorem dX5_number_98 : decode cX5_number 98 = .ok (.iload_n 2, 1) := by decide +kernel
theorem dX5_number_99 : decode cX5_number 99 = .ok (.i2l, 1) := by decide +kernel
theorem dX5_number_100 : decode cX5_number 100 = .ok (.iload_n 3, 1) := by decide +kernel
theorem dX5_number_101 : decode cX5_number 101 = .ok (.i2l, 1) := by decide +kernel
theorem dX5_number_102 : decode cX5_number 102 = .ok (.invokestatic 57, 3) := by decide +kernel
theorem dX5_number_105 : decode cX5_number 105 = .ok (.istore 5, 2) := by decide +kernel
theorem dX5_number_107 : decode cX5_number 107 = .ok (.iload 5, 2) := by decide +kernel
theorem dX5_number_109 : decode cX5_number 109 = .ok (.ifCond .eq 15, 3) := by decide +kernel
theorem dX5_number_112 : decode cX5_number 112 = .ok (.aload_n 0, 1) := by decide +kernel
theorem dX5_number_113 : decode cX5_number 113 = .ok (.getfield 32, 3) := by decide +kernel
theorem dX5_number_116 : decode cX5_number 116 = .ok (.iload_n 1, 1) := by decide +kernel
theorem dX5_number_117 : decode cX5_number 117 = .ok (.iload 4, 2) := by decide +kernel
theorem dX5_number_119 : decode cX5_number 119 = .ok (.iastore, 1) := by decide +kernel
theorem dX5_number_120 : decode cX5_number 120 = .ok (.aload_n 0, 1) := by decide +kernel
theorem dX5_number_121 : decode cX5_number 121 = .ok (.invokevirtual 88, 3) := by decide +kernel
theorem dX5_number_124 : decode cX5_number 124 = .ok (.iload 5, 2) := by decide +kernel
theorem dX5_number_126 : decode cX5_number 126 = .ok (.ireturn, 1) := by decide +kernel
theorem dX5_odds_0 : decode cX5_odds 0 = .ok (.aload_n 0, 1) := by decide +kernel
theorem dX5_odds_1 : decode cX5_odds 1 = .ok (.iload_n 1, 1) := by decide +kernel
theorem dX5_odds_2 : decode cX5_odds 2 = .ok (.invokevirtual 139, 3) := by decide +kernel
theorem dX5_odds_5 : decode cX5_odds 5 = .ok (.ifCond .ne 6, 3) := by decide +kernel
theorem dX5_odds_8 : decode cX5_odds 8 = .ok (.bipush (-2), 2) := by decide +kernel
theorem dX5_odds_10 : decode cX5_odds 10 = .ok (.ireturn, 1) := by decide +kernel
theorem dX5_odds_11 : decode cX5_odds 11 = .ok (.iload_n 2, 1) := by decide +kernel
theorem dX5_odds_12 : decode cX5_odds 12 = .ok (.invokestatic 173, 3) := by decide +kernel
theorem dX5_odds_15 : decode cX5_odds 15 = .ok (.ifCond .eq 21, 3) := by decide +kernel
theorem dX5_odds_18 : decode cX5_odds 18 = .ok (.iload_n 3, 1) := by decide +kernel
theorem dX5_odds_19 : decode cX5_odds 19 = .ok (.invokestatic 176, 3) := by decide +kernel
theorem dX5_odds_22 : decode cX5_odds 22 = .ok (.ifCond .eq 14, 3) := by decide +kernel
theorem dX5_odds_25 : decode cX5_odds 25 = .ok (.iload 4, 2) := by decide +kernel
theorem dX5_odds_27 : decode cX5_odds 27 = .ok (.i2l, 1) := by decide +kernel
theorem dX5_odds_28 : decode cX5_odds 28 = .ok (.lconst 0, 1) := by decide +kernel
theorem dX5_odds_29 : decode cX5_odds 29 = .ok (.lconst 1, 1) := by decide +kernel
theorem dX5_odds_30 : decode cX5_odds 30 = .ok (.invokestatic 57, 3) := by decide +kernel
theorem dX5_odds_33 : decode cX5_odds 33 = .ok (.ifCond .ne 6, 3) := by decide +kernel
theorem dX5_odds_36 : decode cX5_odds 36 = .ok (.bipush (-3), 2) := by decide +kernel
theorem dX5_odds_38 : decode cX5_odds 38 = .ok (.ireturn, 1) := by decide +kernel
theorem dX5_odds_39 : decode cX5_odds 39 = .ok (.aload_n 0, 1) := by decide +kernel
theorem dX5_odds_40 : decode cX5_odds 40 = .ok (.iconst 0, 1) := by decide +kernel
theorem dX5_odds_41 : decode cX5_odds 41 = .ok (.iload_n 3, 1) := by decide +kernel
theorem dX5_odds_42 : decode cX5_odds 42 = .ok (.iconst (-1), 1) := by decide +kernel
theorem dX5_odds_43 : decode cX5_odds 43 = .ok (.invokevirtual 179, 3) := by decide +kernel
theorem dX5_odds_46 : decode cX5_odds 46 = .ok (.ifCond .ne 6, 3) := by decide +kernel
theorem dX5_odds_49 : decode cX5_odds 49 = .ok (.bipush (-4), 2) := by decide +kernel
theorem dX5_odds_51 : decode cX5_odds 51 = .ok (.ireturn, 1) := by decide +kernel
theorem dX5_odds_52 : decode cX5_odds 52 = .ok (.aload_n 0, 1) := by decide +kernel
theorem dX5_odds_53 : decode cX5_odds 53 = .ok (.iconst 0, 1) := by decide +kernel
theorem dX5_odds_54 : decode cX5_odds 54 = .ok (.iload_n 1, 1) := by decide +kernel
theorem dX5_odds_55 : decode cX5_odds 55 = .ok (.iload_n 3, 1) := by decide +kernel
theorem dX5_odds_56 : decode cX5_odds 56 = .ok (.invokevirtual 152, 3) := by decide +kernel
theorem dX5_odds_59 : decode cX5_odds 59 = .ok (.ifCond .eq 7, 3) := by decide +kernel
theorem dX5_odds_62 : decode cX5_odds 62 = .ok (.iconst 0, 1) := by decide +kernel
theorem dX5_odds_63 : decode cX5_odds 63 = .ok (.goto 10, 3) := by decide +kernel
theorem dX5_odds_66 : decode cX5_odds 66 = .ok (.aload_n 0, 1) := by decide +kernel
theorem dX5_odds_67 : decode cX5_odds 67 = .ok (.iconst 0, 1) := by decide +kernel
theorem dX5_odds_68 : decode cX5_odds 68 = .ok (.iload_n 1, 1) := by decide +kernel
theorem dX5_odds_69 : decode cX5_odds 69 = .ok (.iload_n 2, 1) := by decide +kernel
theorem dX5_odds_70 : decode cX5_odds 70 = .ok (.invokevirtual 155, 3) := by decide +kernel
theorem dX5_odds_73 : decode cX5_odds 73 = .ok (.istore 5, 2) := by decide +kernel
theorem dX5_odds_75 : decode cX5_odds 75 = .ok (.iconst 0, 1) := by decide +kernel
theorem dX5_odds_76 : decode cX5_odds 76 = .ok (.istore 6, 2) := by decide +kernel
theorem dX5_odds_78 : decode cX5_odds 78 = .ok (.iconst 0, 1) := by decide +kernel
theorem dX5_odds_79 : decode cX5_odds 79 = .ok (.istore 7, 2) := by decide +kernel
theorem dX5_odds_81 : decode cX5_odds 81 = .ok (.iload 7, 2) := by decide +kernel
theorem dX5_odds_83 : decode cX5_odds 83 = .ok (.aload_n 0, 1) := by decide +kernel
theorem dX5_odds_84 : decode cX5_odds 84 = .ok (.getfield 48, 3) := by decide +kernel
theorem dX5_odds_87 : decode cX5_odds 87 = .ok (.if_icmp .ge 37, 3) := by decide +kernel
theorem dX5_odds_90 : decode cX5_odds 90 = .ok (.iload 6, 2) := by decide +kernel
theorem dX5_odds_92 : decode cX5_odds 92 = .ok (.aload_n 0, 1) := by decide +kernel
theorem dX5_odds_93 : decode cX5_odds 93 = .ok (.iconst 0, 1) := by decide +kernel
theorem dX5_odds_94 : decode cX5_odds 94 = .ok (.iload 7, 2) := by decide +kernel
theorem dX5_odds_96 : decode cX5_odds 96 = .ok (.iload_n 3, 1) := by decide +kernel
theorem dX5_odds_97 : decode cX5_odds 97 = .ok (.invokevirtual 152, 3) := by decide +kernel
theorem dX5_odds_100 : decode cX5_odds 100 = .ok (.ifCond .eq 7, 3) := by decide +kernel
theorem dX5_odds_103 : decode cX5_odds 103 = .ok (.iconst 0, 1) := by decide +kernel
theorem dX5_odds_104 : decode cX5_odds 104 = .ok (.goto 11, 3) := by decide +kernel
theorem dX5_odds_107 : decode cX5_odds 107 = .ok (.aload_n 0, 1) := by decide +kernel
theorem dX5_odds_108 : decode cX5_odds 108 = .ok (.iconst 0, 1) := by decide +kernel
theorem dX5_odds_109 : decode cX5_odds 109 = .ok (.iload 7, 2) := by decide +kernel
theorem dX5_odds_111 : decode cX5_odds 111 = .ok (.iload_n 2, 1) := by decide +kernel
theorem dX5_odds_112 : decode cX5_odds 112 = .ok (.invokevirtual 155, 3) := by decide +kernel
theorem dX5_odds_115 : decode cX5_odds 115 = .ok (.iadd, 1) := by decide +kernel
theorem dX5_odds_116 : decode cX5_odds 116 = .ok (.istore 6, 2) := by decide +kernel
theorem dX5_odds_118 : decode cX5_odds 118 = .ok (.iinc 7 1, 3) := by decide +kernel
theorem dX5_odds_121 : decode cX5_odds 121 = .ok (.goto (-40), 3) := by decide +kernel
theorem dX5_odds_124 : decode cX5_odds 124 = .ok (.iload 5, 2) := by decide +kernel
theorem dX5_odds_126 : decode cX5_odds 126 = .ok (.istore 7, 2) := by decide +kernel
theorem dX5_odds_128 : decode cX5_odds 128 = .ok (.iload 6, 2) := by decide +kernel
theorem dX5_odds_130 : decode cX5_odds 130 = .ok (.istore 8, 2) := by decide +kernel
theorem dX5_odds_132 : decode cX5_odds 132 = .ok (.iload 8, 2) := by decide +kernel
theorem dX5_odds_134 : decode cX5_odds 134 = .ok (.ifCond .eq 21, 3) := by decide +kernel
theorem dX5_odds_137 : decode cX5_odds 137 = .ok (.iload 7, 2) := by decide +kernel
theorem dX5_odds_139 : decode cX5_odds 139 = .ok (.iload 8, 2) := by decide +kernel
theorem dX5_odds_141 : decode cX5_odds 141 = .ok (.irem, 1) := by decide +kernel
theorem dX5_odds_142 : decode cX5_odds 142 = .ok (.istore 9, 2) := by decide +kernel
theorem dX5_odds_144 : decode cX5_odds 144 = .ok (.iload 8, 2) := by decide +kernel
theorem dX5_odds_146 : decode cX5_odds 146 = .ok (.istore 7, 2) := by decide +kernel
theorem dX5_odds_148 : decode cX5_odds 148 = .ok (.iload 9, 2) := by decide +kernel
theorem dX5_odds_150 : decode cX5_odds 150 = .ok (.istore 8, 2) := by decide +kernel
theorem dX5_odds_152 : decode cX5_odds 152 = .ok (.goto (-20), 3) := by decide +kernel
theorem dX5_odds_155 : decode cX5_odds 155 = .ok (.iload 4, 2) := by decide +kernel
theorem dX5_odds_157 : decode cX5_odds 157 = .ok (.ifCond .ne 11, 3) := by decide +kernel
theorem dX5_odds_160 : decode cX5_odds 160 = .ok (.iload 5, 2) := by decide +kernel
theorem dX5_odds_162 : decode cX5_odds 162 = .ok (.iload 7, 2) := by decide +kernel
theorem dX5_odds_164 : decode cX5_odds 164 = .ok (.idiv, 1) := by decide +kernel
theorem dX5_odds_165 : decode cX5_odds 165 = .ok (.goto 8, 3) := by decide +kernel
theorem dX5_odds_168 : decode cX5_odds 168 = .ok (.iload 6, 2) := by decide +kernel
theorem dX5_odds_170 : decode cX5_odds 170 = .ok (.iload 7, 2) := by decide +kernel
theorem dX5_odds_172 : decode cX5_odds 172 = .ok (.idiv, 1) := by decide +kernel
theorem dX5_odds_173 : decode cX5_odds 173 = .ok (.ireturn, 1) := by decide +kernel
theorem dX5_owe_0 : decode cX5_owe 0 = .ok (.iconst 0, 1) := by decide +kernel
theorem dX5_owe_1 : decode cX5_owe 1 = .ok (.istore_n 3, 1) := by decide +kernel
theorem dX5_owe_2 : decode cX5_owe 2 = .ok (.iconst 0, 1) := by decide +kernel
theorem dX5_owe_3 : decode cX5_owe 3 = .ok (.istore 4, 2) := by decide +kernel
theorem dX5_owe_5 : decode cX5_owe 5 = .ok (.iload 4, 2) := by decide +kernel
theorem dX5_owe_7 : decode cX5_owe 7 = .ok (.aload_n 0, 1) := by decide +kernel
theorem dX5_owe_8 : decode cX5_owe 8 = .ok (.getfield 48, 3) := by decide +kernel
theorem dX5_owe_11 : decode cX5_owe 11 = .ok (.if_icmp .ge 39, 3) := by decide +kernel
theorem dX5_owe_14 : decode cX5_owe 14 = .ok (.iload_n 3, 1) := by decide +kernel
theorem dX5_owe_15 : decode cX5_owe 15 = .ok (.aload_n 0, 1) := by decide +kernel
theorem dX5_owe_16 : decode cX5_owe 16 = .ok (.getfield 7, 3) := by decide +kernel
theorem dX5_owe_19 : decode cX5_owe 19 = .ok (.iload_n 1, 1) := by decide +kernel
theorem dX5_owe_20 : decode cX5_owe 20 = .ok (.iconst 4, 1) := by decide +kernel
theorem dX5_owe_21 : decode cX5_owe 21 = .ok (.iadd, 1) := by decide +kernel
theorem dX5_owe_22 : decode cX5_owe 22 = .ok (.iaload, 1) := by decide +kernel
theorem dX5_owe_23 : decode cX5_owe 23 = .ok (.iload 4, 2) := by decide +kernel
theorem dX5_owe_25 : decode cX5_owe 25 = .ok (.invokestatic 93, 3) := by decide +kernel
theorem dX5_owe_28 : decode cX5_owe 28 = .ok (.ifCond .eq 7, 3) := by decide +kernel
theorem dX5_owe_31 : decode cX5_owe 31 = .ok (.iconst 0, 1) := by decide +kernel
theorem dX5_owe_32 : decode cX5_owe 32 = .ok (.goto 10, 3) := by decide +kernel
theorem dX5_owe_35 : decode cX5_owe 35 = .ok (.aload_n 0, 1) := by decide +kernel
theorem dX5_owe_36 : decode cX5_owe 36 = .ok (.getfield 13, 3) := by decide +kernel
theorem dX5_owe_39 : decode cX5_owe 39 = .ok (.iload 4, 2) := by decide +kernel
theorem dX5_owe_41 : decode cX5_owe 41 = .ok (.iaload, 1) := by decide +kernel
theorem dX5_owe_42 : decode cX5_owe 42 = .ok (.iadd, 1) := by decide +kernel
theorem dX5_owe_43 : decode cX5_owe 43 = .ok (.istore_n 3, 1) := by decide +kernel
theorem dX5_owe_44 : decode cX5_owe 44 = .ok (.iinc 4 1, 3) := by decide +kernel
theorem dX5_owe_47 : decode cX5_owe 47 = .ok (.goto (-42), 3) := by decide +kernel
theorem dX5_owe_50 : decode cX5_owe 50 = .ok (.iconst 0, 1) := by decide +kernel
theorem dX5_owe_51 : decode cX5_owe 51 = .ok (.istore 4, 2) := by decide +kernel
theorem dX5_owe_53 : decode cX5_owe 53 = .ok (.iload 4, 2) := by decide +kernel
theorem dX5_owe_55 : decode cX5_owe 55 = .ok (.aload_n 0, 1) := by decide +kernel
theorem dX5_owe_56 : decode cX5_owe 56 = .ok (.getfield 48, 3) := by decide +kernel
theorem dX5_owe_59 : decode cX5_owe 59 = .ok (.if_icmp .ge 101, 3) := by decide +kernel
theorem dX5_owe_62 : decode cX5_owe 62 = .ok (.aload_n 0, 1) := by decide +kernel
theorem dX5_owe_63 : decode cX5_owe 63 = .ok (.getfield 7, 3) := by decide +kernel
theorem dX5_owe_66 : decode cX5_owe 66 = .ok (.iload_n 1, 1) := by decide +kernel
theorem dX5_owe_67 : decode cX5_owe 67 = .ok (.bipush 11, 2) := by decide +kernel
theorem dX5_owe_69 : decode cX5_owe 69 = .ok (.iadd, 1) := by decide +kernel
theorem dX5_owe_70 : decode cX5_owe 70 = .ok (.iload 4, 2) := by decide +kernel
theorem dX5_owe_72 : decode cX5_owe 72 = .ok (.iadd, 1) := by decide +kernel
theorem dX5_owe_73 : decode cX5_owe 73 = .ok (.iaload, 1) := by decide +kernel
theorem dX5_owe_74 : decode cX5_owe 74 = .ok (.aload_n 0, 1) := by decide +kernel
theorem dX5_owe_75 : decode cX5_owe 75 = .ok (.getfield 7, 3) := by decide +kernel
theorem dX5_owe_78 : decode cX5_owe 78 = .ok (.iload_n 1, 1) := by decide +kernel
theorem dX5_owe_79 : decode cX5_owe 79 = .ok (.iconst 4, 1) := by decide +kernel
theorem dX5_owe_80 : decode cX5_owe 80 = .ok (.iadd, 1) := by decide +kernel
theorem dX5_owe_81 : decode cX5_owe 81 = .ok (.iaload, 1) := by decide +kernel
theorem dX5_owe_82 : decode cX5_owe 82 = .ok (.iload 4, 2) := by decide +kernel
theorem dX5_owe_84 : decode cX5_owe 84 = .ok (.invokestatic 93, 3) := by decide +kernel
theorem dX5_owe_87 : decode cX5_owe 87 = .ok (.ifCond .eq 7, 3) := by decide +kernel
theorem dX5_owe_90 : decode cX5_owe 90 = .ok (.iconst 0, 1) := by decide +kernel
theorem dX5_owe_91 : decode cX5_owe 91 = .ok (.goto 10, 3) := by decide +kernel
theorem dX5_owe_94 : decode cX5_owe 94 = .ok (.aload_n 0, 1) := by decide +kernel
theorem dX5_owe_95 : decode cX5_owe 95 = .ok (.getfield 13, 3) := by decide +kernel
theorem dX5_owe_98 : decode cX5_owe 98 = .ok (.iload 4, 2) := by decide +kernel
theorem dX5_owe_100 : decode cX5_owe 100 = .ok (.iaload, 1) := by decide +kernel
theorem dX5_owe_101 : decode cX5_owe 101 = .ok (.iadd, 1) := by decide +kernel
theorem dX5_owe_102 : decode cX5_owe 102 = .ok (.iload 4, 2) := by decide +kernel
theorem dX5_owe_104 : decode cX5_owe 104 = .ok (.iload_n 2, 1) := by decide +kernel
theorem dX5_owe_105 : decode cX5_owe 105 = .ok (.if_icmp .ne 7, 3) := by decide +kernel
theorem dX5_owe_108 : decode cX5_owe 108 = .ok (.iload_n 3, 1) := by decide +kernel
theorem dX5_owe_109 : decode cX5_owe 109 = .ok (.goto 4, 3) := by decide +kernel
theorem dX5_owe_112 : decode cX5_owe 112 = .ok (.iconst 0, 1) := by decide +kernel
theorem dX5_owe_113 : decode cX5_owe 113 = .ok (.isub, 1) := by decide +kernel
theorem dX5_owe_114 : decode cX5_owe 114 = .ok (.istore 5, 2) := by decide +kernel
theorem dX5_owe_116 : decode cX5_owe 116 = .ok (.aload_n 0, 1) := by decide +kernel
theorem dX5_owe_117 : decode cX5_owe 117 = .ok (.getfield 7, 3) := by decide +kernel
theorem dX5_owe_120 : decode cX5_owe 120 = .ok (.iload_n 1, 1) := by decide +kernel
theorem dX5_owe_121 : decode cX5_owe 121 = .ok (.bipush 11, 2) := by decide +kernel
theorem dX5_owe_123 : decode cX5_owe 123 = .ok (.iadd, 1) := by decide +kernel
theorem dX5_owe_124 : decode cX5_owe 124 = .ok (.iload 4, 2) := by decide +kernel
theorem dX5_owe_126 : decode cX5_owe 126 = .ok (.iadd, 1) := by decide +kernel
theorem dX5_owe_127 : decode cX5_owe 127 = .ok (.iload 5, 2) := by decide +kernel
theorem dX5_owe_129 : decode cX5_owe 129 = .ok (.bipush (-99), 2) := by decide +kernel
theorem dX5_owe_131 : decode cX5_owe 131 = .ok (.if_icmp .ge 8, 3) := by decide +kernel
theorem dX5_owe_134 : decode cX5_owe 134 = .ok (.bipush (-99), 2) := by decide +kernel
theorem dX5_owe_136 : decode cX5_owe 136 = .ok (.goto 17, 3) := by decide +kernel
theorem dX5_owe_139 : decode cX5_owe 139 = .ok (.iload 5, 2) := by decide +kernel
theorem dX5_owe_141 : decode cX5_owe 141 = .ok (.bipush 99, 2) := by decide +kernel
theorem dX5_owe_143 : decode cX5_owe 143 = .ok (.if_icmp .le 8, 3) := by decide +kernel
theorem dX5_owe_146 : decode cX5_owe 146 = .ok (.bipush 99, 2) := by decide +kernel
theorem dX5_owe_148 : decode cX5_owe 148 = .ok (.goto 5, 3) := by decide +kernel
theorem dX5_owe_151 : decode cX5_owe 151 = .ok (.iload 5, 2) := by decide +kernel
theorem dX5_owe_153 : decode cX5_owe 153 = .ok (.iastore, 1) := by decide +kernel
theorem dX5_owe_154 : decode cX5_owe 154 = .ok (.iinc 4 1, 3) := by decide +kernel
theorem dX5_owe_157 : decode cX5_owe 157 = .ok (.goto (-104), 3) := by decide +kernel
theorem dX5_owe_160 : decode cX5_owe 160 = .ok (.return_, 1) := by decide +kernel
theorem dX5_put_0 : decode cX5_put 0 = .ok (.aload_n 0, 1) := by decide +kernel
theorem dX5_put_1 : decode cX5_put 1 = .ok (.getfield 38, 3) := by decide +kernel
theorem dX5_put_4 : decode cX5_put 4 = .ok (.aload_n 0, 1) := by decide +kernel
theorem dX5_put_5 : decode cX5_put 5 = .ok (.getfield 188, 3) := by decide +kernel
theorem dX5_put_8 : decode cX5_put 8 = .ok (.iload_n 1, 1) := by decide +kernel
theorem dX5_put_9 : decode cX5_put 9 = .ok (.iastore, 1) := by decide +kernel
theorem dX5_put_10 : decode cX5_put 10 = .ok (.aload_n 0, 1) := by decide +kernel
theorem dX5_put_11 : decode cX5_put 11 = .ok (.dup, 1) := by decide +kernel
theorem dX5_put_12 : decode cX5_put 12 = .ok (.getfield 188, 3) := by decide +kernel
theorem dX5_put_15 : decode cX5_put 15 = .ok (.iconst 1, 1) := by decide +kernel
theorem dX5_put_16 : decode cX5_put 16 = .ok (.iadd, 1) := by decide +kernel
theorem dX5_put_17 : decode cX5_put 17 = .ok (.putfield 188, 3) := by decide +kernel
theorem dX5_put_20 : decode cX5_put 20 = .ok (.return_, 1) := by decide +kernel
theorem dX5_reads_0 : decode cX5_reads 0 = .ok (.aload_n 0, 1) := by decide +kernel
theorem dX5_reads_1 : decode cX5_reads 1 = .ok (.iload_n 1, 1) := by decide +kernel
theorem dX5_reads_2 : decode cX5_reads 2 = .ok (.putfield 118, 3) := by decide +kernel
theorem dX5_reads_5 : decode cX5_reads 5 = .ok (.aload_n 0, 1) := by decide +kernel
theorem dX5_reads_6 : decode cX5_reads 6 = .ok (.iconst 0, 1) := by decide +kernel
theorem dX5_reads_7 : decode cX5_reads 7 = .ok (.putfield 72, 3) := by decide +kernel
theorem dX5_reads_10 : decode cX5_reads 10 = .ok (.aload_n 0, 1) := by decide +kernel
theorem dX5_reads_11 : decode cX5_reads 11 = .ok (.iconst 1, 1) := by decide +kernel
theorem dX5_reads_12 : decode cX5_reads 12 = .ok (.putfield 126, 3) := by decide +kernel
theorem dX5_reads_15 : decode cX5_reads 15 = .ok (.aload_n 0, 1) := by decide +kernel
theorem dX5_reads_16 : decode cX5_reads 16 = .ok (.aload_n 0, 1) := by decide +kernel
theorem dX5_reads_17 : decode cX5_reads 17 = .ok (.getfield 48, 3) := by decide +kernel
theorem dX5_reads_20 : decode cX5_reads 20 = .ok (.putfield 109, 3) := by decide +kernel
theorem dX5_reads_23 : decode cX5_reads 23 = .ok (.aload_n 0, 1) := by decide +kernel
theorem dX5_reads_24 : decode cX5_reads 24 = .ok (.invokevirtual 88, 3) := by decide +kernel
theorem dX5_reads_27 : decode cX5_reads 27 = .ok (.aload_n 0, 1) := by decide +kernel
theorem dX5_reads_28 : decode cX5_reads 28 = .ok (.invokevirtual 129, 3) := by decide +kernel
theorem dX5_reads_31 : decode cX5_reads 31 = .ok (.istore_n 2, 1) := by decide +kernel
theorem dX5_reads_32 : decode cX5_reads 32 = .ok (.iload_n 2, 1) := by decide +kernel
theorem dX5_reads_33 : decode cX5_reads 33 = .ok (.ifCond .eq 69, 3) := by decide +kernel
theorem dX5_reads_36 : decode cX5_reads 36 = .ok (.aload_n 0, 1) := by decide +kernel
theorem dX5_reads_37 : decode cX5_reads 37 = .ok (.getfield 75, 3) := by decide +kernel
theorem dX5_reads_40 : decode cX5_reads 40 = .ok (.aload_n 0, 1) := by decide +kernel
theorem dX5_reads_41 : decode cX5_reads 41 = .ok (.getfield 61, 3) := by decide +kernel
theorem dX5_reads_44 : decode cX5_reads 44 = .ok (.if_icmp .ge 58, 3) := by decide +kernel
theorem dX5_reads_47 : decode cX5_reads 47 = .ok (.aload_n 0, 1) := by decide +kernel
theorem dX5_reads_48 : decode cX5_reads 48 = .ok (.getfield 126, 3) := by decide +kernel
theorem dX5_reads_51 : decode cX5_reads 51 = .ok (.bipush 24, 2) := by decide +kernel
theorem dX5_reads_53 : decode cX5_reads 53 = .ok (.if_icmp .ge 21, 3) := by decide +kernel
theorem dX5_reads_56 : decode cX5_reads 56 = .ok (.aload_n 0, 1) := by decide +kernel
theorem dX5_reads_57 : decode cX5_reads 57 = .ok (.getfield 23, 3) := by decide +kernel
theorem dX5_reads_60 : decode cX5_reads 60 = .ok (.aload_n 0, 1) := by decide +kernel
theorem dX5_reads_61 : decode cX5_reads 61 = .ok (.getfield 75, 3) := by decide +kernel
theorem dX5_reads_64 : decode cX5_reads 64 = .ok (.iaload, 1) := by decide +kernel
theorem dX5_reads_65 : decode cX5_reads 65 = .ok (.bipush 59, 2) := by decide +kernel
theorem dX5_reads_67 : decode cX5_reads 67 = .ok (.if_icmp .ne 7, 3) := by decide +kernel
theorem dX5_reads_70 : decode cX5_reads 70 = .ok (.iconst 1, 1) := by decide +kernel
theorem dX5_reads_71 : decode cX5_reads 71 = .ok (.goto 4, 3) := by decide +kernel
theorem dX5_reads_74 : decode cX5_reads 74 = .ok (.iconst 0, 1) := by decide +kernel
theorem dX5_reads_75 : decode cX5_reads 75 = .ok (.istore_n 2, 1) := by decide +kernel
theorem dX5_reads_76 : decode cX5_reads 76 = .ok (.iload_n 2, 1) := by decide +kernel
theorem dX5_reads_77 : decode cX5_reads 77 = .ok (.ifCond .eq (-45), 3) := by decide +kernel
theorem dX5_reads_80 : decode cX5_reads 80 = .ok (.aload_n 0, 1) := by decide +kernel
theorem dX5_reads_81 : decode cX5_reads 81 = .ok (.invokevirtual 88, 3) := by decide +kernel
theorem dX5_reads_84 : decode cX5_reads 84 = .ok (.aload_n 0, 1) := by decide +kernel
theorem dX5_reads_85 : decode cX5_reads 85 = .ok (.invokevirtual 129, 3) := by decide +kernel
theorem dX5_reads_88 : decode cX5_reads 88 = .ok (.istore_n 2, 1) := by decide +kernel
theorem dX5_reads_89 : decode cX5_reads 89 = .ok (.aload_n 0, 1) := by decide +kernel
theorem dX5_reads_90 : decode cX5_reads 90 = .ok (.dup, 1) := by decide +kernel
theorem dX5_reads_91 : decode cX5_reads 91 = .ok (.getfield 126, 3) := by decide +kernel
theorem dX5_reads_94 : decode cX5_reads 94 = .ok (.iconst 1, 1) := by decide +kernel
theorem dX5_reads_95 : decode cX5_reads 95 = .ok (.iadd, 1) := by decide +kernel
theorem dX5_reads_96 : decode cX5_reads 96 = .ok (.putfield 126, 3) := by decide +kernel
theorem dX5_reads_99 : decode cX5_reads 99 = .ok (.goto (-67), 3) := by decide +kernel
theorem dX5_reads_102 : decode cX5_reads 102 = .ok (.iload_n 2, 1) := by decide +kernel
theorem dX5_reads_103 : decode cX5_reads 103 = .ok (.ireturn, 1) := by decide +kernel
theorem dX5_readsClause_0 : decode cX5_readsClause 0 = .ok (.aload_n 0, 1) := by decide +kernel
theorem dX5_readsClause_1 : decode cX5_readsClause 1 = .ok (.iconst 4, 1) := by decide +kernel
theorem dX5_readsClause_2 : decode cX5_readsClause 2 = .ok (.bipush 8, 2) := by decide +kernel
theorem dX5_readsClause_4 : decode cX5_readsClause 4 = .ok (.invokevirtual 97, 3) := by decide +kernel
theorem dX5_readsClause_7 : decode cX5_readsClause 7 = .ok (.istore_n 1, 1) := by decide +kernel
theorem dX5_readsClause_8 : decode cX5_readsClause 8 = .ok (.iload_n 1, 1) := by decide +kernel
theorem dX5_readsClause_9 : decode cX5_readsClause 9 = .ok (.iconst (-1), 1) := by decide +kernel
theorem dX5_readsClause_10 : decode cX5_readsClause 10 = .ok (.if_icmp .eq 17, 3) := by decide +kernel
theorem dX5_readsClause_13 : decode cX5_readsClause 13 = .ok (.iload_n 1, 1) := by decide +kernel
theorem dX5_readsClause_14 : decode cX5_readsClause 14 = .ok (.iconst 5, 1) := by decide +kernel
theorem dX5_readsClause_15 : decode cX5_readsClause 15 = .ok (.if_icmp .ne 14, 3) := by decide +kernel
theorem dX5_readsClause_18 : decode cX5_readsClause 18 = .ok (.aload_n 0, 1) := by decide +kernel
theorem dX5_readsClause_19 : decode cX5_readsClause 19 = .ok (.getfield 109, 3) := by decide +kernel
theorem dX5_readsClause_22 : decode cX5_readsClause 22 = .ok (.bipush 6, 2) := by decide +kernel
theorem dX5_readsClause_24 : decode cX5_readsClause 24 = .ok (.if_icmp .ne 5, 3) := by decide +kernel
theorem dX5_readsClause_27 : decode cX5_readsClause 27 = .ok (.iconst 0, 1) := by decide +kernel
theorem dX5_readsClause_28 : decode cX5_readsClause 28 = .ok (.ireturn, 1) := by decide +kernel
theorem dX5_readsClause_29 : decode cX5_readsClause 29 = .ok (.aload_n 0, 1) := by decide +kernel
theorem dX5_readsClause_30 : decode cX5_readsClause 30 = .ok (.invokevirtual 88, 3) := by decide +kernel
theorem dX5_readsClause_33 : decode cX5_readsClause 33 = .ok (.aload_n 0, 1) := by decide +kernel
theorem dX5_readsClause_34 : decode cX5_readsClause 34 = .ok (.iload_n 1, 1) := by decide +kernel
theorem dX5_readsClause_35 : decode cX5_readsClause 35 = .ok (.invokevirtual 115, 3) := by decide +kernel
theorem dX5_readsClause_38 : decode cX5_readsClause 38 = .ok (.ifCond .ne 5, 3) := by decide +kernel
theorem dX5_readsClause_41 : decode cX5_readsClause 41 = .ok (.iconst 0, 1) := by decide +kernel
theorem dX5_readsClause_42 : decode cX5_readsClause 42 = .ok (.ireturn, 1) := by decide +kernel
theorem dX5_readsClause_43 : decode cX5_readsClause 43 = .ok (.aload_n 0, 1) := by decide +kernel
theorem dX5_readsClause_44 : decode cX5_readsClause 44 = .ok (.iload_n 1, 1) := by decide +kernel
theorem dX5_readsClause_45 : decode cX5_readsClause 45 = .ok (.iconst 4, 1) := by decide +kernel
theorem dX5_readsClause_46 : decode cX5_readsClause 46 = .ok (.if_icmp .ne 7, 3) := by decide +kernel
theorem dX5_readsClause_49 : decode cX5_readsClause 49 = .ok (.iconst 0, 1) := by decide +kernel
theorem dX5_readsClause_50 : decode cX5_readsClause 50 = .ok (.goto 21, 3) := by decide +kernel
theorem dX5_readsClause_53 : decode cX5_readsClause 53 = .ok (.iload_n 1, 1) := by decide +kernel
theorem dX5_readsClause_54 : decode cX5_readsClause 54 = .ok (.iconst 5, 1) := by decide +kernel
theorem dX5_readsClause_55 : decode cX5_readsClause 55 = .ok (.if_icmp .ne 12, 3) := by decide +kernel
theorem dX5_readsClause_58 : decode cX5_readsClause 58 = .ok (.aload_n 0, 1) := by decide +kernel
theorem dX5_readsClause_59 : decode cX5_readsClause 59 = .ok (.getfield 109, 3) := by decide +kernel
theorem dX5_readsClause_62 : decode cX5_readsClause 62 = .ok (.iconst 1, 1) := by decide +kernel
theorem dX5_readsClause_63 : decode cX5_readsClause 63 = .ok (.iadd, 1) := by decide +kernel
theorem dX5_readsClause_64 : decode cX5_readsClause 64 = .ok (.goto 7, 3) := by decide +kernel
theorem dX5_readsClause_67 : decode cX5_readsClause 67 = .ok (.aload_n 0, 1) := by decide +kernel
theorem dX5_readsClause_68 : decode cX5_readsClause 68 = .ok (.getfield 109, 3) := by decide +kernel
theorem dX5_readsClause_71 : decode cX5_readsClause 71 = .ok (.putfield 109, 3) := by decide +kernel
theorem dX5_readsClause_74 : decode cX5_readsClause 74 = .ok (.aload_n 0, 1) := by decide +kernel
theorem dX5_readsClause_75 : decode cX5_readsClause 75 = .ok (.getfield 118, 3) := by decide +kernel
theorem dX5_readsClause_78 : decode cX5_readsClause 78 = .ok (.ifCond .eq 8, 3) := by decide +kernel
theorem dX5_readsClause_81 : decode cX5_readsClause 81 = .ok (.aload_n 0, 1) := by decide +kernel
theorem dX5_readsClause_82 : decode cX5_readsClause 82 = .ok (.iload_n 1, 1) := by decide +kernel
theorem dX5_readsClause_83 : decode cX5_readsClause 83 = .ok (.invokevirtual 122, 3) := by decide +kernel
theorem dX5_readsClause_86 : decode cX5_readsClause 86 = .ok (.iconst 1, 1) := by decide +kernel
theorem dX5_readsClause_87 : decode cX5_readsClause 87 = .ok (.ireturn, 1) := by decide +kernel
theorem dX5_readsRest_0 : decode cX5_readsRest 0 = .ok (.iload_n 1, 1) := by decide +kernel
theorem dX5_readsRest_1 : decode cX5_readsRest 1 = .ok (.tableswitch 102 4 7 #[31, 33, 57, 89], 31) := by decide +kernel
theorem dX5_readsRest_32 : decode cX5_readsRest 32 = .ok (.iconst 1, 1) := by decide +kernel
theorem dX5_readsRest_33 : decode cX5_readsRest 33 = .ok (.ireturn, 1) := by decide +kernel
theorem dX5_readsRest_34 : decode cX5_readsRest 34 = .ok (.aload_n 0, 1) := by decide +kernel
theorem dX5_readsRest_35 : decode cX5_readsRest 35 = .ok (.iconst 0, 1) := by decide +kernel
theorem dX5_readsRest_36 : decode cX5_readsRest 36 = .ok (.iconst 1, 1) := by decide +kernel
theorem dX5_readsRest_37 : decode cX5_readsRest 37 = .ok (.bipush 9, 2) := by decide +kernel
theorem dX5_readsRest_39 : decode cX5_readsRest 39 = .ok (.invokevirtual 101, 3) := by decide +kernel
theorem dX5_readsRest_42 : decode cX5_readsRest 42 = .ok (.ifCond .eq 14, 3) := by decide +kernel
theorem dX5_readsRest_45 : decode cX5_readsRest 45 = .ok (.aload_n 0, 1) := by decide +kernel
theorem dX5_readsRest_46 : decode cX5_readsRest 46 = .ok (.invokevirtual 105, 3) := by decide +kernel
theorem dX5_readsRest_49 : decode cX5_readsRest 49 = .ok (.ifCond .eq 7, 3) := by decide +kernel
theorem dX5_readsRest_52 : decode cX5_readsRest 52 = .ok (.iconst 1, 1) := by decide +kernel
theorem dX5_readsRest_53 : decode cX5_readsRest 53 = .ok (.goto 4, 3) := by decide +kernel
theorem dX5_readsRest_56 : decode cX5_readsRest 56 = .ok (.iconst 0, 1) := by decide +kernel
theorem dX5_readsRest_57 : decode cX5_readsRest 57 = .ok (.ireturn, 1) := by decide +kernel
theorem dX5_readsRest_58 : decode cX5_readsRest 58 = .ok (.aload_n 0, 1) := by decide +kernel
theorem dX5_readsRest_59 : decode cX5_readsRest 59 = .ok (.iconst 0, 1) := by decide +kernel
theorem dX5_readsRest_60 : decode cX5_readsRest 60 = .ok (.iconst 0, 1) := by decide +kernel
theorem dX5_readsRest_61 : decode cX5_readsRest 61 = .ok (.aload_n 0, 1) := by decide +kernel
theorem dX5_readsRest_62 : decode cX5_readsRest 62 = .ok (.getfield 109, 3) := by decide +kernel
theorem dX5_readsRest_65 : decode cX5_readsRest 65 = .ok (.iconst 1, 1) := by decide +kernel
theorem dX5_readsRest_66 : decode cX5_readsRest 66 = .ok (.isub, 1) := by decide +kernel
theorem dX5_readsRest_67 : decode cX5_readsRest 67 = .ok (.invokevirtual 101, 3) := by decide +kernel
theorem dX5_readsRest_70 : decode cX5_readsRest 70 = .ok (.ifCond .eq 18, 3) := by decide +kernel
theorem dX5_readsRest_73 : decode cX5_readsRest 73 = .ok (.aload_n 0, 1) := by decide +kernel
theorem dX5_readsRest_74 : decode cX5_readsRest 74 = .ok (.iconst 1, 1) := by decide +kernel
theorem dX5_readsRest_75 : decode cX5_readsRest 75 = .ok (.iconst 0, 1) := by decide +kernel
theorem dX5_readsRest_76 : decode cX5_readsRest 76 = .ok (.bipush 9, 2) := by decide +kernel
theorem dX5_readsRest_78 : decode cX5_readsRest 78 = .ok (.invokevirtual 101, 3) := by decide +kernel
theorem dX5_readsRest_81 : decode cX5_readsRest 81 = .ok (.ifCond .eq 7, 3) := by decide +kernel
theorem dX5_readsRest_84 : decode cX5_readsRest 84 = .ok (.iconst 1, 1) := by decide +kernel
theorem dX5_readsRest_85 : decode cX5_readsRest 85 = .ok (.goto 4, 3) := by decide +kernel
theorem dX5_readsRest_88 : decode cX5_readsRest 88 = .ok (.iconst 0, 1) := by decide +kernel
theorem dX5_readsRest_89 : decode cX5_readsRest 89 = .ok (.ireturn, 1) := by decide +kernel
theorem dX5_readsRest_90 : decode cX5_readsRest 90 = .ok (.aload_n 0, 1) := by decide +kernel
theorem dX5_readsRest_91 : decode cX5_readsRest 91 = .ok (.iconst 0, 1) := by decide +kernel
theorem dX5_readsRest_92 : decode cX5_readsRest 92 = .ok (.iconst 0, 1) := by decide +kernel
theorem dX5_readsRest_93 : decode cX5_readsRest 93 = .ok (.aload_n 0, 1) := by decide +kernel
theorem dX5_readsRest_94 : decode cX5_readsRest 94 = .ok (.getfield 109, 3) := by decide +kernel
theorem dX5_readsRest_97 : decode cX5_readsRest 97 = .ok (.iconst 1, 1) := by decide +kernel
theorem dX5_readsRest_98 : decode cX5_readsRest 98 = .ok (.isub, 1) := by decide +kernel
theorem dX5_readsRest_99 : decode cX5_readsRest 99 = .ok (.invokevirtual 101, 3) := by decide +kernel
theorem dX5_readsRest_102 : decode cX5_readsRest 102 = .ok (.ireturn, 1) := by decide +kernel
theorem dX5_readsRest_103 : decode cX5_readsRest 103 = .ok (.aload_n 0, 1) := by decide +kernel
theorem dX5_readsRest_104 : decode cX5_readsRest 104 = .ok (.invokevirtual 112, 3) := by decide +kernel
theorem dX5_readsRest_107 : decode cX5_readsRest 107 = .ok (.ireturn, 1) := by decide +kernel
theorem dX5_readsRule_0 : decode cX5_readsRule 0 = .ok (.aload_n 0, 1) := by decide +kernel
theorem dX5_readsRule_1 : decode cX5_readsRule 1 = .ok (.getfield 32, 3) := by decide +kernel
theorem dX5_readsRule_4 : decode cX5_readsRule 4 = .ok (.iconst 0, 1) := by decide +kernel
theorem dX5_readsRule_5 : decode cX5_readsRule 5 = .ok (.aload_n 0, 1) := by decide +kernel
theorem dX5_readsRule_6 : decode cX5_readsRule 6 = .ok (.iconst 0, 1) := by decide +kernel
theorem dX5_readsRule_7 : decode cX5_readsRule 7 = .ok (.iconst 3, 1) := by decide +kernel
theorem dX5_readsRule_8 : decode cX5_readsRule 8 = .ok (.invokevirtual 97, 3) := by decide +kernel
theorem dX5_readsRule_11 : decode cX5_readsRule 11 = .ok (.iastore, 1) := by decide +kernel
theorem dX5_readsRule_12 : decode cX5_readsRule 12 = .ok (.aload_n 0, 1) := by decide +kernel
theorem dX5_readsRule_13 : decode cX5_readsRule 13 = .ok (.getfield 32, 3) := by decide +kernel
theorem dX5_readsRule_16 : decode cX5_readsRule 16 = .ok (.iconst 0, 1) := by decide +kernel
theorem dX5_readsRule_17 : decode cX5_readsRule 17 = .ok (.iaload, 1) := by decide +kernel
theorem dX5_readsRule_18 : decode cX5_readsRule 18 = .ok (.iconst (-1), 1) := by decide +kernel
theorem dX5_readsRule_19 : decode cX5_readsRule 19 = .ok (.if_icmp .eq 7, 3) := by decide +kernel
theorem dX5_readsRule_22 : decode cX5_readsRule 22 = .ok (.iconst 1, 1) := by decide +kernel
theorem dX5_readsRule_23 : decode cX5_readsRule 23 = .ok (.goto 4, 3) := by decide +kernel
theorem dX5_readsRule_26 : decode cX5_readsRule 26 = .ok (.iconst 0, 1) := by decide +kernel
theorem dX5_readsRule_27 : decode cX5_readsRule 27 = .ok (.istore_n 1, 1) := by decide +kernel
theorem dX5_readsRule_28 : decode cX5_readsRule 28 = .ok (.iload_n 1, 1) := by decide +kernel
theorem dX5_readsRule_29 : decode cX5_readsRule 29 = .ok (.ifCond .eq 7, 3) := by decide +kernel
theorem dX5_readsRule_32 : decode cX5_readsRule 32 = .ok (.aload_n 0, 1) := by decide +kernel
theorem dX5_readsRule_33 : decode cX5_readsRule 33 = .ok (.invokevirtual 88, 3) := by decide +kernel
theorem dX5_readsRule_36 : decode cX5_readsRule 36 = .ok (.iload_n 1, 1) := by decide +kernel
theorem dX5_readsRule_37 : decode cX5_readsRule 37 = .ok (.ireturn, 1) := by decide +kernel
theorem dX5_readsVersed_0 : decode cX5_readsVersed 0 = .ok (.aload_n 0, 1) := by decide +kernel
theorem dX5_readsVersed_1 : decode cX5_readsVersed 1 = .ok (.getfield 32, 3) := by decide +kernel
theorem dX5_readsVersed_4 : decode cX5_readsVersed 4 = .ok (.iconst 1, 1) := by decide +kernel
theorem dX5_readsVersed_5 : decode cX5_readsVersed 5 = .ok (.iconst 0, 1) := by decide +kernel
theorem dX5_readsVersed_6 : decode cX5_readsVersed 6 = .ok (.iastore, 1) := by decide +kernel
theorem dX5_readsVersed_7 : decode cX5_readsVersed 7 = .ok (.aload_n 0, 1) := by decide +kernel
theorem dX5_readsVersed_8 : decode cX5_readsVersed 8 = .ok (.getfield 75, 3) := by decide +kernel
theorem dX5_readsVersed_11 : decode cX5_readsVersed 11 = .ok (.aload_n 0, 1) := by decide +kernel
theorem dX5_readsVersed_12 : decode cX5_readsVersed 12 = .ok (.getfield 61, 3) := by decide +kernel
theorem dX5_readsVersed_15 : decode cX5_readsVersed 15 = .ok (.if_icmp .eq 17, 3) := by decide +kernel
theorem dX5_readsVersed_18 : decode cX5_readsVersed 18 = .ok (.aload_n 0, 1) := by decide +kernel
theorem dX5_readsVersed_19 : decode cX5_readsVersed 19 = .ok (.getfield 23, 3) := by decide +kernel
theorem dX5_readsVersed_22 : decode cX5_readsVersed 22 = .ok (.aload_n 0, 1) := by decide +kernel
theorem dX5_readsVersed_23 : decode cX5_readsVersed 23 = .ok (.getfield 75, 3) := by decide +kernel
theorem dX5_readsVersed_26 : decode cX5_readsVersed 26 = .ok (.iaload, 1) := by decide +kernel
theorem dX5_readsVersed_27 : decode cX5_readsVersed 27 = .ok (.bipush 59, 2) := by decide +kernel
theorem dX5_readsVersed_29 : decode cX5_readsVersed 29 = .ok (.if_icmp .ne 5, 3) := by decide +kernel
theorem dX5_readsVersed_32 : decode cX5_readsVersed 32 = .ok (.iconst 1, 1) := by decide +kernel
theorem dX5_readsVersed_33 : decode cX5_readsVersed 33 = .ok (.ireturn, 1) := by decide +kernel
theorem dX5_readsVersed_34 : decode cX5_readsVersed 34 = .ok (.aload_n 0, 1) := by decide +kernel
theorem dX5_readsVersed_35 : decode cX5_readsVersed 35 = .ok (.getfield 23, 3) := by decide +kernel
theorem dX5_readsVersed_38 : decode cX5_readsVersed 38 = .ok (.aload_n 0, 1) := by decide +kernel
theorem dX5_readsVersed_39 : decode cX5_readsVersed 39 = .ok (.getfield 75, 3) := by decide +kernel
theorem dX5_readsVersed_42 : decode cX5_readsVersed 42 = .ok (.iaload, 1) := by decide +kernel
theorem dX5_readsVersed_43 : decode cX5_readsVersed 43 = .ok (.invokestatic 78, 3) := by decide +kernel
theorem dX5_readsVersed_46 : decode cX5_readsVersed 46 = .ok (.istore_n 1, 1) := by decide +kernel
theorem dX5_readsVersed_47 : decode cX5_readsVersed 47 = .ok (.aload_n 0, 1) := by decide +kernel
theorem dX5_readsVersed_48 : decode cX5_readsVersed 48 = .ok (.getfield 75, 3) := by decide +kernel
theorem dX5_readsVersed_51 : decode cX5_readsVersed 51 = .ok (.istore_n 2, 1) := by decide +kernel
theorem dX5_readsVersed_52 : decode cX5_readsVersed 52 = .ok (.iload_n 2, 1) := by decide +kernel
theorem dX5_readsVersed_53 : decode cX5_readsVersed 53 = .ok (.aload_n 0, 1) := by decide +kernel
theorem dX5_readsVersed_54 : decode cX5_readsVersed 54 = .ok (.getfield 72, 3) := by decide +kernel
theorem dX5_readsVersed_57 : decode cX5_readsVersed 57 = .ok (.if_icmp .ge 74, 3) := by decide +kernel
theorem dX5_readsVersed_60 : decode cX5_readsVersed 60 = .ok (.iload_n 1, 1) := by decide +kernel
theorem dX5_readsVersed_61 : decode cX5_readsVersed 61 = .ok (.ifCond .eq 70, 3) := by decide +kernel
theorem dX5_readsVersed_64 : decode cX5_readsVersed 64 = .ok (.aload_n 0, 1) := by decide +kernel
theorem dX5_readsVersed_65 : decode cX5_readsVersed 65 = .ok (.getfield 23, 3) := by decide +kernel
theorem dX5_readsVersed_68 : decode cX5_readsVersed 68 = .ok (.iload_n 2, 1) := by decide +kernel
theorem dX5_readsVersed_69 : decode cX5_readsVersed 69 = .ok (.iaload, 1) := by decide +kernel
theorem dX5_readsVersed_70 : decode cX5_readsVersed 70 = .ok (.bipush 97, 2) := by decide +kernel
theorem dX5_readsVersed_72 : decode cX5_readsVersed 72 = .ok (.isub, 1) := by decide +kernel
theorem dX5_readsVersed_73 : decode cX5_readsVersed 73 = .ok (.istore_n 3, 1) := by decide +kernel
theorem dX5_readsVersed_74 : decode cX5_readsVersed 74 = .ok (.iload_n 3, 1) := by decide +kernel
theorem dX5_readsVersed_75 : decode cX5_readsVersed 75 = .ok (.i2l, 1) := by decide +kernel
theorem dX5_readsVersed_76 : decode cX5_readsVersed 76 = .ok (.lconst 0, 1) := by decide +kernel
theorem dX5_readsVersed_77 : decode cX5_readsVersed 77 = .ok (.ldc2_w 91, 3) := by decide +kernel
theorem dX5_readsVersed_80 : decode cX5_readsVersed 80 = .ok (.invokestatic 57, 3) := by decide +kernel
theorem dX5_readsVersed_83 : decode cX5_readsVersed 83 = .ok (.ifCond .eq 20, 3) := by decide +kernel
theorem dX5_readsVersed_86 : decode cX5_readsVersed 86 = .ok (.aload_n 0, 1) := by decide +kernel
theorem dX5_readsVersed_87 : decode cX5_readsVersed 87 = .ok (.getfield 32, 3) := by decide +kernel
theorem dX5_readsVersed_90 : decode cX5_readsVersed 90 = .ok (.iconst 1, 1) := by decide +kernel
theorem dX5_readsVersed_91 : decode cX5_readsVersed 91 = .ok (.iaload, 1) := by decide +kernel
theorem dX5_readsVersed_92 : decode cX5_readsVersed 92 = .ok (.iload_n 3, 1) := by decide +kernel
theorem dX5_readsVersed_93 : decode cX5_readsVersed 93 = .ok (.invokestatic 93, 3) := by decide +kernel
theorem dX5_readsVersed_96 : decode cX5_readsVersed 96 = .ok (.ifCond .ne 7, 3) := by decide +kernel
theorem dX5_readsVersed_99 : decode cX5_readsVersed 99 = .ok (.iconst 1, 1) := by decide +kernel
theorem dX5_readsVersed_100 : decode cX5_readsVersed 100 = .ok (.goto 4, 3) := by decide +kernel
theorem dX5_readsVersed_103 : decode cX5_readsVersed 103 = .ok (.iconst 0, 1) := by decide +kernel
theorem dX5_readsVersed_104 : decode cX5_readsVersed 104 = .ok (.istore_n 1, 1) := by decide +kernel
theorem dX5_readsVersed_105 : decode cX5_readsVersed 105 = .ok (.aload_n 0, 1) := by decide +kernel
theorem dX5_readsVersed_106 : decode cX5_readsVersed 106 = .ok (.getfield 32, 3) := by decide +kernel
theorem dX5_readsVersed_109 : decode cX5_readsVersed 109 = .ok (.iconst 1, 1) := by decide +kernel
theorem dX5_readsVersed_110 : decode cX5_readsVersed 110 = .ok (.dup2, 1) := by decide +kernel
theorem dX5_readsVersed_111 : decode cX5_readsVersed 111 = .ok (.iaload, 1) := by decide +kernel
theorem dX5_readsVersed_112 : decode cX5_readsVersed 112 = .ok (.iload_n 1, 1) := by decide +kernel
theorem dX5_readsVersed_113 : decode cX5_readsVersed 113 = .ok (.ifCond .eq 9, 3) := by decide +kernel
theorem dX5_readsVersed_116 : decode cX5_readsVersed 116 = .ok (.iconst 1, 1) := by decide +kernel
theorem dX5_readsVersed_117 : decode cX5_readsVersed 117 = .ok (.iload_n 3, 1) := by decide +kernel
theorem dX5_readsVersed_118 : decode cX5_readsVersed 118 = .ok (.ishl, 1) := by decide +kernel
theorem dX5_readsVersed_119 : decode cX5_readsVersed 119 = .ok (.goto 4, 3) := by decide +kernel
theorem dX5_readsVersed_122 : decode cX5_readsVersed 122 = .ok (.iconst 0, 1) := by decide +kernel
theorem dX5_readsVersed_123 : decode cX5_readsVersed 123 = .ok (.ior, 1) := by decide +kernel
theorem dX5_readsVersed_124 : decode cX5_readsVersed 124 = .ok (.iastore, 1) := by decide +kernel
theorem dX5_readsVersed_125 : decode cX5_readsVersed 125 = .ok (.iinc 2 1, 3) := by decide +kernel
theorem dX5_readsVersed_128 : decode cX5_readsVersed 128 = .ok (.goto (-76), 3) := by decide +kernel
theorem dX5_readsVersed_131 : decode cX5_readsVersed 131 = .ok (.iload_n 1, 1) := by decide +kernel
theorem dX5_readsVersed_132 : decode cX5_readsVersed 132 = .ok (.ifCond .eq 7, 3) := by decide +kernel
theorem dX5_readsVersed_135 : decode cX5_readsVersed 135 = .ok (.aload_n 0, 1) := by decide +kernel
theorem dX5_readsVersed_136 : decode cX5_readsVersed 136 = .ok (.invokevirtual 88, 3) := by decide +kernel
theorem dX5_readsVersed_139 : decode cX5_readsVersed 139 = .ok (.iload_n 1, 1) := by decide +kernel
theorem dX5_readsVersed_140 : decode cX5_readsVersed 140 = .ok (.ireturn, 1) := by decide +kernel
theorem dX5_refuse_0 : decode cX5_refuse 0 = .ok (.aload_n 0, 1) := by decide +kernel
theorem dX5_refuse_1 : decode cX5_refuse 1 = .ok (.iload_n 1, 1) := by decide +kernel
theorem dX5_refuse_2 : decode cX5_refuse 2 = .ok (.invokevirtual 142, 3) := by decide +kernel
theorem dX5_refuse_5 : decode cX5_refuse 5 = .ok (.ifCond .ne 6, 3) := by decide +kernel
theorem dX5_refuse_8 : decode cX5_refuse 8 = .ok (.bipush (-2), 2) := by decide +kernel
theorem dX5_refuse_10 : decode cX5_refuse 10 = .ok (.ireturn, 1) := by decide +kernel
theorem dX5_refuse_11 : decode cX5_refuse 11 = .ok (.aload_n 0, 1) := by decide +kernel
theorem dX5_refuse_12 : decode cX5_refuse 12 = .ok (.getfield 7, 3) := by decide +kernel
theorem dX5_refuse_15 : decode cX5_refuse 15 = .ok (.bipush 57, 2) := by decide +kernel
theorem dX5_refuse_17 : decode cX5_refuse 17 = .ok (.iload_n 1, 1) := by decide +kernel
theorem dX5_refuse_18 : decode cX5_refuse 18 = .ok (.iadd, 1) := by decide +kernel
theorem dX5_refuse_19 : decode cX5_refuse 19 = .ok (.iaload, 1) := by decide +kernel
theorem dX5_refuse_20 : decode cX5_refuse 20 = .ok (.istore_n 2, 1) := by decide +kernel
theorem dX5_refuse_21 : decode cX5_refuse 21 = .ok (.aload_n 0, 1) := by decide +kernel
theorem dX5_refuse_22 : decode cX5_refuse 22 = .ok (.getfield 7, 3) := by decide +kernel
theorem dX5_refuse_25 : decode cX5_refuse 25 = .ok (.bipush 37, 2) := by decide +kernel
theorem dX5_refuse_27 : decode cX5_refuse 27 = .ok (.iload_n 1, 1) := by decide +kernel
theorem dX5_refuse_28 : decode cX5_refuse 28 = .ok (.iadd, 1) := by decide +kernel
theorem dX5_refuse_29 : decode cX5_refuse 29 = .ok (.iaload, 1) := by decide +kernel
theorem dX5_refuse_30 : decode cX5_refuse 30 = .ok (.istore_n 3, 1) := by decide +kernel
theorem dX5_refuse_31 : decode cX5_refuse 31 = .ok (.aload_n 0, 1) := by decide +kernel
theorem dX5_refuse_32 : decode cX5_refuse 32 = .ok (.iconst 0, 1) := by decide +kernel
theorem dX5_refuse_33 : decode cX5_refuse 33 = .ok (.iload_n 3, 1) := by decide +kernel
theorem dX5_refuse_34 : decode cX5_refuse 34 = .ok (.iload_n 2, 1) := by decide +kernel
theorem dX5_refuse_35 : decode cX5_refuse 35 = .ok (.invokevirtual 179, 3) := by decide +kernel
theorem dX5_refuse_38 : decode cX5_refuse 38 = .ok (.ifCond .ne 6, 3) := by decide +kernel
theorem dX5_refuse_41 : decode cX5_refuse 41 = .ok (.bipush (-4), 2) := by decide +kernel
theorem dX5_refuse_43 : decode cX5_refuse 43 = .ok (.ireturn, 1) := by decide +kernel
theorem dX5_refuse_44 : decode cX5_refuse 44 = .ok (.aload_n 0, 1) := by decide +kernel
theorem dX5_refuse_45 : decode cX5_refuse 45 = .ok (.invokevirtual 182, 3) := by decide +kernel
theorem dX5_refuse_48 : decode cX5_refuse 48 = .ok (.aload_n 0, 1) := by decide +kernel
theorem dX5_refuse_49 : decode cX5_refuse 49 = .ok (.getfield 7, 3) := by decide +kernel
theorem dX5_refuse_52 : decode cX5_refuse 52 = .ok (.iconst 5, 1) := by decide +kernel
theorem dX5_refuse_53 : decode cX5_refuse 53 = .ok (.iload_n 2, 1) := by decide +kernel
theorem dX5_refuse_54 : decode cX5_refuse 54 = .ok (.iadd, 1) := by decide +kernel
theorem dX5_refuse_55 : decode cX5_refuse 55 = .ok (.dup2, 1) := by decide +kernel
theorem dX5_refuse_56 : decode cX5_refuse 56 = .ok (.iaload, 1) := by decide +kernel
theorem dX5_refuse_57 : decode cX5_refuse 57 = .ok (.iconst 1, 1) := by decide +kernel
theorem dX5_refuse_58 : decode cX5_refuse 58 = .ok (.iload_n 3, 1) := by decide +kernel
theorem dX5_refuse_59 : decode cX5_refuse 59 = .ok (.ishl, 1) := by decide +kernel
theorem dX5_refuse_60 : decode cX5_refuse 60 = .ok (.ior, 1) := by decide +kernel
theorem dX5_refuse_61 : decode cX5_refuse 61 = .ok (.iastore, 1) := by decide +kernel
theorem dX5_refuse_62 : decode cX5_refuse 62 = .ok (.aload_n 0, 1) := by decide +kernel
theorem dX5_refuse_63 : decode cX5_refuse 63 = .ok (.getfield 7, 3) := by decide +kernel
theorem dX5_refuse_66 : decode cX5_refuse 66 = .ok (.bipush 57, 2) := by decide +kernel
theorem dX5_refuse_68 : decode cX5_refuse 68 = .ok (.iload_n 1, 1) := by decide +kernel
theorem dX5_refuse_69 : decode cX5_refuse 69 = .ok (.iadd, 1) := by decide +kernel
theorem dX5_refuse_70 : decode cX5_refuse 70 = .ok (.aload_n 0, 1) := by decide +kernel
theorem dX5_refuse_71 : decode cX5_refuse 71 = .ok (.iconst 0, 1) := by decide +kernel
theorem dX5_refuse_72 : decode cX5_refuse 72 = .ok (.aload_n 0, 1) := by decide +kernel
theorem dX5_refuse_73 : decode cX5_refuse 73 = .ok (.getfield 7, 3) := by decide +kernel
theorem dX5_refuse_76 : decode cX5_refuse 76 = .ok (.bipush 17, 2) := by decide +kernel
theorem dX5_refuse_78 : decode cX5_refuse 78 = .ok (.iload_n 1, 1) := by decide +kernel
theorem dX5_refuse_79 : decode cX5_refuse 79 = .ok (.iadd, 1) := by decide +kernel
theorem dX5_refuse_80 : decode cX5_refuse 80 = .ok (.iaload, 1) := by decide +kernel
theorem dX5_refuse_81 : decode cX5_refuse 81 = .ok (.iload_n 3, 1) := by decide +kernel
theorem dX5_refuse_82 : decode cX5_refuse 82 = .ok (.invokevirtual 185, 3) := by decide +kernel
theorem dX5_refuse_85 : decode cX5_refuse 85 = .ok (.iastore, 1) := by decide +kernel
theorem dX5_refuse_86 : decode cX5_refuse 86 = .ok (.aload_n 0, 1) := by decide +kernel
theorem dX5_refuse_87 : decode cX5_refuse 87 = .ok (.getfield 7, 3) := by decide +kernel
theorem dX5_refuse_90 : decode cX5_refuse 90 = .ok (.bipush 57, 2) := by decide +kernel
theorem dX5_refuse_92 : decode cX5_refuse 92 = .ok (.iload_n 1, 1) := by decide +kernel
theorem dX5_refuse_93 : decode cX5_refuse 93 = .ok (.iadd, 1) := by decide +kernel
theorem dX5_refuse_94 : decode cX5_refuse 94 = .ok (.iaload, 1) := by decide +kernel
theorem dX5_refuse_95 : decode cX5_refuse 95 = .ok (.ireturn, 1) := by decide +kernel
theorem dX5_sameBy_0 : decode cX5_sameBy 0 = .ok (.aload_n 0, 1) := by decide +kernel
theorem dX5_sameBy_1 : decode cX5_sameBy 1 = .ok (.iconst 0, 1) := by decide +kernel
theorem dX5_sameBy_2 : decode cX5_sameBy 2 = .ok (.sipush 924, 3) := by decide +kernel
theorem dX5_sameBy_5 : decode cX5_sameBy 5 = .ok (.invokevirtual 44, 3) := by decide +kernel
theorem dX5_sameBy_8 : decode cX5_sameBy 8 = .ok (.aload_n 0, 1) := by decide +kernel
theorem dX5_sameBy_9 : decode cX5_sameBy 9 = .ok (.sipush 924, 3) := by decide +kernel
theorem dX5_sameBy_12 : decode cX5_sameBy 12 = .ok (.iload_n 1, 1) := by decide +kernel
theorem dX5_sameBy_13 : decode cX5_sameBy 13 = .ok (.invokevirtual 168, 3) := by decide +kernel
theorem dX5_sameBy_16 : decode cX5_sameBy 16 = .ok (.iconst 0, 1) := by decide +kernel
theorem dX5_sameBy_17 : decode cX5_sameBy 17 = .ok (.istore_n 2, 1) := by decide +kernel
theorem dX5_sameBy_18 : decode cX5_sameBy 18 = .ok (.iconst 0, 1) := by decide +kernel
theorem dX5_sameBy_19 : decode cX5_sameBy 19 = .ok (.istore_n 3, 1) := by decide +kernel
theorem dX5_sameBy_20 : decode cX5_sameBy 20 = .ok (.iload_n 3, 1) := by decide +kernel
theorem dX5_sameBy_21 : decode cX5_sameBy 21 = .ok (.aload_n 0, 1) := by decide +kernel
theorem dX5_sameBy_22 : decode cX5_sameBy 22 = .ok (.getfield 7, 3) := by decide +kernel
theorem dX5_sameBy_25 : decode cX5_sameBy 25 = .ok (.iconst 3, 1) := by decide +kernel
theorem dX5_sameBy_26 : decode cX5_sameBy 26 = .ok (.iaload, 1) := by decide +kernel
theorem dX5_sameBy_27 : decode cX5_sameBy 27 = .ok (.if_icmp .ge 54, 3) := by decide +kernel
theorem dX5_sameBy_30 : decode cX5_sameBy 30 = .ok (.iload_n 2, 1) := by decide +kernel
theorem dX5_sameBy_31 : decode cX5_sameBy 31 = .ok (.aload_n 0, 1) := by decide +kernel
theorem dX5_sameBy_32 : decode cX5_sameBy 32 = .ok (.sipush 924, 3) := by decide +kernel
theorem dX5_sameBy_35 : decode cX5_sameBy 35 = .ok (.aload_n 0, 1) := by decide +kernel
theorem dX5_sameBy_36 : decode cX5_sameBy 36 = .ok (.getfield 7, 3) := by decide +kernel
theorem dX5_sameBy_39 : decode cX5_sameBy 39 = .ok (.bipush 17, 2) := by decide +kernel
theorem dX5_sameBy_41 : decode cX5_sameBy 41 = .ok (.iload_n 3, 1) := by decide +kernel
theorem dX5_sameBy_42 : decode cX5_sameBy 42 = .ok (.iadd, 1) := by decide +kernel
theorem dX5_sameBy_43 : decode cX5_sameBy 43 = .ok (.iaload, 1) := by decide +kernel
theorem dX5_sameBy_44 : decode cX5_sameBy 44 = .ok (.aload_n 0, 1) := by decide +kernel
theorem dX5_sameBy_45 : decode cX5_sameBy 45 = .ok (.getfield 7, 3) := by decide +kernel
theorem dX5_sameBy_48 : decode cX5_sameBy 48 = .ok (.bipush 37, 2) := by decide +kernel
theorem dX5_sameBy_50 : decode cX5_sameBy 50 = .ok (.iload_n 3, 1) := by decide +kernel
theorem dX5_sameBy_51 : decode cX5_sameBy 51 = .ok (.iadd, 1) := by decide +kernel
theorem dX5_sameBy_52 : decode cX5_sameBy 52 = .ok (.iaload, 1) := by decide +kernel
theorem dX5_sameBy_53 : decode cX5_sameBy 53 = .ok (.invokevirtual 185, 3) := by decide +kernel
theorem dX5_sameBy_56 : decode cX5_sameBy 56 = .ok (.aload_n 0, 1) := by decide +kernel
theorem dX5_sameBy_57 : decode cX5_sameBy 57 = .ok (.getfield 7, 3) := by decide +kernel
theorem dX5_sameBy_60 : decode cX5_sameBy 60 = .ok (.bipush 57, 2) := by decide +kernel
theorem dX5_sameBy_62 : decode cX5_sameBy 62 = .ok (.iload_n 3, 1) := by decide +kernel
theorem dX5_sameBy_63 : decode cX5_sameBy 63 = .ok (.iadd, 1) := by decide +kernel
theorem dX5_sameBy_64 : decode cX5_sameBy 64 = .ok (.iaload, 1) := by decide +kernel
theorem dX5_sameBy_65 : decode cX5_sameBy 65 = .ok (.if_icmp .ne 7, 3) := by decide +kernel
theorem dX5_sameBy_68 : decode cX5_sameBy 68 = .ok (.iconst 1, 1) := by decide +kernel
theorem dX5_sameBy_69 : decode cX5_sameBy 69 = .ok (.goto 4, 3) := by decide +kernel
theorem dX5_sameBy_72 : decode cX5_sameBy 72 = .ok (.iconst 0, 1) := by decide +kernel
theorem dX5_sameBy_73 : decode cX5_sameBy 73 = .ok (.iadd, 1) := by decide +kernel
theorem dX5_sameBy_74 : decode cX5_sameBy 74 = .ok (.istore_n 2, 1) := by decide +kernel
theorem dX5_sameBy_75 : decode cX5_sameBy 75 = .ok (.iinc 3 1, 3) := by decide +kernel
theorem dX5_sameBy_78 : decode cX5_sameBy 78 = .ok (.goto (-58), 3) := by decide +kernel
theorem dX5_sameBy_81 : decode cX5_sameBy 81 = .ok (.iload_n 2, 1) := by decide +kernel
theorem dX5_sameBy_82 : decode cX5_sameBy 82 = .ok (.ireturn, 1) := by decide +kernel
theorem dX5_seal_0 : decode cX5_seal 0 = .ok (.iload_n 1, 1) := by decide +kernel
theorem dX5_seal_1 : decode cX5_seal 1 = .ok (.iconst 1, 1) := by decide +kernel
theorem dX5_seal_2 : decode cX5_seal 2 = .ok (.if_icmp .ge 6, 3) := by decide +kernel
theorem dX5_seal_5 : decode cX5_seal 5 = .ok (.bipush (-3), 2) := by decide +kernel
theorem dX5_seal_7 : decode cX5_seal 7 = .ok (.ireturn, 1) := by decide +kernel
theorem dX5_seal_8 : decode cX5_seal 8 = .ok (.aload_n 0, 1) := by decide +kernel
theorem dX5_seal_9 : decode cX5_seal 9 = .ok (.getfield 7, 3) := by decide +kernel
theorem dX5_seal_12 : decode cX5_seal 12 = .ok (.iconst 3, 1) := by decide +kernel
theorem dX5_seal_13 : decode cX5_seal 13 = .ok (.iaload, 1) := by decide +kernel
theorem dX5_seal_14 : decode cX5_seal 14 = .ok (.istore_n 2, 1) := by decide +kernel
theorem dX5_seal_15 : decode cX5_seal 15 = .ok (.aload_n 0, 1) := by decide +kernel
theorem dX5_seal_16 : decode cX5_seal 16 = .ok (.iconst 0, 1) := by decide +kernel
theorem dX5_seal_17 : decode cX5_seal 17 = .ok (.iload_n 1, 1) := by decide +kernel
theorem dX5_seal_18 : decode cX5_seal 18 = .ok (.invokevirtual 168, 3) := by decide +kernel
theorem dX5_seal_21 : decode cX5_seal 21 = .ok (.aload_n 0, 1) := by decide +kernel
theorem dX5_seal_22 : decode cX5_seal 22 = .ok (.iconst 0, 1) := by decide +kernel
theorem dX5_seal_23 : decode cX5_seal 23 = .ok (.putfield 136, 3) := by decide +kernel
theorem dX5_seal_26 : decode cX5_seal 26 = .ok (.iload_n 2, 1) := by decide +kernel
theorem dX5_seal_27 : decode cX5_seal 27 = .ok (.ireturn, 1) := by decide +kernel
theorem dX5_sealAt_0 : decode cX5_sealAt 0 = .ok (.aload_n 0, 1) := by decide +kernel
theorem dX5_sealAt_1 : decode cX5_sealAt 1 = .ok (.getfield 7, 3) := by decide +kernel
theorem dX5_sealAt_4 : decode cX5_sealAt 4 = .ok (.iload_n 1, 1) := by decide +kernel
theorem dX5_sealAt_5 : decode cX5_sealAt 5 = .ok (.iconst 0, 1) := by decide +kernel
theorem dX5_sealAt_6 : decode cX5_sealAt 6 = .ok (.iadd, 1) := by decide +kernel
theorem dX5_sealAt_7 : decode cX5_sealAt 7 = .ok (.iload_n 2, 1) := by decide +kernel
theorem dX5_sealAt_8 : decode cX5_sealAt 8 = .ok (.iastore, 1) := by decide +kernel
theorem dX5_sealAt_9 : decode cX5_sealAt 9 = .ok (.aload_n 0, 1) := by decide +kernel
theorem dX5_sealAt_10 : decode cX5_sealAt 10 = .ok (.getfield 7, 3) := by decide +kernel
theorem dX5_sealAt_13 : decode cX5_sealAt 13 = .ok (.iload_n 1, 1) := by decide +kernel
theorem dX5_sealAt_14 : decode cX5_sealAt 14 = .ok (.iconst 1, 1) := by decide +kernel
theorem dX5_sealAt_15 : decode cX5_sealAt 15 = .ok (.iadd, 1) := by decide +kernel
theorem dX5_sealAt_16 : decode cX5_sealAt 16 = .ok (.iload_n 2, 1) := by decide +kernel
theorem dX5_sealAt_17 : decode cX5_sealAt 17 = .ok (.iastore, 1) := by decide +kernel
theorem dX5_sealAt_18 : decode cX5_sealAt 18 = .ok (.aload_n 0, 1) := by decide +kernel
theorem dX5_sealAt_19 : decode cX5_sealAt 19 = .ok (.getfield 7, 3) := by decide +kernel
theorem dX5_sealAt_22 : decode cX5_sealAt 22 = .ok (.iload_n 1, 1) := by decide +kernel
theorem dX5_sealAt_23 : decode cX5_sealAt 23 = .ok (.iconst 2, 1) := by decide +kernel
theorem dX5_sealAt_24 : decode cX5_sealAt 24 = .ok (.iadd, 1) := by decide +kernel
theorem dX5_sealAt_25 : decode cX5_sealAt 25 = .ok (.iconst 0, 1) := by decide +kernel
theorem dX5_sealAt_26 : decode cX5_sealAt 26 = .ok (.iastore, 1) := by decide +kernel
theorem dX5_sealAt_27 : decode cX5_sealAt 27 = .ok (.aload_n 0, 1) := by decide +kernel
theorem dX5_sealAt_28 : decode cX5_sealAt 28 = .ok (.getfield 7, 3) := by decide +kernel
theorem dX5_sealAt_31 : decode cX5_sealAt 31 = .ok (.iload_n 1, 1) := by decide +kernel
theorem dX5_sealAt_32 : decode cX5_sealAt 32 = .ok (.iconst 3, 1) := by decide +kernel
theorem dX5_sealAt_33 : decode cX5_sealAt 33 = .ok (.iadd, 1) := by decide +kernel
theorem dX5_sealAt_34 : decode cX5_sealAt 34 = .ok (.iconst 0, 1) := by decide +kernel
theorem dX5_sealAt_35 : decode cX5_sealAt 35 = .ok (.iastore, 1) := by decide +kernel
theorem dX5_sealAt_36 : decode cX5_sealAt 36 = .ok (.iconst 0, 1) := by decide +kernel
theorem dX5_sealAt_37 : decode cX5_sealAt 37 = .ok (.istore_n 3, 1) := by decide +kernel
theorem dX5_sealAt_38 : decode cX5_sealAt 38 = .ok (.iload_n 3, 1) := by decide +kernel
theorem dX5_sealAt_39 : decode cX5_sealAt 39 = .ok (.bipush 6, 2) := by decide +kernel
theorem dX5_sealAt_41 : decode cX5_sealAt 41 = .ok (.if_icmp .ge 21, 3) := by decide +kernel
theorem dX5_sealAt_44 : decode cX5_sealAt 44 = .ok (.aload_n 0, 1) := by decide +kernel
theorem dX5_sealAt_45 : decode cX5_sealAt 45 = .ok (.getfield 7, 3) := by decide +kernel
theorem dX5_sealAt_48 : decode cX5_sealAt 48 = .ok (.iload_n 1, 1) := by decide +kernel
theorem dX5_sealAt_49 : decode cX5_sealAt 49 = .ok (.bipush 11, 2) := by decide +kernel
theorem dX5_sealAt_51 : decode cX5_sealAt 51 = .ok (.iadd, 1) := by decide +kernel
theorem dX5_sealAt_52 : decode cX5_sealAt 52 = .ok (.iload_n 3, 1) := by decide +kernel
theorem dX5_sealAt_53 : decode cX5_sealAt 53 = .ok (.iadd, 1) := by decide +kernel
theorem dX5_sealAt_54 : decode cX5_sealAt 54 = .ok (.iconst 0, 1) := by decide +kernel
theorem dX5_sealAt_55 : decode cX5_sealAt 55 = .ok (.iastore, 1) := by decide +kernel
theorem dX5_sealAt_56 : decode cX5_sealAt 56 = .ok (.iinc 3 1, 3) := by decide +kernel
theorem dX5_sealAt_59 : decode cX5_sealAt 59 = .ok (.goto (-21), 3) := by decide +kernel
theorem dX5_sealAt_62 : decode cX5_sealAt 62 = .ok (.return_, 1) := by decide +kernel
theorem dX5_sealOf_0 : decode cX5_sealOf 0 = .ok (.iload_n 1, 1) := by decide +kernel
theorem dX5_sealOf_1 : decode cX5_sealOf 1 = .ok (.iconst 1, 1) := by decide +kernel
theorem dX5_sealOf_2 : decode cX5_sealOf 2 = .ok (.if_icmp .lt 15, 3) := by decide +kernel
theorem dX5_sealOf_5 : decode cX5_sealOf 5 = .ok (.iload_n 2, 1) := by decide +kernel
theorem dX5_sealOf_6 : decode cX5_sealOf 6 = .ok (.i2l, 1) := by decide +kernel
theorem dX5_sealOf_7 : decode cX5_sealOf 7 = .ok (.lconst 0, 1) := by decide +kernel
theorem dX5_sealOf_8 : decode cX5_sealOf 8 = .ok (.ldc2_w 197, 3) := by decide +kernel
theorem dX5_sealOf_11 : decode cX5_sealOf 11 = .ok (.invokestatic 57, 3) := by decide +kernel
theorem dX5_sealOf_14 : decode cX5_sealOf 14 = .ok (.ifCond .ne 6, 3) := by decide +kernel
theorem dX5_sealOf_17 : decode cX5_sealOf 17 = .ok (.bipush (-3), 2) := by decide +kernel
theorem dX5_sealOf_19 : decode cX5_sealOf 19 = .ok (.ireturn, 1) := by decide +kernel
theorem dX5_sealOf_20 : decode cX5_sealOf 20 = .ok (.iload_n 1, 1) := by decide +kernel
theorem dX5_sealOf_21 : decode cX5_sealOf 21 = .ok (.ldc 199, 2) := by decide +kernel
theorem dX5_sealOf_23 : decode cX5_sealOf 23 = .ok (.ixor, 1) := by decide +kernel
theorem dX5_sealOf_24 : decode cX5_sealOf 24 = .ok (.istore_n 3, 1) := by decide +kernel
theorem dX5_sealOf_25 : decode cX5_sealOf 25 = .ok (.iconst 0, 1) := by decide +kernel
theorem dX5_sealOf_26 : decode cX5_sealOf 26 = .ok (.istore 4, 2) := by decide +kernel
theorem dX5_sealOf_28 : decode cX5_sealOf 28 = .ok (.iload 4, 2) := by decide +kernel
theorem dX5_sealOf_30 : decode cX5_sealOf 30 = .ok (.iconst 5, 1) := by decide +kernel
theorem dX5_sealOf_31 : decode cX5_sealOf 31 = .ok (.if_icmp .ge 14, 3) := by decide +kernel
theorem dX5_sealOf_34 : decode cX5_sealOf 34 = .ok (.iload_n 3, 1) := by decide +kernel
theorem dX5_sealOf_35 : decode cX5_sealOf 35 = .ok (.invokestatic 148, 3) := by decide +kernel
theorem dX5_sealOf_38 : decode cX5_sealOf 38 = .ok (.istore_n 3, 1) := by decide +kernel
theorem dX5_sealOf_39 : decode cX5_sealOf 39 = .ok (.iinc 4 1, 3) := by decide +kernel
theorem dX5_sealOf_42 : decode cX5_sealOf 42 = .ok (.goto (-14), 3) := by decide +kernel
theorem dX5_sealOf_45 : decode cX5_sealOf 45 = .ok (.bipush 97, 2) := by decide +kernel
theorem dX5_sealOf_47 : decode cX5_sealOf 47 = .ok (.iload_n 3, 1) := by decide +kernel
theorem dX5_sealOf_48 : decode cX5_sealOf 48 = .ok (.iconst 4, 1) := by decide +kernel
theorem dX5_sealOf_49 : decode cX5_sealOf 49 = .ok (.bipush 7, 2) := by decide +kernel
theorem dX5_sealOf_51 : decode cX5_sealOf 51 = .ok (.iload_n 2, 1) := by decide +kernel
theorem dX5_sealOf_52 : decode cX5_sealOf 52 = .ok (.isub, 1) := by decide +kernel
theorem dX5_sealOf_53 : decode cX5_sealOf 53 = .ok (.imul, 1) := by decide +kernel
theorem dX5_sealOf_54 : decode cX5_sealOf 54 = .ok (.iushr, 1) := by decide +kernel
theorem dX5_sealOf_55 : decode cX5_sealOf 55 = .ok (.bipush 15, 2) := by decide +kernel
theorem dX5_sealOf_57 : decode cX5_sealOf 57 = .ok (.iand, 1) := by decide +kernel
theorem dX5_sealOf_58 : decode cX5_sealOf 58 = .ok (.iadd, 1) := by decide +kernel
theorem dX5_sealOf_59 : decode cX5_sealOf 59 = .ok (.ireturn, 1) := by decide +kernel
theorem dX5_slip_0 : decode cX5_slip 0 = .ok (.iload_n 1, 1) := by decide +kernel
theorem dX5_slip_1 : decode cX5_slip 1 = .ok (.invokestatic 210, 3) := by decide +kernel
theorem dX5_slip_4 : decode cX5_slip 4 = .ok (.ifCond .ne 6, 3) := by decide +kernel
theorem dX5_slip_7 : decode cX5_slip 7 = .ok (.bipush (-2), 2) := by decide +kernel
theorem dX5_slip_9 : decode cX5_slip 9 = .ok (.ireturn, 1) := by decide +kernel
theorem dX5_slip_10 : decode cX5_slip 10 = .ok (.aload_n 0, 1) := by decide +kernel
theorem dX5_slip_11 : decode cX5_slip 11 = .ok (.getfield 26, 3) := by decide +kernel
theorem dX5_slip_14 : decode cX5_slip 14 = .ok (.iload_n 1, 1) := by decide +kernel
theorem dX5_slip_15 : decode cX5_slip 15 = .ok (.iconst 0, 1) := by decide +kernel
theorem dX5_slip_16 : decode cX5_slip 16 = .ok (.iastore, 1) := by decide +kernel
theorem dX5_slip_17 : decode cX5_slip 17 = .ok (.iconst 0, 1) := by decide +kernel
theorem dX5_slip_18 : decode cX5_slip 18 = .ok (.ireturn, 1) := by decide +kernel
theorem dX5_standsAt_0 : decode cX5_standsAt 0 = .ok (.iconst 1, 1) := by decide +kernel
theorem dX5_standsAt_1 : decode cX5_standsAt 1 = .ok (.istore 4, 2) := by decide +kernel
theorem dX5_standsAt_3 : decode cX5_standsAt 3 = .ok (.iconst 0, 1) := by decide +kernel
theorem dX5_standsAt_4 : decode cX5_standsAt 4 = .ok (.istore 5, 2) := by decide +kernel
theorem dX5_standsAt_6 : decode cX5_standsAt 6 = .ok (.iload 5, 2) := by decide +kernel
theorem dX5_standsAt_8 : decode cX5_standsAt 8 = .ok (.aload_n 0, 1) := by decide +kernel
theorem dX5_standsAt_9 : decode cX5_standsAt 9 = .ok (.getfield 26, 3) := by decide +kernel
theorem dX5_standsAt_12 : decode cX5_standsAt 12 = .ok (.iload_n 1, 1) := by decide +kernel
theorem dX5_standsAt_13 : decode cX5_standsAt 13 = .ok (.iaload, 1) := by decide +kernel
theorem dX5_standsAt_14 : decode cX5_standsAt 14 = .ok (.if_icmp .ge 68, 3) := by decide +kernel
theorem dX5_standsAt_17 : decode cX5_standsAt 17 = .ok (.iload 4, 2) := by decide +kernel
theorem dX5_standsAt_19 : decode cX5_standsAt 19 = .ok (.ifCond .eq 63, 3) := by decide +kernel
theorem dX5_standsAt_22 : decode cX5_standsAt 22 = .ok (.aload_n 0, 1) := by decide +kernel
theorem dX5_standsAt_23 : decode cX5_standsAt 23 = .ok (.getfield 29, 3) := by decide +kernel
theorem dX5_standsAt_26 : decode cX5_standsAt 26 = .ok (.bipush 40, 2) := by decide +kernel
theorem dX5_standsAt_28 : decode cX5_standsAt 28 = .ok (.iload_n 1, 1) := by decide +kernel
theorem dX5_standsAt_29 : decode cX5_standsAt 29 = .ok (.imul, 1) := by decide +kernel
theorem dX5_standsAt_30 : decode cX5_standsAt 30 = .ok (.iload 5, 2) := by decide +kernel
theorem dX5_standsAt_32 : decode cX5_standsAt 32 = .ok (.iadd, 1) := by decide +kernel
theorem dX5_standsAt_33 : decode cX5_standsAt 33 = .ok (.iaload, 1) := by decide +kernel
theorem dX5_standsAt_34 : decode cX5_standsAt 34 = .ok (.iload_n 2, 1) := by decide +kernel
theorem dX5_standsAt_35 : decode cX5_standsAt 35 = .ok (.ifCond .ne 15, 3) := by decide +kernel
theorem dX5_standsAt_38 : decode cX5_standsAt 38 = .ok (.aload_n 0, 1) := by decide +kernel
theorem dX5_standsAt_39 : decode cX5_standsAt 39 = .ok (.getfield 38, 3) := by decide +kernel
theorem dX5_standsAt_42 : decode cX5_standsAt 42 = .ok (.iload_n 3, 1) := by decide +kernel
theorem dX5_standsAt_43 : decode cX5_standsAt 43 = .ok (.iload 5, 2) := by decide +kernel
theorem dX5_standsAt_45 : decode cX5_standsAt 45 = .ok (.iadd, 1) := by decide +kernel
theorem dX5_standsAt_46 : decode cX5_standsAt 46 = .ok (.iaload, 1) := by decide +kernel
theorem dX5_standsAt_47 : decode cX5_standsAt 47 = .ok (.goto 19, 3) := by decide +kernel
theorem dX5_standsAt_50 : decode cX5_standsAt 50 = .ok (.aload_n 0, 1) := by decide +kernel
theorem dX5_standsAt_51 : decode cX5_standsAt 51 = .ok (.getfield 29, 3) := by decide +kernel
theorem dX5_standsAt_54 : decode cX5_standsAt 54 = .ok (.bipush 40, 2) := by decide +kernel
theorem dX5_standsAt_56 : decode cX5_standsAt 56 = .ok (.iload_n 2, 1) := by decide +kernel
theorem dX5_standsAt_57 : decode cX5_standsAt 57 = .ok (.iconst 1, 1) := by decide +kernel
theorem dX5_standsAt_58 : decode cX5_standsAt 58 = .ok (.isub, 1) := by decide +kernel
theorem dX5_standsAt_59 : decode cX5_standsAt 59 = .ok (.imul, 1) := by decide +kernel
theorem dX5_standsAt_60 : decode cX5_standsAt 60 = .ok (.iload_n 3, 1) := by decide +kernel
theorem dX5_standsAt_61 : decode cX5_standsAt 61 = .ok (.iadd, 1) := by decide +kernel
theorem dX5_standsAt_62 : decode cX5_standsAt 62 = .ok (.iload 5, 2) := by decide +kernel
theorem dX5_standsAt_64 : decode cX5_standsAt 64 = .ok (.iadd, 1) := by decide +kernel
theorem dX5_standsAt_65 : decode cX5_standsAt 65 = .ok (.iaload, 1) := by decide +kernel
theorem dX5_standsAt_66 : decode cX5_standsAt 66 = .ok (.if_icmp .ne 7, 3) := by decide +kernel
theorem dX5_standsAt_69 : decode cX5_standsAt 69 = .ok (.iconst 1, 1) := by decide +kernel
theorem dX5_standsAt_70 : decode cX5_standsAt 70 = .ok (.goto 4, 3) := by decide +kernel
theorem dX5_standsAt_73 : decode cX5_standsAt 73 = .ok (.iconst 0, 1) := by decide +kernel
theorem dX5_standsAt_74 : decode cX5_standsAt 74 = .ok (.istore 4, 2) := by decide +kernel
theorem dX5_standsAt_76 : decode cX5_standsAt 76 = .ok (.iinc 5 1, 3) := by decide +kernel
theorem dX5_standsAt_79 : decode cX5_standsAt 79 = .ok (.goto (-73), 3) := by decide +kernel
theorem dX5_standsAt_82 : decode cX5_standsAt 82 = .ok (.iload 4, 2) := by decide +kernel
theorem dX5_standsAt_84 : decode cX5_standsAt 84 = .ok (.ireturn, 1) := by decide +kernel
theorem dX5_told_0 : decode cX5_told 0 = .ok (.iload_n 1, 1) := by decide +kernel
theorem dX5_told_1 : decode cX5_told 1 = .ok (.tableswitch 117 0 9 #[55, 60, 67, 74, 79, 88, 95, 100, 105, 110], 55) := by decide +kernel
theorem dX5_told_56 : decode cX5_told 56 = .ok (.aload_n 0, 1) := by decide +kernel
theorem dX5_told_57 : decode cX5_told 57 = .ok (.getfield 48, 3) := by decide +kernel
theorem dX5_told_60 : decode cX5_told 60 = .ok (.ireturn, 1) := by decide +kernel
theorem dX5_told_61 : decode cX5_told 61 = .ok (.aload_n 0, 1) := by decide +kernel
theorem dX5_told_62 : decode cX5_told 62 = .ok (.getfield 7, 3) := by decide +kernel
theorem dX5_told_65 : decode cX5_told 65 = .ok (.iconst 3, 1) := by decide +kernel
theorem dX5_told_66 : decode cX5_told 66 = .ok (.iaload, 1) := by decide +kernel
theorem dX5_told_67 : decode cX5_told 67 = .ok (.ireturn, 1) := by decide +kernel
theorem dX5_told_68 : decode cX5_told 68 = .ok (.aload_n 0, 1) := by decide +kernel
theorem dX5_told_69 : decode cX5_told 69 = .ok (.getfield 7, 3) := by decide +kernel
theorem dX5_told_72 : decode cX5_told 72 = .ok (.iconst 2, 1) := by decide +kernel
theorem dX5_told_73 : decode cX5_told 73 = .ok (.iaload, 1) := by decide +kernel
theorem dX5_told_74 : decode cX5_told 74 = .ok (.ireturn, 1) := by decide +kernel
theorem dX5_told_75 : decode cX5_told 75 = .ok (.aload_n 0, 1) := by decide +kernel
theorem dX5_told_76 : decode cX5_told 76 = .ok (.getfield 52, 3) := by decide +kernel
theorem dX5_told_79 : decode cX5_told 79 = .ok (.ireturn, 1) := by decide +kernel
theorem dX5_told_80 : decode cX5_told 80 = .ok (.aload_n 0, 1) := by decide +kernel
theorem dX5_told_81 : decode cX5_told 81 = .ok (.invokevirtual 194, 3) := by decide +kernel
theorem dX5_told_84 : decode cX5_told 84 = .ok (.aload_n 0, 1) := by decide +kernel
theorem dX5_told_85 : decode cX5_told 85 = .ok (.getfield 188, 3) := by decide +kernel
theorem dX5_told_88 : decode cX5_told 88 = .ok (.ireturn, 1) := by decide +kernel
theorem dX5_told_89 : decode cX5_told 89 = .ok (.aload_n 0, 1) := by decide +kernel
theorem dX5_told_90 : decode cX5_told 90 = .ok (.getfield 7, 3) := by decide +kernel
theorem dX5_told_93 : decode cX5_told 93 = .ok (.iconst 4, 1) := by decide +kernel
theorem dX5_told_94 : decode cX5_told 94 = .ok (.iaload, 1) := by decide +kernel
theorem dX5_told_95 : decode cX5_told 95 = .ok (.ireturn, 1) := by decide +kernel
theorem dX5_told_96 : decode cX5_told 96 = .ok (.aload_n 0, 1) := by decide +kernel
theorem dX5_told_97 : decode cX5_told 97 = .ok (.getfield 136, 3) := by decide +kernel
theorem dX5_told_100 : decode cX5_told 100 = .ok (.ireturn, 1) := by decide +kernel
theorem dX5_told_101 : decode cX5_told 101 = .ok (.aload_n 0, 1) := by decide +kernel
theorem dX5_told_102 : decode cX5_told 102 = .ok (.getfield 61, 3) := by decide +kernel
theorem dX5_told_105 : decode cX5_told 105 = .ok (.ireturn, 1) := by decide +kernel
theorem dX5_told_106 : decode cX5_told 106 = .ok (.aload_n 0, 1) := by decide +kernel
theorem dX5_told_107 : decode cX5_told 107 = .ok (.invokevirtual 220, 3) := by decide +kernel
theorem dX5_told_110 : decode cX5_told 110 = .ok (.ireturn, 1) := by decide +kernel
theorem dX5_told_111 : decode cX5_told 111 = .ok (.aload_n 0, 1) := by decide +kernel
theorem dX5_told_112 : decode cX5_told 112 = .ok (.getfield 7, 3) := by decide +kernel
theorem dX5_told_115 : decode cX5_told 115 = .ok (.iconst 0, 1) := by decide +kernel
theorem dX5_told_116 : decode cX5_told 116 = .ok (.iaload, 1) := by decide +kernel
theorem dX5_told_117 : decode cX5_told 117 = .ok (.ireturn, 1) := by decide +kernel
theorem dX5_told_118 : decode cX5_told 118 = .ok (.bipush (-3), 2) := by decide +kernel
theorem dX5_told_120 : decode cX5_told 120 = .ok (.ireturn, 1) := by decide +kernel
theorem dX5_turned_0 : decode cX5_turned 0 = .ok (.iload_n 0, 1) := by decide +kernel
theorem dX5_turned_1 : decode cX5_turned 1 = .ok (.istore_n 1, 1) := by decide +kernel
theorem dX5_turned_2 : decode cX5_turned 2 = .ok (.iload_n 1, 1) := by decide +kernel
theorem dX5_turned_3 : decode cX5_turned 3 = .ok (.iload_n 1, 1) := by decide +kernel
theorem dX5_turned_4 : decode cX5_turned 4 = .ok (.bipush 13, 2) := by decide +kernel
theorem dX5_turned_6 : decode cX5_turned 6 = .ok (.ishl, 1) := by decide +kernel
theorem dX5_turned_7 : decode cX5_turned 7 = .ok (.ixor, 1) := by decide +kernel
theorem dX5_turned_8 : decode cX5_turned 8 = .ok (.istore_n 1, 1) := by decide +kernel
theorem dX5_turned_9 : decode cX5_turned 9 = .ok (.iload_n 1, 1) := by decide +kernel
theorem dX5_turned_10 : decode cX5_turned 10 = .ok (.iload_n 1, 1) := by decide +kernel
theorem dX5_turned_11 : decode cX5_turned 11 = .ok (.bipush 17, 2) := by decide +kernel
theorem dX5_turned_13 : decode cX5_turned 13 = .ok (.iushr, 1) := by decide +kernel
theorem dX5_turned_14 : decode cX5_turned 14 = .ok (.ixor, 1) := by decide +kernel
theorem dX5_turned_15 : decode cX5_turned 15 = .ok (.istore_n 1, 1) := by decide +kernel
theorem dX5_turned_16 : decode cX5_turned 16 = .ok (.iload_n 1, 1) := by decide +kernel
theorem dX5_turned_17 : decode cX5_turned 17 = .ok (.iload_n 1, 1) := by decide +kernel
theorem dX5_turned_18 : decode cX5_turned 18 = .ok (.iconst 5, 1) := by decide +kernel
theorem dX5_turned_19 : decode cX5_turned 19 = .ok (.ishl, 1) := by decide +kernel
theorem dX5_turned_20 : decode cX5_turned 20 = .ok (.ixor, 1) := by decide +kernel
theorem dX5_turned_21 : decode cX5_turned 21 = .ok (.istore_n 1, 1) := by decide +kernel
theorem dX5_turned_22 : decode cX5_turned 22 = .ok (.iload_n 1, 1) := by decide +kernel
theorem dX5_turned_23 : decode cX5_turned 23 = .ok (.ireturn, 1) := by decide +kernel
theorem dX5_undo_0 : decode cX5_undo 0 = .ok (.aload_n 0, 1) := by decide +kernel
theorem dX5_undo_1 : decode cX5_undo 1 = .ok (.getfield 136, 3) := by decide +kernel
theorem dX5_undo_4 : decode cX5_undo 4 = .ok (.ifCond .ne 6, 3) := by decide +kernel
theorem dX5_undo_7 : decode cX5_undo 7 = .ok (.bipush (-4), 2) := by decide +kernel
theorem dX5_undo_9 : decode cX5_undo 9 = .ok (.ireturn, 1) := by decide +kernel
theorem dX5_undo_10 : decode cX5_undo 10 = .ok (.aload_n 0, 1) := by decide +kernel
theorem dX5_undo_11 : decode cX5_undo 11 = .ok (.dup, 1) := by decide +kernel
theorem dX5_undo_12 : decode cX5_undo 12 = .ok (.getfield 136, 3) := by decide +kernel
theorem dX5_undo_15 : decode cX5_undo 15 = .ok (.iconst 1, 1) := by decide +kernel
theorem dX5_undo_16 : decode cX5_undo 16 = .ok (.isub, 1) := by decide +kernel
theorem dX5_undo_17 : decode cX5_undo 17 = .ok (.putfield 136, 3) := by decide +kernel
theorem dX5_undo_20 : decode cX5_undo 20 = .ok (.aload_n 0, 1) := by decide +kernel
theorem dX5_undo_21 : decode cX5_undo 21 = .ok (.bipush 77, 2) := by decide +kernel
theorem dX5_undo_23 : decode cX5_undo 23 = .ok (.bipush 77, 2) := by decide +kernel
theorem dX5_undo_25 : decode cX5_undo 25 = .ok (.aload_n 0, 1) := by decide +kernel
theorem dX5_undo_26 : decode cX5_undo 26 = .ok (.getfield 136, 3) := by decide +kernel
theorem dX5_undo_29 : decode cX5_undo 29 = .ok (.imul, 1) := by decide +kernel
theorem dX5_undo_30 : decode cX5_undo 30 = .ok (.iadd, 1) := by decide +kernel
theorem dX5_undo_31 : decode cX5_undo 31 = .ok (.iconst 0, 1) := by decide +kernel
theorem dX5_undo_32 : decode cX5_undo 32 = .ok (.invokevirtual 44, 3) := by decide +kernel
theorem dX5_undo_35 : decode cX5_undo 35 = .ok (.aload_n 0, 1) := by decide +kernel
theorem dX5_undo_36 : decode cX5_undo 36 = .ok (.getfield 136, 3) := by decide +kernel
theorem dX5_undo_39 : decode cX5_undo 39 = .ok (.ireturn, 1) := by decide +kernel
theorem dX5_value_0 : decode cX5_value 0 = .ok (.iload_n 1, 1) := by decide +kernel
theorem dX5_value_1 : decode cX5_value 1 = .ok (.invokestatic 210, 3) := by decide +kernel
theorem dX5_value_4 : decode cX5_value 4 = .ok (.ifCond .ne 6, 3) := by decide +kernel
theorem dX5_value_7 : decode cX5_value 7 = .ok (.bipush (-2), 2) := by decide +kernel
theorem dX5_value_9 : decode cX5_value 9 = .ok (.ireturn, 1) := by decide +kernel
theorem dX5_value_10 : decode cX5_value 10 = .ok (.aload_n 0, 1) := by decide +kernel
theorem dX5_value_11 : decode cX5_value 11 = .ok (.getfield 26, 3) := by decide +kernel
theorem dX5_value_14 : decode cX5_value 14 = .ok (.iload_n 1, 1) := by decide +kernel
theorem dX5_value_15 : decode cX5_value 15 = .ok (.iaload, 1) := by decide +kernel
theorem dX5_value_16 : decode cX5_value 16 = .ok (.ifCond .ge 6, 3) := by decide +kernel
theorem dX5_value_19 : decode cX5_value 19 = .ok (.bipush (-11), 2) := by decide +kernel
theorem dX5_value_21 : decode cX5_value 21 = .ok (.ireturn, 1) := by decide +kernel
theorem dX5_value_22 : decode cX5_value 22 = .ok (.aload_n 0, 1) := by decide +kernel
theorem dX5_value_23 : decode cX5_value 23 = .ok (.getfield 26, 3) := by decide +kernel
theorem dX5_value_26 : decode cX5_value 26 = .ok (.iload_n 1, 1) := by decide +kernel
theorem dX5_value_27 : decode cX5_value 27 = .ok (.iaload, 1) := by decide +kernel
theorem dX5_value_28 : decode cX5_value 28 = .ok (.i2l, 1) := by decide +kernel
theorem dX5_value_29 : decode cX5_value 29 = .ok (.lconst 1, 1) := by decide +kernel
theorem dX5_value_30 : decode cX5_value 30 = .ok (.ldc2_w 91, 3) := by decide +kernel
theorem dX5_value_33 : decode cX5_value 33 = .ok (.invokestatic 57, 3) := by decide +kernel
theorem dX5_value_36 : decode cX5_value 36 = .ok (.istore_n 2, 1) := by decide +kernel
theorem dX5_value_37 : decode cX5_value 37 = .ok (.iconst 0, 1) := by decide +kernel
theorem dX5_value_38 : decode cX5_value 38 = .ok (.istore_n 3, 1) := by decide +kernel
theorem dX5_value_39 : decode cX5_value 39 = .ok (.iconst 0, 1) := by decide +kernel
theorem dX5_value_40 : decode cX5_value 40 = .ok (.istore 4, 2) := by decide +kernel
theorem dX5_value_42 : decode cX5_value 42 = .ok (.iload 4, 2) := by decide +kernel
theorem dX5_value_44 : decode cX5_value 44 = .ok (.aload_n 0, 1) := by decide +kernel
theorem dX5_value_45 : decode cX5_value 45 = .ok (.getfield 26, 3) := by decide +kernel
theorem dX5_value_48 : decode cX5_value 48 = .ok (.iload_n 1, 1) := by decide +kernel
theorem dX5_value_49 : decode cX5_value 49 = .ok (.iaload, 1) := by decide +kernel
theorem dX5_value_50 : decode cX5_value 50 = .ok (.if_icmp .ge 50, 3) := by decide +kernel
theorem dX5_value_53 : decode cX5_value 53 = .ok (.iload_n 2, 1) := by decide +kernel
theorem dX5_value_54 : decode cX5_value 54 = .ok (.ifCond .eq 46, 3) := by decide +kernel
theorem dX5_value_57 : decode cX5_value 57 = .ok (.aload_n 0, 1) := by decide +kernel
theorem dX5_value_58 : decode cX5_value 58 = .ok (.getfield 29, 3) := by decide +kernel
theorem dX5_value_61 : decode cX5_value 61 = .ok (.bipush 40, 2) := by decide +kernel
theorem dX5_value_63 : decode cX5_value 63 = .ok (.iload_n 1, 1) := by decide +kernel
theorem dX5_value_64 : decode cX5_value 64 = .ok (.imul, 1) := by decide +kernel
theorem dX5_value_65 : decode cX5_value 65 = .ok (.iload 4, 2) := by decide +kernel
theorem dX5_value_67 : decode cX5_value 67 = .ok (.iadd, 1) := by decide +kernel
theorem dX5_value_68 : decode cX5_value 68 = .ok (.iaload, 1) := by decide +kernel
theorem dX5_value_69 : decode cX5_value 69 = .ok (.invokestatic 82, 3) := by decide +kernel
theorem dX5_value_72 : decode cX5_value 72 = .ok (.istore_n 2, 1) := by decide +kernel
theorem dX5_value_73 : decode cX5_value 73 = .ok (.bipush 10, 2) := by decide +kernel
theorem dX5_value_75 : decode cX5_value 75 = .ok (.iload_n 3, 1) := by decide +kernel
theorem dX5_value_76 : decode cX5_value 76 = .ok (.imul, 1) := by decide +kernel
theorem dX5_value_77 : decode cX5_value 77 = .ok (.aload_n 0, 1) := by decide +kernel
theorem dX5_value_78 : decode cX5_value 78 = .ok (.getfield 29, 3) := by decide +kernel
theorem dX5_value_81 : decode cX5_value 81 = .ok (.bipush 40, 2) := by decide +kernel
theorem dX5_value_83 : decode cX5_value 83 = .ok (.iload_n 1, 1) := by decide +kernel
theorem dX5_value_84 : decode cX5_value 84 = .ok (.imul, 1) := by decide +kernel
theorem dX5_value_85 : decode cX5_value 85 = .ok (.iload 4, 2) := by decide +kernel
theorem dX5_value_87 : decode cX5_value 87 = .ok (.iadd, 1) := by decide +kernel
theorem dX5_value_88 : decode cX5_value 88 = .ok (.iaload, 1) := by decide +kernel
theorem dX5_value_89 : decode cX5_value 89 = .ok (.iadd, 1) := by decide +kernel
theorem dX5_value_90 : decode cX5_value 90 = .ok (.bipush 48, 2) := by decide +kernel
theorem dX5_value_92 : decode cX5_value 92 = .ok (.isub, 1) := by decide +kernel
theorem dX5_value_93 : decode cX5_value 93 = .ok (.istore_n 3, 1) := by decide +kernel
theorem dX5_value_94 : decode cX5_value 94 = .ok (.iinc 4 1, 3) := by decide +kernel
theorem dX5_value_97 : decode cX5_value 97 = .ok (.goto (-55), 3) := by decide +kernel
theorem dX5_value_100 : decode cX5_value 100 = .ok (.iload_n 2, 1) := by decide +kernel
theorem dX5_value_101 : decode cX5_value 101 = .ok (.ifCond .eq 7, 3) := by decide +kernel
theorem dX5_value_104 : decode cX5_value 104 = .ok (.iload_n 3, 1) := by decide +kernel
theorem dX5_value_105 : decode cX5_value 105 = .ok (.goto 5, 3) := by decide +kernel
theorem dX5_value_108 : decode cX5_value 108 = .ok (.bipush (-14), 2) := by decide +kernel
theorem dX5_value_110 : decode cX5_value 110 = .ok (.ireturn, 1) := by decide +kernel
theorem dX5_weight_0 : decode cX5_weight 0 = .ok (.aload_n 0, 1) := by decide +kernel
theorem dX5_weight_1 : decode cX5_weight 1 = .ok (.iload_n 1, 1) := by decide +kernel
theorem dX5_weight_2 : decode cX5_weight 2 = .ok (.invokevirtual 139, 3) := by decide +kernel
theorem dX5_weight_5 : decode cX5_weight 5 = .ok (.ifCond .ne 8, 3) := by decide +kernel
theorem dX5_weight_8 : decode cX5_weight 8 = .ok (.bipush (-2), 2) := by decide +kernel
theorem dX5_weight_10 : decode cX5_weight 10 = .ok (.goto 22, 3) := by decide +kernel
theorem dX5_weight_13 : decode cX5_weight 13 = .ok (.iload_n 2, 1) := by decide +kernel
theorem dX5_weight_14 : decode cX5_weight 14 = .ok (.invokestatic 173, 3) := by decide +kernel
theorem dX5_weight_17 : decode cX5_weight 17 = .ok (.ifCond .eq 13, 3) := by decide +kernel
theorem dX5_weight_20 : decode cX5_weight 20 = .ok (.aload_n 0, 1) := by decide +kernel
theorem dX5_weight_21 : decode cX5_weight 21 = .ok (.iconst 0, 1) := by decide +kernel
theorem dX5_weight_22 : decode cX5_weight 22 = .ok (.iload_n 1, 1) := by decide +kernel
theorem dX5_weight_23 : decode cX5_weight 23 = .ok (.iload_n 2, 1) := by decide +kernel
theorem dX5_weight_24 : decode cX5_weight 24 = .ok (.invokevirtual 155, 3) := by decide +kernel
theorem dX5_weight_27 : decode cX5_weight 27 = .ok (.goto 5, 3) := by decide +kernel
theorem dX5_weight_30 : decode cX5_weight 30 = .ok (.bipush (-3), 2) := by decide +kernel
theorem dX5_weight_32 : decode cX5_weight 32 = .ok (.ireturn, 1) := by decide +kernel
theorem dX5_weightOf_0 : decode cX5_weightOf 0 = .ok (.aload_n 0, 1) := by decide +kernel
theorem dX5_weightOf_1 : decode cX5_weightOf 1 = .ok (.getfield 7, 3) := by decide +kernel
theorem dX5_weightOf_4 : decode cX5_weightOf 4 = .ok (.iload_n 1, 1) := by decide +kernel
theorem dX5_weightOf_5 : decode cX5_weightOf 5 = .ok (.iconst 4, 1) := by decide +kernel
theorem dX5_weightOf_6 : decode cX5_weightOf 6 = .ok (.iadd, 1) := by decide +kernel
theorem dX5_weightOf_7 : decode cX5_weightOf 7 = .ok (.iaload, 1) := by decide +kernel
theorem dX5_weightOf_8 : decode cX5_weightOf 8 = .ok (.iload_n 2, 1) := by decide +kernel
theorem dX5_weightOf_9 : decode cX5_weightOf 9 = .ok (.invokestatic 93, 3) := by decide +kernel
theorem dX5_weightOf_12 : decode cX5_weightOf 12 = .ok (.ifCond .eq 5, 3) := by decide +kernel
theorem dX5_weightOf_15 : decode cX5_weightOf 15 = .ok (.iconst 0, 1) := by decide +kernel
theorem dX5_weightOf_16 : decode cX5_weightOf 16 = .ok (.ireturn, 1) := by decide +kernel
theorem dX5_weightOf_17 : decode cX5_weightOf 17 = .ok (.aload_n 0, 1) := by decide +kernel
theorem dX5_weightOf_18 : decode cX5_weightOf 18 = .ok (.getfield 13, 3) := by decide +kernel
theorem dX5_weightOf_21 : decode cX5_weightOf 21 = .ok (.iload_n 2, 1) := by decide +kernel
theorem dX5_weightOf_22 : decode cX5_weightOf 22 = .ok (.iaload, 1) := by decide +kernel
theorem dX5_weightOf_23 : decode cX5_weightOf 23 = .ok (.istore 4, 2) := by decide +kernel
theorem dX5_weightOf_25 : decode cX5_weightOf 25 = .ok (.aload_n 0, 1) := by decide +kernel
theorem dX5_weightOf_26 : decode cX5_weightOf 26 = .ok (.getfield 52, 3) := by decide +kernel
theorem dX5_weightOf_29 : decode cX5_weightOf 29 = .ok (.iconst 1, 1) := by decide +kernel
theorem dX5_weightOf_30 : decode cX5_weightOf 30 = .ok (.if_icmp .eq 11, 3) := by decide +kernel
theorem dX5_weightOf_33 : decode cX5_weightOf 33 = .ok (.aload_n 0, 1) := by decide +kernel
theorem dX5_weightOf_34 : decode cX5_weightOf 34 = .ok (.getfield 52, 3) := by decide +kernel
theorem dX5_weightOf_37 : decode cX5_weightOf 37 = .ok (.iconst 3, 1) := by decide +kernel
theorem dX5_weightOf_38 : decode cX5_weightOf 38 = .ok (.if_icmp .ne 23, 3) := by decide +kernel
theorem dX5_weightOf_41 : decode cX5_weightOf 41 = .ok (.aload_n 0, 1) := by decide +kernel
theorem dX5_weightOf_42 : decode cX5_weightOf 42 = .ok (.getfield 16, 3) := by decide +kernel
theorem dX5_weightOf_45 : decode cX5_weightOf 45 = .ok (.iload_n 2, 1) := by decide +kernel
theorem dX5_weightOf_46 : decode cX5_weightOf 46 = .ok (.iaload, 1) := by decide +kernel
theorem dX5_weightOf_47 : decode cX5_weightOf 47 = .ok (.iload_n 3, 1) := by decide +kernel
theorem dX5_weightOf_48 : decode cX5_weightOf 48 = .ok (.invokestatic 93, 3) := by decide +kernel
theorem dX5_weightOf_51 : decode cX5_weightOf 51 = .ok (.ifCond .eq 10, 3) := by decide +kernel
theorem dX5_weightOf_54 : decode cX5_weightOf 54 = .ok (.iconst 2, 1) := by decide +kernel
theorem dX5_weightOf_55 : decode cX5_weightOf 55 = .ok (.iload 4, 2) := by decide +kernel
theorem dX5_weightOf_57 : decode cX5_weightOf 57 = .ok (.imul, 1) := by decide +kernel
theorem dX5_weightOf_58 : decode cX5_weightOf 58 = .ok (.goto 5, 3) := by decide +kernel
theorem dX5_weightOf_61 : decode cX5_weightOf 61 = .ok (.iload 4, 2) := by decide +kernel
theorem dX5_weightOf_63 : decode cX5_weightOf 63 = .ok (.istore 4, 2) := by decide +kernel
theorem dX5_weightOf_65 : decode cX5_weightOf 65 = .ok (.iload 4, 2) := by decide +kernel
theorem dX5_weightOf_67 : decode cX5_weightOf 67 = .ok (.aload_n 0, 1) := by decide +kernel
theorem dX5_weightOf_68 : decode cX5_weightOf 68 = .ok (.getfield 52, 3) := by decide +kernel
theorem dX5_weightOf_71 : decode cX5_weightOf 71 = .ok (.iconst 2, 1) := by decide +kernel
theorem dX5_weightOf_72 : decode cX5_weightOf 72 = .ok (.if_icmp .eq 11, 3) := by decide +kernel
theorem dX5_weightOf_75 : decode cX5_weightOf 75 = .ok (.aload_n 0, 1) := by decide +kernel
theorem dX5_weightOf_76 : decode cX5_weightOf 76 = .ok (.getfield 52, 3) := by decide +kernel
theorem dX5_weightOf_79 : decode cX5_weightOf 79 = .ok (.iconst 3, 1) := by decide +kernel
theorem dX5_weightOf_80 : decode cX5_weightOf 80 = .ok (.if_icmp .ne 17, 3) := by decide +kernel
theorem dX5_weightOf_83 : decode cX5_weightOf 83 = .ok (.aload_n 0, 1) := by decide +kernel
theorem dX5_weightOf_84 : decode cX5_weightOf 84 = .ok (.getfield 7, 3) := by decide +kernel
theorem dX5_weightOf_87 : decode cX5_weightOf 87 = .ok (.iload_n 1, 1) := by decide +kernel
theorem dX5_weightOf_88 : decode cX5_weightOf 88 = .ok (.bipush 11, 2) := by decide +kernel
theorem dX5_weightOf_90 : decode cX5_weightOf 90 = .ok (.iadd, 1) := by decide +kernel
theorem dX5_weightOf_91 : decode cX5_weightOf 91 = .ok (.iload_n 2, 1) := by decide +kernel
theorem dX5_weightOf_92 : decode cX5_weightOf 92 = .ok (.iadd, 1) := by decide +kernel
theorem dX5_weightOf_93 : decode cX5_weightOf 93 = .ok (.iaload, 1) := by decide +kernel
theorem dX5_weightOf_94 : decode cX5_weightOf 94 = .ok (.goto 4, 3) := by decide +kernel
theorem dX5_weightOf_97 : decode cX5_weightOf 97 = .ok (.iconst 0, 1) := by decide +kernel
theorem dX5_weightOf_98 : decode cX5_weightOf 98 = .ok (.iadd, 1) := by decide +kernel
theorem dX5_weightOf_99 : decode cX5_weightOf 99 = .ok (.istore 4, 2) := by decide +kernel
theorem dX5_weightOf_101 : decode cX5_weightOf 101 = .ok (.iload 4, 2) := by decide +kernel
theorem dX5_weightOf_103 : decode cX5_weightOf 103 = .ok (.iconst 1, 1) := by decide +kernel
theorem dX5_weightOf_104 : decode cX5_weightOf 104 = .ok (.if_icmp .ge 7, 3) := by decide +kernel
theorem dX5_weightOf_107 : decode cX5_weightOf 107 = .ok (.iconst 1, 1) := by decide +kernel
theorem dX5_weightOf_108 : decode cX5_weightOf 108 = .ok (.goto 5, 3) := by decide +kernel
theorem dX5_weightOf_111 : decode cX5_weightOf 111 = .ok (.iload 4, 2) := by decide +kernel
theorem dX5_weightOf_113 : decode cX5_weightOf 113 = .ok (.ireturn, 1) := by decide +kernel
theorem dX5_wheel_0 : decode cX5_wheel 0 = .ok (.aload_n 0, 1) := by decide +kernel
theorem dX5_wheel_1 : decode cX5_wheel 1 = .ok (.iconst 0, 1) := by decide +kernel
theorem dX5_wheel_2 : decode cX5_wheel 2 = .ok (.invokevirtual 132, 3) := by decide +kernel
theorem dX5_wheel_5 : decode cX5_wheel 5 = .ok (.ifCond .ne 6, 3) := by decide +kernel
theorem dX5_wheel_8 : decode cX5_wheel 8 = .ok (.bipush (-4), 2) := by decide +kernel
theorem dX5_wheel_10 : decode cX5_wheel 10 = .ok (.ireturn, 1) := by decide +kernel
theorem dX5_wheel_11 : decode cX5_wheel 11 = .ok (.aload_n 0, 1) := by decide +kernel
theorem dX5_wheel_12 : decode cX5_wheel 12 = .ok (.sipush 847, 3) := by decide +kernel
theorem dX5_wheel_15 : decode cX5_wheel 15 = .ok (.iconst 0, 1) := by decide +kernel
theorem dX5_wheel_16 : decode cX5_wheel 16 = .ok (.invokevirtual 44, 3) := by decide +kernel
theorem dX5_wheel_19 : decode cX5_wheel 19 = .ok (.aload_n 0, 1) := by decide +kernel
theorem dX5_wheel_20 : decode cX5_wheel 20 = .ok (.iconst 1, 1) := by decide +kernel
theorem dX5_wheel_21 : decode cX5_wheel 21 = .ok (.invokevirtual 132, 3) := by decide +kernel
theorem dX5_wheel_24 : decode cX5_wheel 24 = .ok (.pop, 1) := by decide +kernel
theorem dX5_wheel_25 : decode cX5_wheel 25 = .ok (.aload_n 0, 1) := by decide +kernel
theorem dX5_wheel_26 : decode cX5_wheel 26 = .ok (.iconst 0, 1) := by decide +kernel
theorem dX5_wheel_27 : decode cX5_wheel 27 = .ok (.sipush 847, 3) := by decide +kernel
theorem dX5_wheel_30 : decode cX5_wheel 30 = .ok (.invokevirtual 44, 3) := by decide +kernel
theorem dX5_wheel_33 : decode cX5_wheel 33 = .ok (.aload_n 0, 1) := by decide +kernel
theorem dX5_wheel_34 : decode cX5_wheel 34 = .ok (.iconst 0, 1) := by decide +kernel
theorem dX5_wheel_35 : decode cX5_wheel 35 = .ok (.putfield 61, 3) := by decide +kernel
theorem dX5_wheel_38 : decode cX5_wheel 38 = .ok (.aload_n 0, 1) := by decide +kernel
theorem dX5_wheel_39 : decode cX5_wheel 39 = .ok (.iconst 0, 1) := by decide +kernel
theorem dX5_wheel_40 : decode cX5_wheel 40 = .ok (.putfield 136, 3) := by decide +kernel
theorem dX5_wheel_43 : decode cX5_wheel 43 = .ok (.aload_n 0, 1) := by decide +kernel
theorem dX5_wheel_44 : decode cX5_wheel 44 = .ok (.getfield 19, 3) := by decide +kernel
theorem dX5_wheel_47 : decode cX5_wheel 47 = .ok (.iconst 0, 1) := by decide +kernel
theorem dX5_wheel_48 : decode cX5_wheel 48 = .ok (.iconst 0, 1) := by decide +kernel
theorem dX5_wheel_49 : decode cX5_wheel 49 = .ok (.bastore, 1) := by decide +kernel
theorem dX5_wheel_50 : decode cX5_wheel 50 = .ok (.aload_n 0, 1) := by decide +kernel
theorem dX5_wheel_51 : decode cX5_wheel 51 = .ok (.getfield 19, 3) := by decide +kernel
theorem dX5_wheel_54 : decode cX5_wheel 54 = .ok (.iconst 1, 1) := by decide +kernel
theorem dX5_wheel_55 : decode cX5_wheel 55 = .ok (.iconst 0, 1) := by decide +kernel
theorem dX5_wheel_56 : decode cX5_wheel 56 = .ok (.bastore, 1) := by decide +kernel
theorem dX5_wheel_57 : decode cX5_wheel 57 = .ok (.iconst 0, 1) := by decide +kernel
theorem dX5_wheel_58 : decode cX5_wheel 58 = .ok (.istore_n 1, 1) := by decide +kernel
theorem dX5_wheel_59 : decode cX5_wheel 59 = .ok (.iload_n 1, 1) := by decide +kernel
theorem dX5_wheel_60 : decode cX5_wheel 60 = .ok (.iconst 3, 1) := by decide +kernel
theorem dX5_wheel_61 : decode cX5_wheel 61 = .ok (.if_icmp .ge 16, 3) := by decide +kernel
theorem dX5_wheel_64 : decode cX5_wheel 64 = .ok (.aload_n 0, 1) := by decide +kernel
theorem dX5_wheel_65 : decode cX5_wheel 65 = .ok (.getfield 26, 3) := by decide +kernel
theorem dX5_wheel_68 : decode cX5_wheel 68 = .ok (.iload_n 1, 1) := by decide +kernel
theorem dX5_wheel_69 : decode cX5_wheel 69 = .ok (.iconst (-1), 1) := by decide +kernel
theorem dX5_wheel_70 : decode cX5_wheel 70 = .ok (.iastore, 1) := by decide +kernel
theorem dX5_wheel_71 : decode cX5_wheel 71 = .ok (.iinc 1 1, 3) := by decide +kernel
theorem dX5_wheel_74 : decode cX5_wheel 74 = .ok (.goto (-15), 3) := by decide +kernel
theorem dX5_wheel_77 : decode cX5_wheel 77 = .ok (.aload_n 0, 1) := by decide +kernel
theorem dX5_wheel_78 : decode cX5_wheel 78 = .ok (.getfield 126, 3) := by decide +kernel
theorem dX5_wheel_81 : decode cX5_wheel 81 = .ok (.ireturn, 1) := by decide +kernel
theorem dX5_wordOf_0 : decode cX5_wordOf 0 = .ok (.iload_n 1, 1) := by decide +kernel
theorem dX5_wordOf_1 : decode cX5_wordOf 1 = .ok (.istore_n 3, 1) := by decide +kernel
theorem dX5_wordOf_2 : decode cX5_wordOf 2 = .ok (.iload_n 3, 1) := by decide +kernel
theorem dX5_wordOf_3 : decode cX5_wordOf 3 = .ok (.iload_n 2, 1) := by decide +kernel
theorem dX5_wordOf_4 : decode cX5_wordOf 4 = .ok (.if_icmp .gt 19, 3) := by decide +kernel
theorem dX5_wordOf_7 : decode cX5_wordOf 7 = .ok (.aload_n 0, 1) := by decide +kernel
theorem dX5_wordOf_8 : decode cX5_wordOf 8 = .ok (.iload_n 3, 1) := by decide +kernel
theorem dX5_wordOf_9 : decode cX5_wordOf 9 = .ok (.invokevirtual 85, 3) := by decide +kernel
theorem dX5_wordOf_12 : decode cX5_wordOf 12 = .ok (.ifCond .eq 5, 3) := by decide +kernel
theorem dX5_wordOf_15 : decode cX5_wordOf 15 = .ok (.iload_n 3, 1) := by decide +kernel
theorem dX5_wordOf_16 : decode cX5_wordOf 16 = .ok (.ireturn, 1) := by decide +kernel
theorem dX5_wordOf_17 : decode cX5_wordOf 17 = .ok (.iinc 3 1, 3) := by decide +kernel
theorem dX5_wordOf_20 : decode cX5_wordOf 20 = .ok (.goto (-18), 3) := by decide +kernel
theorem dX5_wordOf_23 : decode cX5_wordOf 23 = .ok (.iconst (-1), 1) := by decide +kernel
theorem dX5_wordOf_24 : decode cX5_wordOf 24 = .ok (.ireturn, 1) := by decide +kernel
theorem dX5_write_0 : decode cX5_write 0 = .ok (.iload_n 1, 1) := by decide +kernel
theorem dX5_write_1 : decode cX5_write 1 = .ok (.i2l, 1) := by decide +kernel
theorem dX5_write_2 : decode cX5_write 2 = .ok (.lconst 0, 1) := by decide +kernel
theorem dX5_write_3 : decode cX5_write 3 = .ok (.ldc2_w 55, 3) := by decide +kernel
theorem dX5_write_6 : decode cX5_write 6 = .ok (.invokestatic 57, 3) := by decide +kernel
theorem dX5_write_9 : decode cX5_write 9 = .ok (.ifCond .ne 6, 3) := by decide +kernel
theorem dX5_write_12 : decode cX5_write 12 = .ok (.bipush (-3), 2) := by decide +kernel
theorem dX5_write_14 : decode cX5_write 14 = .ok (.ireturn, 1) := by decide +kernel
theorem dX5_write_15 : decode cX5_write 15 = .ok (.aload_n 0, 1) := by decide +kernel
theorem dX5_write_16 : decode cX5_write 16 = .ok (.getfield 61, 3) := by decide +kernel
theorem dX5_write_19 : decode cX5_write 19 = .ok (.sipush 200, 3) := by decide +kernel
theorem dX5_write_22 : decode cX5_write 22 = .ok (.if_icmp .ne 6, 3) := by decide +kernel
theorem dX5_write_25 : decode cX5_write 25 = .ok (.bipush (-5), 2) := by decide +kernel
theorem dX5_write_27 : decode cX5_write 27 = .ok (.ireturn, 1) := by decide +kernel
theorem dX5_write_28 : decode cX5_write 28 = .ok (.aload_n 0, 1) := by decide +kernel
theorem dX5_write_29 : decode cX5_write 29 = .ok (.getfield 23, 3) := by decide +kernel
theorem dX5_write_32 : decode cX5_write 32 = .ok (.aload_n 0, 1) := by decide +kernel
theorem dX5_write_33 : decode cX5_write 33 = .ok (.getfield 61, 3) := by decide +kernel
theorem dX5_write_36 : decode cX5_write 36 = .ok (.iload_n 1, 1) := by decide +kernel
theorem dX5_write_37 : decode cX5_write 37 = .ok (.iastore, 1) := by decide +kernel
theorem dX5_write_38 : decode cX5_write 38 = .ok (.aload_n 0, 1) := by decide +kernel
theorem dX5_write_39 : decode cX5_write 39 = .ok (.dup, 1) := by decide +kernel
theorem dX5_write_40 : decode cX5_write 40 = .ok (.getfield 61, 3) := by decide +kernel
theorem dX5_write_43 : decode cX5_write 43 = .ok (.iconst 1, 1) := by decide +kernel
theorem dX5_write_44 : decode cX5_write 44 = .ok (.iadd, 1) := by decide +kernel
theorem dX5_write_45 : decode cX5_write 45 = .ok (.putfield 61, 3) := by decide +kernel
theorem dX5_write_48 : decode cX5_write 48 = .ok (.aload_n 0, 1) := by decide +kernel
theorem dX5_write_49 : decode cX5_write 49 = .ok (.getfield 61, 3) := by decide +kernel
theorem dX5_write_52 : decode cX5_write 52 = .ok (.ireturn, 1) := by decide +kernel
theorem dX5_writing_0 : decode cX5_writing 0 = .ok (.iload_n 1, 1) := by decide +kernel
theorem dX5_writing_1 : decode cX5_writing 1 = .ok (.ifCond .ge 6, 3) := by decide +kernel
theorem dX5_writing_4 : decode cX5_writing 4 = .ok (.bipush (-3), 2) := by decide +kernel
theorem dX5_writing_6 : decode cX5_writing 6 = .ok (.ireturn, 1) := by decide +kernel
theorem dX5_writing_7 : decode cX5_writing 7 = .ok (.aload_n 0, 1) := by decide +kernel
theorem dX5_writing_8 : decode cX5_writing 8 = .ok (.invokevirtual 194, 3) := by decide +kernel
theorem dX5_writing_11 : decode cX5_writing 11 = .ok (.iload_n 1, 1) := by decide +kernel
theorem dX5_writing_12 : decode cX5_writing 12 = .ok (.aload_n 0, 1) := by decide +kernel
theorem dX5_writing_13 : decode cX5_writing 13 = .ok (.getfield 188, 3) := by decide +kernel
theorem dX5_writing_16 : decode cX5_writing 16 = .ok (.if_icmp .ge 12, 3) := by decide +kernel
theorem dX5_writing_19 : decode cX5_writing 19 = .ok (.aload_n 0, 1) := by decide +kernel
theorem dX5_writing_20 : decode cX5_writing 20 = .ok (.getfield 38, 3) := by decide +kernel
theorem dX5_writing_23 : decode cX5_writing 23 = .ok (.iload_n 1, 1) := by decide +kernel
theorem dX5_writing_24 : decode cX5_writing 24 = .ok (.iaload, 1) := by decide +kernel
theorem dX5_writing_25 : decode cX5_writing 25 = .ok (.goto 4, 3) := by decide +kernel
theorem dX5_writing_28 : decode cX5_writing 28 = .ok (.iconst (-1), 1) := by decide +kernel
theorem dX5_writing_29 : decode cX5_writing 29 = .ok (.ireturn, 1) := by decide +kernel
end
section
/-- nothing outside [lo, hi) differs -/
def Fr (lo hi : Nat) (hh hh' : HH) : Prop := ∀ i, (i < lo ∨ hi ≤ i) → hh' i = hh i
theorem Fr.rf {lo hi : Nat} {hh : HH} : Fr lo hi hh hh := fun _ _ => rfl
theorem Fr.up {lo hi k : Nat} {hh hh' : HH} (e : va_E) (h : Fr lo hi hh hh') (h1 : lo ≤ k) (h2 : k < hi) : Fr lo hi hh (va_up hh' k e) := fun i hi' => by
  have hn : i ≠ k := by omega
  show (if i = k then e else hh' i) = hh i
  rw [if_neg hn]
  exact h i hi'
theorem Fr.tr {lo hi lo' hi' : Nat} {h1 h2 h3 : HH} (ha : Fr lo hi h1 h2) (hb : Fr lo' hi' h2 h3) (hl : lo ≤ lo') (hh : hi' ≤ hi) : Fr lo hi h1 h3 := fun i hi => (hb i (by omega)).trans (ha i hi)
theorem hAt.fr {G : GG} {lo hi k : Nat} {hh hh' : HH} {e : va_E} (h : hAt G hh k e) (hF : Fr lo hi hh hh') (hk : k < lo ∨ hi ≤ k) : hAt G hh' k e := ⟨h.1, (hF k hk).trans h.2⟩
abbrev AA : Type := Nat → Nat → Int32
abbrev VV : Type := Nat → Int32
abbrev eI (G : GG) (n : Nat) (f : Nat → Int32) : va_E := .inl (gI G, n, .inl f)
abbrev eZ (G : GG) (n : Nat) (f : Nat → Int32) : va_E := .inl (gZ G, n, .inl f)

def fStAt (G : GG) (k : Nat) (v : VV) : List Value := [.ref (ad G (k + 1)), .ref (ad G (k + 2)), .ref (ad G (k + 3)), .ref (ad G (k + 4)), .ref (ad G (k + 5)), .ref (ad G (k + 6)), .ref (ad G (k + 7)), .ref (ad G (k + 8)), .int (v 8), .int (v 9), .int (v 10), .int (v 11), .int (v 12), .int (v 13), .int (v 14)]
def StAt (G : GG) (hh : HH) (k : Nat) (a : AA) (v : VV) : Prop := hAt G hh k (.inr (2, fStAt G k v)) ∧ hAt G hh (k + 1) (eI G 6 (a 0)) ∧ hAt G hh (k + 2) (eI G 6 (a 1)) ∧ hAt G hh (k + 3) (eI G 6 (a 2)) ∧ hAt G hh (k + 4) (eI G 6 (a 3)) ∧ hAt G hh (k + 5) (eI G 20 (a 4)) ∧ hAt G hh (k + 6) (eI G 20 (a 5)) ∧ hAt G hh (k + 7) (eI G 20 (a 6)) ∧ hAt G hh (k + 8) (eI G 6 (a 7))
theorem StAt.a0 {G : GG} {hh : HH} {k : Nat} {a : AA} {v : VV} (h : StAt G hh k a v) : hAt G hh (k + 1) (eI G 6 (a 0)) := h.2.1
theorem StAt.a1 {G : GG} {hh : HH} {k : Nat} {a : AA} {v : VV} (h : StAt G hh k a v) : hAt G hh (k + 2) (eI G 6 (a 1)) := h.2.2.1
theorem StAt.a2 {G : GG} {hh : HH} {k : Nat} {a : AA} {v : VV} (h : StAt G hh k a v) : hAt G hh (k + 3) (eI G 6 (a 2)) := h.2.2.2.1
theorem StAt.a3 {G : GG} {hh : HH} {k : Nat} {a : AA} {v : VV} (h : StAt G hh k a v) : hAt G hh (k + 4) (eI G 6 (a 3)) := h.2.2.2.2.1
theorem StAt.a4 {G : GG} {hh : HH} {k : Nat} {a : AA} {v : VV} (h : StAt G hh k a v) : hAt G hh (k + 5) (eI G 20 (a 4)) := h.2.2.2.2.2.1
theorem StAt.a5 {G : GG} {hh : HH} {k : Nat} {a : AA} {v : VV} (h : StAt G hh k a v) : hAt G hh (k + 6) (eI G 20 (a 5)) := h.2.2.2.2.2.2.1
theorem StAt.a6 {G : GG} {hh : HH} {k : Nat} {a : AA} {v : VV} (h : StAt G hh k a v) : hAt G hh (k + 7) (eI G 20 (a 6)) := h.2.2.2.2.2.2.2.1
theorem StAt.a7 {G : GG} {hh : HH} {k : Nat} {a : AA} {v : VV} (h : StAt G hh k a v) : hAt G hh (k + 8) (eI G 6 (a 7)) := h.2.2.2.2.2.2.2.2
theorem StAt.p8 {G : GG} {hh : HH} {k : Nat} {a : AA} {v : VV} (h : StAt G hh k a v) (x : Int32) : StAt G (va_up hh k (.inr (2, (fStAt G k v).set 8 (.int x)))) k a (va_up v 8 x) := ⟨hAt.up h.1.1, (h.a0).ne (by omega), (h.a1).ne (by omega), (h.a2).ne (by omega), (h.a3).ne (by omega), (h.a4).ne (by omega), (h.a5).ne (by omega), (h.a6).ne (by omega), (h.a7).ne (by omega)⟩
theorem StAt.p9 {G : GG} {hh : HH} {k : Nat} {a : AA} {v : VV} (h : StAt G hh k a v) (x : Int32) : StAt G (va_up hh k (.inr (2, (fStAt G k v).set 9 (.int x)))) k a (va_up v 9 x) := ⟨hAt.up h.1.1, (h.a0).ne (by omega), (h.a1).ne (by omega), (h.a2).ne (by omega), (h.a3).ne (by omega), (h.a4).ne (by omega), (h.a5).ne (by omega), (h.a6).ne (by omega), (h.a7).ne (by omega)⟩
theorem StAt.p10 {G : GG} {hh : HH} {k : Nat} {a : AA} {v : VV} (h : StAt G hh k a v) (x : Int32) : StAt G (va_up hh k (.inr (2, (fStAt G k v).set 10 (.int x)))) k a (va_up v 10 x) := ⟨hAt.up h.1.1, (h.a0).ne (by omega), (h.a1).ne (by omega), (h.a2).ne (by omega), (h.a3).ne (by omega), (h.a4).ne (by omega), (h.a5).ne (by omega), (h.a6).ne (by omega), (h.a7).ne (by omega)⟩
theorem StAt.p11 {G : GG} {hh : HH} {k : Nat} {a : AA} {v : VV} (h : StAt G hh k a v) (x : Int32) : StAt G (va_up hh k (.inr (2, (fStAt G k v).set 11 (.int x)))) k a (va_up v 11 x) := ⟨hAt.up h.1.1, (h.a0).ne (by omega), (h.a1).ne (by omega), (h.a2).ne (by omega), (h.a3).ne (by omega), (h.a4).ne (by omega), (h.a5).ne (by omega), (h.a6).ne (by omega), (h.a7).ne (by omega)⟩
theorem StAt.p12 {G : GG} {hh : HH} {k : Nat} {a : AA} {v : VV} (h : StAt G hh k a v) (x : Int32) : StAt G (va_up hh k (.inr (2, (fStAt G k v).set 12 (.int x)))) k a (va_up v 12 x) := ⟨hAt.up h.1.1, (h.a0).ne (by omega), (h.a1).ne (by omega), (h.a2).ne (by omega), (h.a3).ne (by omega), (h.a4).ne (by omega), (h.a5).ne (by omega), (h.a6).ne (by omega), (h.a7).ne (by omega)⟩
theorem StAt.p13 {G : GG} {hh : HH} {k : Nat} {a : AA} {v : VV} (h : StAt G hh k a v) (x : Int32) : StAt G (va_up hh k (.inr (2, (fStAt G k v).set 13 (.int x)))) k a (va_up v 13 x) := ⟨hAt.up h.1.1, (h.a0).ne (by omega), (h.a1).ne (by omega), (h.a2).ne (by omega), (h.a3).ne (by omega), (h.a4).ne (by omega), (h.a5).ne (by omega), (h.a6).ne (by omega), (h.a7).ne (by omega)⟩
theorem StAt.p14 {G : GG} {hh : HH} {k : Nat} {a : AA} {v : VV} (h : StAt G hh k a v) (x : Int32) : StAt G (va_up hh k (.inr (2, (fStAt G k v).set 14 (.int x)))) k a (va_up v 14 x) := ⟨hAt.up h.1.1, (h.a0).ne (by omega), (h.a1).ne (by omega), (h.a2).ne (by omega), (h.a3).ne (by omega), (h.a4).ne (by omega), (h.a5).ne (by omega), (h.a6).ne (by omega), (h.a7).ne (by omega)⟩
theorem StAt.s0 {G : GG} {hh : HH} {k : Nat} {a : AA} {v : VV} (h : StAt G hh k a v) (g : Nat → Int32) : StAt G (va_up hh (k + 1) (eI G 6 g)) k (va_up a 0 g) v := ⟨h.1.ne (by omega), hAt.up h.a0.1, (h.a1).ne (by omega), (h.a2).ne (by omega), (h.a3).ne (by omega), (h.a4).ne (by omega), (h.a5).ne (by omega), (h.a6).ne (by omega), (h.a7).ne (by omega)⟩
theorem StAt.s1 {G : GG} {hh : HH} {k : Nat} {a : AA} {v : VV} (h : StAt G hh k a v) (g : Nat → Int32) : StAt G (va_up hh (k + 2) (eI G 6 g)) k (va_up a 1 g) v := ⟨h.1.ne (by omega), (h.a0).ne (by omega), hAt.up h.a1.1, (h.a2).ne (by omega), (h.a3).ne (by omega), (h.a4).ne (by omega), (h.a5).ne (by omega), (h.a6).ne (by omega), (h.a7).ne (by omega)⟩
theorem StAt.s2 {G : GG} {hh : HH} {k : Nat} {a : AA} {v : VV} (h : StAt G hh k a v) (g : Nat → Int32) : StAt G (va_up hh (k + 3) (eI G 6 g)) k (va_up a 2 g) v := ⟨h.1.ne (by omega), (h.a0).ne (by omega), (h.a1).ne (by omega), hAt.up h.a2.1, (h.a3).ne (by omega), (h.a4).ne (by omega), (h.a5).ne (by omega), (h.a6).ne (by omega), (h.a7).ne (by omega)⟩
theorem StAt.s3 {G : GG} {hh : HH} {k : Nat} {a : AA} {v : VV} (h : StAt G hh k a v) (g : Nat → Int32) : StAt G (va_up hh (k + 4) (eI G 6 g)) k (va_up a 3 g) v := ⟨h.1.ne (by omega), (h.a0).ne (by omega), (h.a1).ne (by omega), (h.a2).ne (by omega), hAt.up h.a3.1, (h.a4).ne (by omega), (h.a5).ne (by omega), (h.a6).ne (by omega), (h.a7).ne (by omega)⟩
theorem StAt.s4 {G : GG} {hh : HH} {k : Nat} {a : AA} {v : VV} (h : StAt G hh k a v) (g : Nat → Int32) : StAt G (va_up hh (k + 5) (eI G 20 g)) k (va_up a 4 g) v := ⟨h.1.ne (by omega), (h.a0).ne (by omega), (h.a1).ne (by omega), (h.a2).ne (by omega), (h.a3).ne (by omega), hAt.up h.a4.1, (h.a5).ne (by omega), (h.a6).ne (by omega), (h.a7).ne (by omega)⟩
theorem StAt.s5 {G : GG} {hh : HH} {k : Nat} {a : AA} {v : VV} (h : StAt G hh k a v) (g : Nat → Int32) : StAt G (va_up hh (k + 6) (eI G 20 g)) k (va_up a 5 g) v := ⟨h.1.ne (by omega), (h.a0).ne (by omega), (h.a1).ne (by omega), (h.a2).ne (by omega), (h.a3).ne (by omega), (h.a4).ne (by omega), hAt.up h.a5.1, (h.a6).ne (by omega), (h.a7).ne (by omega)⟩
theorem StAt.s6 {G : GG} {hh : HH} {k : Nat} {a : AA} {v : VV} (h : StAt G hh k a v) (g : Nat → Int32) : StAt G (va_up hh (k + 7) (eI G 20 g)) k (va_up a 6 g) v := ⟨h.1.ne (by omega), (h.a0).ne (by omega), (h.a1).ne (by omega), (h.a2).ne (by omega), (h.a3).ne (by omega), (h.a4).ne (by omega), (h.a5).ne (by omega), hAt.up h.a6.1, (h.a7).ne (by omega)⟩
theorem StAt.s7 {G : GG} {hh : HH} {k : Nat} {a : AA} {v : VV} (h : StAt G hh k a v) (g : Nat → Int32) : StAt G (va_up hh (k + 8) (eI G 6 g)) k (va_up a 7 g) v := ⟨h.1.ne (by omega), (h.a0).ne (by omega), (h.a1).ne (by omega), (h.a2).ne (by omega), (h.a3).ne (by omega), (h.a4).ne (by omega), (h.a5).ne (by omega), (h.a6).ne (by omega), hAt.up h.a7.1⟩
theorem StAt.fr {G : GG} {hh hh' : HH} {k lo hi : Nat} {a : AA} {v : VV} (h : StAt G hh k a v) (hF : Fr lo hi hh hh') (hk : k + 9 ≤ lo ∨ hi ≤ k) : StAt G hh' k a v := ⟨h.1.fr hF (by omega), (h.a0).fr hF (by omega), (h.a1).fr hF (by omega), (h.a2).fr hF (by omega), (h.a3).fr hF (by omega), (h.a4).fr hF (by omega), (h.a5).fr hF (by omega), (h.a6).fr hF (by omega), (h.a7).fr hF (by omega)⟩
theorem StAt.far {G : GG} {hh : HH} {k j : Nat} {a : AA} {v : VV} {e : va_E} (h : StAt G hh k a v) (hk : j < k ∨ k + 9 ≤ j) : StAt G (va_up hh j e) k a v := ⟨h.1.ne (by omega), (h.a0).ne (by omega), (h.a1).ne (by omega), (h.a2).ne (by omega), (h.a3).ne (by omega), (h.a4).ne (by omega), (h.a5).ne (by omega), (h.a6).ne (by omega), (h.a7).ne (by omega)⟩
def LeAt (G : GG) (hh : HH) (k n : Nat) (f : Nat → Int32) (len : Int32) : Prop := hAt G hh k (.inr (1, [.ref (ad G (k + 1)), .int len])) ∧ hAt G hh (k + 1) (eI G n f)
theorem LeAt.p1 {G : GG} {hh : HH} {k n : Nat} {f : Nat → Int32} {len : Int32} (h : LeAt G hh k n f len) (x : Int32) : LeAt G (va_up hh k (.inr (1, ([.ref (ad G (k + 1)), .int len] : List Value).set 1 (.int x)))) k n f x := ⟨hAt.up h.1.1, h.2.ne (by omega)⟩
theorem LeAt.s0 {G : GG} {hh : HH} {k n : Nat} {f : Nat → Int32} {len : Int32} (h : LeAt G hh k n f len) (g : Nat → Int32) : LeAt G (va_up hh (k + 1) (eI G n g)) k n g len := ⟨h.1.ne (by omega), hAt.up h.2.1⟩
theorem LeAt.fr {G : GG} {hh hh' : HH} {k n lo hi : Nat} {f : Nat → Int32} {len : Int32} (h : LeAt G hh k n f len) (hF : Fr lo hi hh hh') (hk : k + 2 ≤ lo ∨ hi ≤ k) : LeAt G hh' k n f len := ⟨h.1.fr hF (by omega), h.2.fr hF (by omega)⟩
theorem LeAt.far {G : GG} {hh : HH} {k n j : Nat} {f : Nat → Int32} {len : Int32} {e : va_E} (h : LeAt G hh k n f len) (hk : j < k ∨ k + 2 ≤ j) : LeAt G (va_up hh j e) k n f len := ⟨h.1.ne (by omega), h.2.ne (by omega)⟩
theorem St_put8 {G : GG} {μ : MI} {pc : Nat} {lv : List (Nat × Value)} {st : List Value} {hh : HH} {Q : QQ} {k idx : Nat} {a : AA} {v : VV} {x : Int32} (hd : decode μ.2.1 pc = .ok (.putfield idx, 3)) (hw : pfOK μ.1.cls idx 2 8 .int) (h : StAt G hh k a v) (k1 : ∀ hh1, StAt G hh1 k a (va_up v 8 x) → Fr k (k + 9) hh hh1 → RR G μ (pc + 3) lv st hh1 Q) : RR G μ pc lv (.int x :: .ref (ad G k) :: st) hh Q := R_put hd hw h.1 rfl rfl (show 8 < 15 by decide) (k1 _ (h.p8 x) (Fr.up _ Fr.rf (by omega) (by omega)))
theorem St_put9 {G : GG} {μ : MI} {pc : Nat} {lv : List (Nat × Value)} {st : List Value} {hh : HH} {Q : QQ} {k idx : Nat} {a : AA} {v : VV} {x : Int32} (hd : decode μ.2.1 pc = .ok (.putfield idx, 3)) (hw : pfOK μ.1.cls idx 2 9 .int) (h : StAt G hh k a v) (k1 : ∀ hh1, StAt G hh1 k a (va_up v 9 x) → Fr k (k + 9) hh hh1 → RR G μ (pc + 3) lv st hh1 Q) : RR G μ pc lv (.int x :: .ref (ad G k) :: st) hh Q := R_put hd hw h.1 rfl rfl (show 9 < 15 by decide) (k1 _ (h.p9 x) (Fr.up _ Fr.rf (by omega) (by omega)))
theorem St_put10 {G : GG} {μ : MI} {pc : Nat} {lv : List (Nat × Value)} {st : List Value} {hh : HH} {Q : QQ} {k idx : Nat} {a : AA} {v : VV} {x : Int32} (hd : decode μ.2.1 pc = .ok (.putfield idx, 3)) (hw : pfOK μ.1.cls idx 2 10 .int) (h : StAt G hh k a v) (k1 : ∀ hh1, StAt G hh1 k a (va_up v 10 x) → Fr k (k + 9) hh hh1 → RR G μ (pc + 3) lv st hh1 Q) : RR G μ pc lv (.int x :: .ref (ad G k) :: st) hh Q := R_put hd hw h.1 rfl rfl (show 10 < 15 by decide) (k1 _ (h.p10 x) (Fr.up _ Fr.rf (by omega) (by omega)))
theorem St_put11 {G : GG} {μ : MI} {pc : Nat} {lv : List (Nat × Value)} {st : List Value} {hh : HH} {Q : QQ} {k idx : Nat} {a : AA} {v : VV} {x : Int32} (hd : decode μ.2.1 pc = .ok (.putfield idx, 3)) (hw : pfOK μ.1.cls idx 2 11 .int) (h : StAt G hh k a v) (k1 : ∀ hh1, StAt G hh1 k a (va_up v 11 x) → Fr k (k + 9) hh hh1 → RR G μ (pc + 3) lv st hh1 Q) : RR G μ pc lv (.int x :: .ref (ad G k) :: st) hh Q := R_put hd hw h.1 rfl rfl (show 11 < 15 by decide) (k1 _ (h.p11 x) (Fr.up _ Fr.rf (by omega) (by omega)))
theorem St_put12 {G : GG} {μ : MI} {pc : Nat} {lv : List (Nat × Value)} {st : List Value} {hh : HH} {Q : QQ} {k idx : Nat} {a : AA} {v : VV} {x : Int32} (hd : decode μ.2.1 pc = .ok (.putfield idx, 3)) (hw : pfOK μ.1.cls idx 2 12 .int) (h : StAt G hh k a v) (k1 : ∀ hh1, StAt G hh1 k a (va_up v 12 x) → Fr k (k + 9) hh hh1 → RR G μ (pc + 3) lv st hh1 Q) : RR G μ pc lv (.int x :: .ref (ad G k) :: st) hh Q := R_put hd hw h.1 rfl rfl (show 12 < 15 by decide) (k1 _ (h.p12 x) (Fr.up _ Fr.rf (by omega) (by omega)))
theorem St_put13 {G : GG} {μ : MI} {pc : Nat} {lv : List (Nat × Value)} {st : List Value} {hh : HH} {Q : QQ} {k idx : Nat} {a : AA} {v : VV} {x : Int32} (hd : decode μ.2.1 pc = .ok (.putfield idx, 3)) (hw : pfOK μ.1.cls idx 2 13 .int) (h : StAt G hh k a v) (k1 : ∀ hh1, StAt G hh1 k a (va_up v 13 x) → Fr k (k + 9) hh hh1 → RR G μ (pc + 3) lv st hh1 Q) : RR G μ pc lv (.int x :: .ref (ad G k) :: st) hh Q := R_put hd hw h.1 rfl rfl (show 13 < 15 by decide) (k1 _ (h.p13 x) (Fr.up _ Fr.rf (by omega) (by omega)))
theorem St_put14 {G : GG} {μ : MI} {pc : Nat} {lv : List (Nat × Value)} {st : List Value} {hh : HH} {Q : QQ} {k idx : Nat} {a : AA} {v : VV} {x : Int32} (hd : decode μ.2.1 pc = .ok (.putfield idx, 3)) (hw : pfOK μ.1.cls idx 2 14 .int) (h : StAt G hh k a v) (k1 : ∀ hh1, StAt G hh1 k a (va_up v 14 x) → Fr k (k + 9) hh hh1 → RR G μ (pc + 3) lv st hh1 Q) : RR G μ pc lv (.int x :: .ref (ad G k) :: st) hh Q := R_put hd hw h.1 rfl rfl (show 14 < 15 by decide) (k1 _ (h.p14 x) (Fr.up _ Fr.rf (by omega) (by omega)))
theorem St_ast0 {G : GG} {μ : MI} {pc : Nat} {lv : List (Nat × Value)} {st : List Value} {hh : HH} {Q : QQ} {k : Nat} {a : AA} {v : VV} {i x : Int32} (hd : decode μ.2.1 pc = .ok (.iastore, 1)) (h : StAt G hh k a v) (hin : vp_in i 6) (k1 : ∀ hh1, StAt G hh1 k (va_up a 0 (upd (a 0) i.toNatClampNeg x)) v → Fr k (k + 9) hh hh1 → RR G μ (pc + 1) lv st hh1 Q) : RR G μ pc lv (.int x :: .int i :: .ref (ad G (k + 1)) :: st) hh Q := R_iast hd h.a0 hin (k1 _ (h.s0 _) (Fr.up _ Fr.rf (by omega) (by omega)))
theorem St_ast1 {G : GG} {μ : MI} {pc : Nat} {lv : List (Nat × Value)} {st : List Value} {hh : HH} {Q : QQ} {k : Nat} {a : AA} {v : VV} {i x : Int32} (hd : decode μ.2.1 pc = .ok (.iastore, 1)) (h : StAt G hh k a v) (hin : vp_in i 6) (k1 : ∀ hh1, StAt G hh1 k (va_up a 1 (upd (a 1) i.toNatClampNeg x)) v → Fr k (k + 9) hh hh1 → RR G μ (pc + 1) lv st hh1 Q) : RR G μ pc lv (.int x :: .int i :: .ref (ad G (k + 2)) :: st) hh Q := R_iast hd h.a1 hin (k1 _ (h.s1 _) (Fr.up _ Fr.rf (by omega) (by omega)))
theorem St_ast2 {G : GG} {μ : MI} {pc : Nat} {lv : List (Nat × Value)} {st : List Value} {hh : HH} {Q : QQ} {k : Nat} {a : AA} {v : VV} {i x : Int32} (hd : decode μ.2.1 pc = .ok (.iastore, 1)) (h : StAt G hh k a v) (hin : vp_in i 6) (k1 : ∀ hh1, StAt G hh1 k (va_up a 2 (upd (a 2) i.toNatClampNeg x)) v → Fr k (k + 9) hh hh1 → RR G μ (pc + 1) lv st hh1 Q) : RR G μ pc lv (.int x :: .int i :: .ref (ad G (k + 3)) :: st) hh Q := R_iast hd h.a2 hin (k1 _ (h.s2 _) (Fr.up _ Fr.rf (by omega) (by omega)))
theorem St_ast3 {G : GG} {μ : MI} {pc : Nat} {lv : List (Nat × Value)} {st : List Value} {hh : HH} {Q : QQ} {k : Nat} {a : AA} {v : VV} {i x : Int32} (hd : decode μ.2.1 pc = .ok (.iastore, 1)) (h : StAt G hh k a v) (hin : vp_in i 6) (k1 : ∀ hh1, StAt G hh1 k (va_up a 3 (upd (a 3) i.toNatClampNeg x)) v → Fr k (k + 9) hh hh1 → RR G μ (pc + 1) lv st hh1 Q) : RR G μ pc lv (.int x :: .int i :: .ref (ad G (k + 4)) :: st) hh Q := R_iast hd h.a3 hin (k1 _ (h.s3 _) (Fr.up _ Fr.rf (by omega) (by omega)))
theorem St_ast4 {G : GG} {μ : MI} {pc : Nat} {lv : List (Nat × Value)} {st : List Value} {hh : HH} {Q : QQ} {k : Nat} {a : AA} {v : VV} {i x : Int32} (hd : decode μ.2.1 pc = .ok (.iastore, 1)) (h : StAt G hh k a v) (hin : vp_in i 20) (k1 : ∀ hh1, StAt G hh1 k (va_up a 4 (upd (a 4) i.toNatClampNeg x)) v → Fr k (k + 9) hh hh1 → RR G μ (pc + 1) lv st hh1 Q) : RR G μ pc lv (.int x :: .int i :: .ref (ad G (k + 5)) :: st) hh Q := R_iast hd h.a4 hin (k1 _ (h.s4 _) (Fr.up _ Fr.rf (by omega) (by omega)))
theorem St_ast5 {G : GG} {μ : MI} {pc : Nat} {lv : List (Nat × Value)} {st : List Value} {hh : HH} {Q : QQ} {k : Nat} {a : AA} {v : VV} {i x : Int32} (hd : decode μ.2.1 pc = .ok (.iastore, 1)) (h : StAt G hh k a v) (hin : vp_in i 20) (k1 : ∀ hh1, StAt G hh1 k (va_up a 5 (upd (a 5) i.toNatClampNeg x)) v → Fr k (k + 9) hh hh1 → RR G μ (pc + 1) lv st hh1 Q) : RR G μ pc lv (.int x :: .int i :: .ref (ad G (k + 6)) :: st) hh Q := R_iast hd h.a5 hin (k1 _ (h.s5 _) (Fr.up _ Fr.rf (by omega) (by omega)))
theorem St_ast6 {G : GG} {μ : MI} {pc : Nat} {lv : List (Nat × Value)} {st : List Value} {hh : HH} {Q : QQ} {k : Nat} {a : AA} {v : VV} {i x : Int32} (hd : decode μ.2.1 pc = .ok (.iastore, 1)) (h : StAt G hh k a v) (hin : vp_in i 20) (k1 : ∀ hh1, StAt G hh1 k (va_up a 6 (upd (a 6) i.toNatClampNeg x)) v → Fr k (k + 9) hh hh1 → RR G μ (pc + 1) lv st hh1 Q) : RR G μ pc lv (.int x :: .int i :: .ref (ad G (k + 7)) :: st) hh Q := R_iast hd h.a6 hin (k1 _ (h.s6 _) (Fr.up _ Fr.rf (by omega) (by omega)))
theorem St_ast7 {G : GG} {μ : MI} {pc : Nat} {lv : List (Nat × Value)} {st : List Value} {hh : HH} {Q : QQ} {k : Nat} {a : AA} {v : VV} {i x : Int32} (hd : decode μ.2.1 pc = .ok (.iastore, 1)) (h : StAt G hh k a v) (hin : vp_in i 6) (k1 : ∀ hh1, StAt G hh1 k (va_up a 7 (upd (a 7) i.toNatClampNeg x)) v → Fr k (k + 9) hh hh1 → RR G μ (pc + 1) lv st hh1 Q) : RR G μ pc lv (.int x :: .int i :: .ref (ad G (k + 8)) :: st) hh Q := R_iast hd h.a7 hin (k1 _ (h.s7 _) (Fr.up _ Fr.rf (by omega) (by omega)))
theorem Le_put1 {G : GG} {μ : MI} {pc : Nat} {lv : List (Nat × Value)} {st : List Value} {hh : HH} {Q : QQ} {k idx : Nat} {n : Nat} {f : Nat → Int32} {len x : Int32} (hd : decode μ.2.1 pc = .ok (.putfield idx, 3)) (hw : pfOK μ.1.cls idx 1 1 .int) (h : LeAt G hh k n f len) (k1 : ∀ hh1, LeAt G hh1 k n f x → Fr k (k + 2) hh hh1 → RR G μ (pc + 3) lv st hh1 Q) : RR G μ pc lv (.int x :: .ref (ad G k) :: st) hh Q := R_put hd hw h.1 rfl rfl (show 1 < 2 by decide) (k1 _ (h.p1 x) (Fr.up _ Fr.rf (by omega) (by omega)))
theorem Le_ast0 {G : GG} {μ : MI} {pc : Nat} {lv : List (Nat × Value)} {st : List Value} {hh : HH} {Q : QQ} {k : Nat} {n : Nat} {f : Nat → Int32} {len i x : Int32} (hd : decode μ.2.1 pc = .ok (.iastore, 1)) (h : LeAt G hh k n f len) (hin : vp_in i n) (k1 : ∀ hh1, LeAt G hh1 k n (upd f i.toNatClampNeg x) len → Fr k (k + 2) hh hh1 → RR G μ (pc + 1) lv st hh1 Q) : RR G μ pc lv (.int x :: .int i :: .ref (ad G (k + 1)) :: st) hh Q := R_iast hd h.2 hin (k1 _ (h.s0 _) (Fr.up _ Fr.rf (by omega) (by omega)))
theorem R_ialdN {G : GG} {μ : MI} {pc : Nat} {lv : List (Nat × Value)} {st : List Value} {hh : HH} {Q : QQ} {k n j : Nat} {f : Nat → Int32} (hd : decode μ.2.1 pc = .ok (.iaload, 1)) (ha : hAt G hh k (eI G n f)) (hj : j < n) (hn : n < 2 ^ 31) (k1 : RR G μ (pc + 1) lv (.int (f j) :: st) hh Q) : RR G μ pc lv (.int (nI j) :: .ref (ad G k) :: st) hh Q := R_iald hd ha (vp_in_nI hj hn) (by rw [nI_clamp (by omega)]; exact k1)
theorem R_zaldN {G : GG} {μ : MI} {pc : Nat} {lv : List (Nat × Value)} {st : List Value} {hh : HH} {Q : QQ} {k n j : Nat} {f : Nat → Int32} (hd : decode μ.2.1 pc = .ok (.baload, 1)) (ha : hAt G hh k (eZ G n f)) (hj : j < n) (hn : n < 2 ^ 31) (k1 : RR G μ (pc + 1) lv (.int (f j) :: st) hh Q) : RR G μ pc lv (.int (nI j) :: .ref (ad G k) :: st) hh Q := R_zald hd ha (vp_in_nI hj hn) (by rw [nI_clamp (by omega)]; exact k1)
theorem St_ast0N {G : GG} {μ : MI} {pc : Nat} {lv : List (Nat × Value)} {st : List Value} {hh : HH} {Q : QQ} {k : Nat} {a : AA} {v : VV} {i : Nat} {x : Int32} (hd : decode μ.2.1 pc = .ok (.iastore, 1)) (h : StAt G hh k a v) (hi : i < 6) (k1 : ∀ hh1, StAt G hh1 k (va_up a 0 (upd (a 0) i x)) v → Fr k (k + 9) hh hh1 → RR G μ (pc + 1) lv st hh1 Q) : RR G μ pc lv (.int x :: .int (nI i) :: .ref (ad G (k + 1)) :: st) hh Q := St_ast0 hd h (vp_in_nI hi (by decide)) (fun hh1 h1 hF => k1 hh1 (by rw [nI_clamp (by omega)] at h1; exact h1) hF)
theorem St_ast1N {G : GG} {μ : MI} {pc : Nat} {lv : List (Nat × Value)} {st : List Value} {hh : HH} {Q : QQ} {k : Nat} {a : AA} {v : VV} {i : Nat} {x : Int32} (hd : decode μ.2.1 pc = .ok (.iastore, 1)) (h : StAt G hh k a v) (hi : i < 6) (k1 : ∀ hh1, StAt G hh1 k (va_up a 1 (upd (a 1) i x)) v → Fr k (k + 9) hh hh1 → RR G μ (pc + 1) lv st hh1 Q) : RR G μ pc lv (.int x :: .int (nI i) :: .ref (ad G (k + 2)) :: st) hh Q := St_ast1 hd h (vp_in_nI hi (by decide)) (fun hh1 h1 hF => k1 hh1 (by rw [nI_clamp (by omega)] at h1; exact h1) hF)
theorem St_ast2N {G : GG} {μ : MI} {pc : Nat} {lv : List (Nat × Value)} {st : List Value} {hh : HH} {Q : QQ} {k : Nat} {a : AA} {v : VV} {i : Nat} {x : Int32} (hd : decode μ.2.1 pc = .ok (.iastore, 1)) (h : StAt G hh k a v) (hi : i < 6) (k1 : ∀ hh1, StAt G hh1 k (va_up a 2 (upd (a 2) i x)) v → Fr k (k + 9) hh hh1 → RR G μ (pc + 1) lv st hh1 Q) : RR G μ pc lv (.int x :: .int (nI i) :: .ref (ad G (k + 3)) :: st) hh Q := St_ast2 hd h (vp_in_nI hi (by decide)) (fun hh1 h1 hF => k1 hh1 (by rw [nI_clamp (by omega)] at h1; exact h1) hF)
theorem St_ast3N {G : GG} {μ : MI} {pc : Nat} {lv : List (Nat × Value)} {st : List Value} {hh : HH} {Q : QQ} {k : Nat} {a : AA} {v : VV} {i : Nat} {x : Int32} (hd : decode μ.2.1 pc = .ok (.iastore, 1)) (h : StAt G hh k a v) (hi : i < 6) (k1 : ∀ hh1, StAt G hh1 k (va_up a 3 (upd (a 3) i x)) v → Fr k (k + 9) hh hh1 → RR G μ (pc + 1) lv st hh1 Q) : RR G μ pc lv (.int x :: .int (nI i) :: .ref (ad G (k + 4)) :: st) hh Q := St_ast3 hd h (vp_in_nI hi (by decide)) (fun hh1 h1 hF => k1 hh1 (by rw [nI_clamp (by omega)] at h1; exact h1) hF)
theorem St_ast4N {G : GG} {μ : MI} {pc : Nat} {lv : List (Nat × Value)} {st : List Value} {hh : HH} {Q : QQ} {k : Nat} {a : AA} {v : VV} {i : Nat} {x : Int32} (hd : decode μ.2.1 pc = .ok (.iastore, 1)) (h : StAt G hh k a v) (hi : i < 20) (k1 : ∀ hh1, StAt G hh1 k (va_up a 4 (upd (a 4) i x)) v → Fr k (k + 9) hh hh1 → RR G μ (pc + 1) lv st hh1 Q) : RR G μ pc lv (.int x :: .int (nI i) :: .ref (ad G (k + 5)) :: st) hh Q := St_ast4 hd h (vp_in_nI hi (by decide)) (fun hh1 h1 hF => k1 hh1 (by rw [nI_clamp (by omega)] at h1; exact h1) hF)
theorem St_ast5N {G : GG} {μ : MI} {pc : Nat} {lv : List (Nat × Value)} {st : List Value} {hh : HH} {Q : QQ} {k : Nat} {a : AA} {v : VV} {i : Nat} {x : Int32} (hd : decode μ.2.1 pc = .ok (.iastore, 1)) (h : StAt G hh k a v) (hi : i < 20) (k1 : ∀ hh1, StAt G hh1 k (va_up a 5 (upd (a 5) i x)) v → Fr k (k + 9) hh hh1 → RR G μ (pc + 1) lv st hh1 Q) : RR G μ pc lv (.int x :: .int (nI i) :: .ref (ad G (k + 6)) :: st) hh Q := St_ast5 hd h (vp_in_nI hi (by decide)) (fun hh1 h1 hF => k1 hh1 (by rw [nI_clamp (by omega)] at h1; exact h1) hF)
theorem St_ast6N {G : GG} {μ : MI} {pc : Nat} {lv : List (Nat × Value)} {st : List Value} {hh : HH} {Q : QQ} {k : Nat} {a : AA} {v : VV} {i : Nat} {x : Int32} (hd : decode μ.2.1 pc = .ok (.iastore, 1)) (h : StAt G hh k a v) (hi : i < 20) (k1 : ∀ hh1, StAt G hh1 k (va_up a 6 (upd (a 6) i x)) v → Fr k (k + 9) hh hh1 → RR G μ (pc + 1) lv st hh1 Q) : RR G μ pc lv (.int x :: .int (nI i) :: .ref (ad G (k + 7)) :: st) hh Q := St_ast6 hd h (vp_in_nI hi (by decide)) (fun hh1 h1 hF => k1 hh1 (by rw [nI_clamp (by omega)] at h1; exact h1) hF)
theorem St_ast7N {G : GG} {μ : MI} {pc : Nat} {lv : List (Nat × Value)} {st : List Value} {hh : HH} {Q : QQ} {k : Nat} {a : AA} {v : VV} {i : Nat} {x : Int32} (hd : decode μ.2.1 pc = .ok (.iastore, 1)) (h : StAt G hh k a v) (hi : i < 6) (k1 : ∀ hh1, StAt G hh1 k (va_up a 7 (upd (a 7) i x)) v → Fr k (k + 9) hh hh1 → RR G μ (pc + 1) lv st hh1 Q) : RR G μ pc lv (.int x :: .int (nI i) :: .ref (ad G (k + 8)) :: st) hh Q := St_ast7 hd h (vp_in_nI hi (by decide)) (fun hh1 h1 hF => k1 hh1 (by rw [nI_clamp (by omega)] at h1; exact h1) hF)
theorem Le_ast0N {G : GG} {μ : MI} {pc : Nat} {lv : List (Nat × Value)} {st : List Value} {hh : HH} {Q : QQ} {k : Nat} {n j : Nat} {f : Nat → Int32} {len x : Int32} (hd : decode μ.2.1 pc = .ok (.iastore, 1)) (h : LeAt G hh k n f len) (hj : j < n) (hn : n < 2 ^ 31) (k1 : ∀ hh1, LeAt G hh1 k n (upd f j x) len → Fr k (k + 2) hh hh1 → RR G μ (pc + 1) lv st hh1 Q) : RR G μ pc lv (.int x :: .int (nI j) :: .ref (ad G (k + 1)) :: st) hh Q := Le_ast0 hd h (vp_in_nI hj hn) (fun hh1 h1 hF => k1 hh1 (by rw [nI_clamp (by omega)] at h1; exact h1) hF)
end
section
def bl (b : Bool) : Int32 := if b then 1 else 0
/-- a bit of a set, as the class asks for it -/
def hasB (x j : Int32) : Bool := decide (x >>> (j &&& 31) &&& 1 = 1)

set_option maxRecDepth 4000 in
theorem e_isSeed (G : GG) (hh : HH) (x : Int32) : EVp G mX4_isSeed [.int x] hh (bl (decide (1 ≤ x))) := by
  refine EV.of [(0, .int x)] (by decide +kernel) (Nat.le_of_ble_eq_true rfl) rfl ?_
  refine R_iload_n dX4_isSeed_0 rfl ?_
  refine R_iconst (v := 1) dX4_isSeed_1 (by decide) ?_
  refine R_icmp_lt (tgt := 9) dX4_isSeed_2 (by decide) (fun c2 => ?_) (fun c2 => ?_)
  · refine R_iconst (v := 0) dX4_isSeed_9 (by decide) ?_
    exact R_zret dX4_isSeed_10 rfl (by first | exact Or.inl rfl | exact Or.inr rfl | assumption | omega) (⟨_, rfl, by (first | (simp_all [bl, hasB]; done) | (simp_all [bl, hasB, Int32.lt_iff_toInt_lt, Int32.le_iff_toInt_le]; done) | (simp_all [bl, hasB, Int32.lt_iff_toInt_lt, Int32.le_iff_toInt_le]; omega)), rfl⟩)
  · refine R_iconst (v := 1) dX4_isSeed_5 (by decide) ?_
    refine R_goto (tgt := 10) dX4_isSeed_6 (by decide) ?_
    exact R_zret dX4_isSeed_10 rfl (by first | exact Or.inl rfl | exact Or.inr rfl | assumption | omega) (⟨_, rfl, by (first | (simp_all [bl, hasB]; done) | (simp_all [bl, hasB, Int32.lt_iff_toInt_lt, Int32.le_iff_toInt_le]; done) | (simp_all [bl, hasB, Int32.lt_iff_toInt_lt, Int32.le_iff_toInt_le]; omega)), rfl⟩)
set_option maxRecDepth 4000 in
theorem e_isSubject (G : GG) (hh : HH) (x : Int32) : EVp G mX4_isSubject [.int x] hh (bl (decide (0 ≤ x ∧ x < 5))) := by
  refine EV.of [(0, .int x)] (by decide +kernel) (Nat.le_of_ble_eq_true rfl) rfl ?_
  refine R_iload_n dX4_isSubject_0 rfl ?_
  refine R_if_lt (tgt := 13) dX4_isSubject_1 (by decide) (fun c1 => ?_) (fun c1 => ?_)
  · refine R_iconst (v := 0) dX4_isSubject_13 (by decide) ?_
    exact R_zret dX4_isSubject_14 rfl (by first | exact Or.inl rfl | exact Or.inr rfl | assumption | omega) (⟨_, rfl, by (first | (simp_all [bl, hasB]; done) | (simp_all [bl, hasB, Int32.lt_iff_toInt_lt, Int32.le_iff_toInt_le]; done) | (simp_all [bl, hasB, Int32.lt_iff_toInt_lt, Int32.le_iff_toInt_le]; omega)), rfl⟩)
  · refine R_iload_n dX4_isSubject_4 rfl ?_
    refine R_iconst (v := 5) dX4_isSubject_5 (by decide) ?_
    refine R_icmp_ge (tgt := 13) dX4_isSubject_6 (by decide) (fun c6 => ?_) (fun c6 => ?_)
    · refine R_iconst (v := 0) dX4_isSubject_13 (by decide) ?_
      exact R_zret dX4_isSubject_14 rfl (by first | exact Or.inl rfl | exact Or.inr rfl | assumption | omega) (⟨_, rfl, by (first | (simp_all [bl, hasB]; done) | (simp_all [bl, hasB, Int32.lt_iff_toInt_lt, Int32.le_iff_toInt_le]; done) | (simp_all [bl, hasB, Int32.lt_iff_toInt_lt, Int32.le_iff_toInt_le]; omega)), rfl⟩)
    · refine R_iconst (v := 1) dX4_isSubject_9 (by decide) ?_
      refine R_goto (tgt := 14) dX4_isSubject_10 (by decide) ?_
      exact R_zret dX4_isSubject_14 rfl (by first | exact Or.inl rfl | exact Or.inr rfl | assumption | omega) (⟨_, rfl, by (first | (simp_all [bl, hasB]; done) | (simp_all [bl, hasB, Int32.lt_iff_toInt_lt, Int32.le_iff_toInt_le]; done) | (simp_all [bl, hasB, Int32.lt_iff_toInt_lt, Int32.le_iff_toInt_le]; omega)), rfl⟩)
set_option maxRecDepth 4000 in
theorem e_isParty (G : GG) (hh : HH) (x : Int32) : EVp G mX4_isParty [.int x] hh (bl (decide (0 ≤ x ∧ x < 10))) := by
  refine EV.of [(0, .int x)] (by decide +kernel) (Nat.le_of_ble_eq_true rfl) rfl ?_
  refine R_iload_n dX4_isParty_0 rfl ?_
  refine R_if_lt (tgt := 14) dX4_isParty_1 (by decide) (fun c1 => ?_) (fun c1 => ?_)
  · refine R_iconst (v := 0) dX4_isParty_14 (by decide) ?_
    exact R_zret dX4_isParty_15 rfl (by first | exact Or.inl rfl | exact Or.inr rfl | assumption | omega) (⟨_, rfl, by (first | (simp_all [bl, hasB]; done) | (simp_all [bl, hasB, Int32.lt_iff_toInt_lt, Int32.le_iff_toInt_le]; done) | (simp_all [bl, hasB, Int32.lt_iff_toInt_lt, Int32.le_iff_toInt_le]; omega)), rfl⟩)
  · refine R_iload_n dX4_isParty_4 rfl ?_
    refine R_bipush (v := 10) dX4_isParty_5 (by decide) ?_
    refine R_icmp_ge (tgt := 14) dX4_isParty_7 (by decide) (fun c7 => ?_) (fun c7 => ?_)
    · refine R_iconst (v := 0) dX4_isParty_14 (by decide) ?_
      exact R_zret dX4_isParty_15 rfl (by first | exact Or.inl rfl | exact Or.inr rfl | assumption | omega) (⟨_, rfl, by (first | (simp_all [bl, hasB]; done) | (simp_all [bl, hasB, Int32.lt_iff_toInt_lt, Int32.le_iff_toInt_le]; done) | (simp_all [bl, hasB, Int32.lt_iff_toInt_lt, Int32.le_iff_toInt_le]; omega)), rfl⟩)
    · refine R_iconst (v := 1) dX4_isParty_10 (by decide) ?_
      refine R_goto (tgt := 15) dX4_isParty_11 (by decide) ?_
      exact R_zret dX4_isParty_15 rfl (by first | exact Or.inl rfl | exact Or.inr rfl | assumption | omega) (⟨_, rfl, by (first | (simp_all [bl, hasB]; done) | (simp_all [bl, hasB, Int32.lt_iff_toInt_lt, Int32.le_iff_toInt_le]; done) | (simp_all [bl, hasB, Int32.lt_iff_toInt_lt, Int32.le_iff_toInt_le]; omega)), rfl⟩)
set_option maxRecDepth 4000 in
theorem e_isSlip (G : GG) (hh : HH) (x : Int32) : EVp G mX4_isSlip [.int x] hh (bl (decide (0 ≤ x ∧ x < 3))) := by
  refine EV.of [(0, .int x)] (by decide +kernel) (Nat.le_of_ble_eq_true rfl) rfl ?_
  refine R_iload_n dX4_isSlip_0 rfl ?_
  refine R_if_lt (tgt := 13) dX4_isSlip_1 (by decide) (fun c1 => ?_) (fun c1 => ?_)
  · refine R_iconst (v := 0) dX4_isSlip_13 (by decide) ?_
    exact R_zret dX4_isSlip_14 rfl (by first | exact Or.inl rfl | exact Or.inr rfl | assumption | omega) (⟨_, rfl, by (first | (simp_all [bl, hasB]; done) | (simp_all [bl, hasB, Int32.lt_iff_toInt_lt, Int32.le_iff_toInt_le]; done) | (simp_all [bl, hasB, Int32.lt_iff_toInt_lt, Int32.le_iff_toInt_le]; omega)), rfl⟩)
  · refine R_iload_n dX4_isSlip_4 rfl ?_
    refine R_iconst (v := 3) dX4_isSlip_5 (by decide) ?_
    refine R_icmp_ge (tgt := 13) dX4_isSlip_6 (by decide) (fun c6 => ?_) (fun c6 => ?_)
    · refine R_iconst (v := 0) dX4_isSlip_13 (by decide) ?_
      exact R_zret dX4_isSlip_14 rfl (by first | exact Or.inl rfl | exact Or.inr rfl | assumption | omega) (⟨_, rfl, by (first | (simp_all [bl, hasB]; done) | (simp_all [bl, hasB, Int32.lt_iff_toInt_lt, Int32.le_iff_toInt_le]; done) | (simp_all [bl, hasB, Int32.lt_iff_toInt_lt, Int32.le_iff_toInt_le]; omega)), rfl⟩)
    · refine R_iconst (v := 1) dX4_isSlip_9 (by decide) ?_
      refine R_goto (tgt := 14) dX4_isSlip_10 (by decide) ?_
      exact R_zret dX4_isSlip_14 rfl (by first | exact Or.inl rfl | exact Or.inr rfl | assumption | omega) (⟨_, rfl, by (first | (simp_all [bl, hasB]; done) | (simp_all [bl, hasB, Int32.lt_iff_toInt_lt, Int32.le_iff_toInt_le]; done) | (simp_all [bl, hasB, Int32.lt_iff_toInt_lt, Int32.le_iff_toInt_le]; omega)), rfl⟩)
set_option maxRecDepth 4000 in
theorem e_isDigit (G : GG) (hh : HH) (x : Int32) : EVp G mX4_isDigit [.int x] hh (bl (decide (48 ≤ x ∧ x ≤ 57))) := by
  refine EV.of [(0, .int x)] (by decide +kernel) (Nat.le_of_ble_eq_true rfl) rfl ?_
  refine R_iload_n dX4_isDigit_0 rfl ?_
  refine R_bipush (v := 48) dX4_isDigit_1 (by decide) ?_
  refine R_icmp_lt (tgt := 16) dX4_isDigit_3 (by decide) (fun c3 => ?_) (fun c3 => ?_)
  · refine R_iconst (v := 0) dX4_isDigit_16 (by decide) ?_
    exact R_zret dX4_isDigit_17 rfl (by first | exact Or.inl rfl | exact Or.inr rfl | assumption | omega) (⟨_, rfl, by (first | (simp_all [bl, hasB]; done) | (simp_all [bl, hasB, Int32.lt_iff_toInt_lt, Int32.le_iff_toInt_le]; done) | (simp_all [bl, hasB, Int32.lt_iff_toInt_lt, Int32.le_iff_toInt_le]; omega)), rfl⟩)
  · refine R_iload_n dX4_isDigit_6 rfl ?_
    refine R_bipush (v := 57) dX4_isDigit_7 (by decide) ?_
    refine R_icmp_gt (tgt := 16) dX4_isDigit_9 (by decide) (fun c9 => ?_) (fun c9 => ?_)
    · refine R_iconst (v := 0) dX4_isDigit_16 (by decide) ?_
      exact R_zret dX4_isDigit_17 rfl (by first | exact Or.inl rfl | exact Or.inr rfl | assumption | omega) (⟨_, rfl, by (first | (simp_all [bl, hasB]; done) | (simp_all [bl, hasB, Int32.lt_iff_toInt_lt, Int32.le_iff_toInt_le]; done) | (simp_all [bl, hasB, Int32.lt_iff_toInt_lt, Int32.le_iff_toInt_le]; omega)), rfl⟩)
    · refine R_iconst (v := 1) dX4_isDigit_12 (by decide) ?_
      refine R_goto (tgt := 17) dX4_isDigit_13 (by decide) ?_
      exact R_zret dX4_isDigit_17 rfl (by first | exact Or.inl rfl | exact Or.inr rfl | assumption | omega) (⟨_, rfl, by (first | (simp_all [bl, hasB]; done) | (simp_all [bl, hasB, Int32.lt_iff_toInt_lt, Int32.le_iff_toInt_le]; done) | (simp_all [bl, hasB, Int32.lt_iff_toInt_lt, Int32.le_iff_toInt_le]; omega)), rfl⟩)
set_option maxRecDepth 4000 in
theorem e_isSmallLetter (G : GG) (hh : HH) (x : Int32) : EVp G mX4_isSmallLetter [.int x] hh (bl (decide (97 ≤ x ∧ x ≤ 122))) := by
  refine EV.of [(0, .int x)] (by decide +kernel) (Nat.le_of_ble_eq_true rfl) rfl ?_
  refine R_iload_n dX4_isSmallLetter_0 rfl ?_
  refine R_bipush (v := 97) dX4_isSmallLetter_1 (by decide) ?_
  refine R_icmp_lt (tgt := 16) dX4_isSmallLetter_3 (by decide) (fun c3 => ?_) (fun c3 => ?_)
  · refine R_iconst (v := 0) dX4_isSmallLetter_16 (by decide) ?_
    exact R_zret dX4_isSmallLetter_17 rfl (by first | exact Or.inl rfl | exact Or.inr rfl | assumption | omega) (⟨_, rfl, by (first | (simp_all [bl, hasB]; done) | (simp_all [bl, hasB, Int32.lt_iff_toInt_lt, Int32.le_iff_toInt_le]; done) | (simp_all [bl, hasB, Int32.lt_iff_toInt_lt, Int32.le_iff_toInt_le]; omega)), rfl⟩)
  · refine R_iload_n dX4_isSmallLetter_6 rfl ?_
    refine R_bipush (v := 122) dX4_isSmallLetter_7 (by decide) ?_
    refine R_icmp_gt (tgt := 16) dX4_isSmallLetter_9 (by decide) (fun c9 => ?_) (fun c9 => ?_)
    · refine R_iconst (v := 0) dX4_isSmallLetter_16 (by decide) ?_
      exact R_zret dX4_isSmallLetter_17 rfl (by first | exact Or.inl rfl | exact Or.inr rfl | assumption | omega) (⟨_, rfl, by (first | (simp_all [bl, hasB]; done) | (simp_all [bl, hasB, Int32.lt_iff_toInt_lt, Int32.le_iff_toInt_le]; done) | (simp_all [bl, hasB, Int32.lt_iff_toInt_lt, Int32.le_iff_toInt_le]; omega)), rfl⟩)
    · refine R_iconst (v := 1) dX4_isSmallLetter_12 (by decide) ?_
      refine R_goto (tgt := 17) dX4_isSmallLetter_13 (by decide) ?_
      exact R_zret dX4_isSmallLetter_17 rfl (by first | exact Or.inl rfl | exact Or.inr rfl | assumption | omega) (⟨_, rfl, by (first | (simp_all [bl, hasB]; done) | (simp_all [bl, hasB, Int32.lt_iff_toInt_lt, Int32.le_iff_toInt_le]; done) | (simp_all [bl, hasB, Int32.lt_iff_toInt_lt, Int32.le_iff_toInt_le]; omega)), rfl⟩)
set_option maxRecDepth 4000 in
theorem e_hasJudge (G : GG) (hh : HH) {k : Nat} {a : AA} {v : VV} (h : StAt G hh k a v) (j : Int32) : EVp G mX2_hasJudge [.ref (ad G k), .int j] hh (bl (decide (0 ≤ j ∧ j < v 8))) := by
  refine EV.of [(0, .ref (ad G k)), (1, .int j)] (by decide +kernel) (Nat.le_of_ble_eq_true rfl) rfl ?_
  refine R_iload_n dX2_hasJudge_0 rfl ?_
  refine R_if_lt (tgt := 16) dX2_hasJudge_1 (by decide) (fun c1 => ?_) (fun c1 => ?_)
  · refine R_iconst (v := 0) dX2_hasJudge_16 (by decide) ?_
    exact R_zret dX2_hasJudge_17 rfl (by first | exact Or.inl rfl | exact Or.inr rfl | assumption | omega) (⟨_, rfl, by (first | (simp_all [bl, hasB]; done) | (simp_all [bl, hasB, Int32.lt_iff_toInt_lt, Int32.le_iff_toInt_le]; done) | (simp_all [bl, hasB, Int32.lt_iff_toInt_lt, Int32.le_iff_toInt_le]; omega)), rfl⟩)
  · refine R_iload_n dX2_hasJudge_4 rfl ?_
    refine R_aload_n dX2_hasJudge_5 rfl ?_
    refine R_get dX2_hasJudge_6 gf_X2_52 h.1 rfl ?_
    refine R_icmp_ge (tgt := 16) dX2_hasJudge_9 (by decide) (fun c9 => ?_) (fun c9 => ?_)
    · refine R_iconst (v := 0) dX2_hasJudge_16 (by decide) ?_
      exact R_zret dX2_hasJudge_17 rfl (by first | exact Or.inl rfl | exact Or.inr rfl | assumption | omega) (⟨_, rfl, by (first | (simp_all [bl, hasB]; done) | (simp_all [bl, hasB, Int32.lt_iff_toInt_lt, Int32.le_iff_toInt_le]; done) | (simp_all [bl, hasB, Int32.lt_iff_toInt_lt, Int32.le_iff_toInt_le]; omega)), rfl⟩)
    · refine R_iconst (v := 1) dX2_hasJudge_12 (by decide) ?_
      refine R_goto (tgt := 17) dX2_hasJudge_13 (by decide) ?_
      exact R_zret dX2_hasJudge_17 rfl (by first | exact Or.inl rfl | exact Or.inr rfl | assumption | omega) (⟨_, rfl, by (first | (simp_all [bl, hasB]; done) | (simp_all [bl, hasB, Int32.lt_iff_toInt_lt, Int32.le_iff_toInt_le]; done) | (simp_all [bl, hasB, Int32.lt_iff_toInt_lt, Int32.le_iff_toInt_le]; omega)), rfl⟩)
set_option maxRecDepth 4000 in
theorem e_hasCase (G : GG) (hh : HH) {k : Nat} {a : AA} {v : VV} (h : StAt G hh k a v) (j : Int32) : EVp G mX2_hasCase [.ref (ad G k), .int j] hh (bl (decide (0 ≤ j ∧ j < v 14))) := by
  refine EV.of [(0, .ref (ad G k)), (1, .int j)] (by decide +kernel) (Nat.le_of_ble_eq_true rfl) rfl ?_
  refine R_iload_n dX2_hasCase_0 rfl ?_
  refine R_if_lt (tgt := 16) dX2_hasCase_1 (by decide) (fun c1 => ?_) (fun c1 => ?_)
  · refine R_iconst (v := 0) dX2_hasCase_16 (by decide) ?_
    exact R_zret dX2_hasCase_17 rfl (by first | exact Or.inl rfl | exact Or.inr rfl | assumption | omega) (⟨_, rfl, by (first | (simp_all [bl, hasB]; done) | (simp_all [bl, hasB, Int32.lt_iff_toInt_lt, Int32.le_iff_toInt_le]; done) | (simp_all [bl, hasB, Int32.lt_iff_toInt_lt, Int32.le_iff_toInt_le]; omega)), rfl⟩)
  · refine R_iload_n dX2_hasCase_4 rfl ?_
    refine R_aload_n dX2_hasCase_5 rfl ?_
    refine R_get dX2_hasCase_6 gf_X2_61 h.1 rfl ?_
    refine R_icmp_ge (tgt := 16) dX2_hasCase_9 (by decide) (fun c9 => ?_) (fun c9 => ?_)
    · refine R_iconst (v := 0) dX2_hasCase_16 (by decide) ?_
      exact R_zret dX2_hasCase_17 rfl (by first | exact Or.inl rfl | exact Or.inr rfl | assumption | omega) (⟨_, rfl, by (first | (simp_all [bl, hasB]; done) | (simp_all [bl, hasB, Int32.lt_iff_toInt_lt, Int32.le_iff_toInt_le]; done) | (simp_all [bl, hasB, Int32.lt_iff_toInt_lt, Int32.le_iff_toInt_le]; omega)), rfl⟩)
    · refine R_iconst (v := 1) dX2_hasCase_12 (by decide) ?_
      refine R_goto (tgt := 17) dX2_hasCase_13 (by decide) ?_
      exact R_zret dX2_hasCase_17 rfl (by first | exact Or.inl rfl | exact Or.inr rfl | assumption | omega) (⟨_, rfl, by (first | (simp_all [bl, hasB]; done) | (simp_all [bl, hasB, Int32.lt_iff_toInt_lt, Int32.le_iff_toInt_le]; done) | (simp_all [bl, hasB, Int32.lt_iff_toInt_lt, Int32.le_iff_toInt_le]; omega)), rfl⟩)
set_option maxRecDepth 4000 in
theorem e_isAway (G : GG) (hh : HH) {k : Nat} {a : AA} {v : VV} (h : StAt G hh k a v) (j : Int32) : EVp G mX2_isAway [.ref (ad G k), .int j] hh (bl (hasB (v 9) j)) := by
  refine EV.of [(0, .ref (ad G k)), (1, .int j)] (by decide +kernel) (Nat.le_of_ble_eq_true rfl) rfl ?_
  refine R_aload_n dX2_isAway_0 rfl ?_
  refine R_get dX2_isAway_1 gf_X2_55 h.1 rfl ?_
  refine R_iload_n dX2_isAway_4 rfl ?_
  refine R_ishr dX2_isAway_5 ?_
  refine R_iconst (v := 1) dX2_isAway_6 (by decide) ?_
  refine R_iand dX2_isAway_7 ?_
  refine R_iconst (v := 1) dX2_isAway_8 (by decide) ?_
  refine R_icmp_ne (tgt := 16) dX2_isAway_9 (by decide) (fun c9 => ?_) (fun c9 => ?_)
  · refine R_iconst (v := 0) dX2_isAway_16 (by decide) ?_
    exact R_zret dX2_isAway_17 rfl (by first | exact Or.inl rfl | exact Or.inr rfl | assumption | omega) (⟨_, rfl, by (first | (simp_all [bl, hasB]; done) | (simp_all [bl, hasB, Int32.lt_iff_toInt_lt, Int32.le_iff_toInt_le]; done) | (simp_all [bl, hasB, Int32.lt_iff_toInt_lt, Int32.le_iff_toInt_le]; omega)), rfl⟩)
  · refine R_iconst (v := 1) dX2_isAway_12 (by decide) ?_
    refine R_goto (tgt := 17) dX2_isAway_13 (by decide) ?_
    exact R_zret dX2_isAway_17 rfl (by first | exact Or.inl rfl | exact Or.inr rfl | assumption | omega) (⟨_, rfl, by (first | (simp_all [bl, hasB]; done) | (simp_all [bl, hasB, Int32.lt_iff_toInt_lt, Int32.le_iff_toInt_le]; done) | (simp_all [bl, hasB, Int32.lt_iff_toInt_lt, Int32.le_iff_toInt_le]; omega)), rfl⟩)
set_option maxRecDepth 4000 in
theorem e_isBarred (G : GG) (hh : HH) {k : Nat} {a : AA} {v : VV} (h : StAt G hh k a v) (j p : Int32) (hj : vp_in j 6) : EVp G mX2_isBarred [.ref (ad G k), .int j, .int p] hh (bl (hasB (a 2 j.toNatClampNeg) p)) := by
  refine EV.of [(0, .ref (ad G k)), (1, .int j), (2, .int p)] (by decide +kernel) (Nat.le_of_ble_eq_true rfl) rfl ?_
  refine R_aload_n dX2_isBarred_0 rfl ?_
  refine R_get dX2_isBarred_1 gf_X2_18 h.1 rfl ?_
  refine R_iload_n dX2_isBarred_4 rfl ?_
  refine R_iald dX2_isBarred_5 h.a2 (by assumption) ?_
  refine R_iload_n dX2_isBarred_6 rfl ?_
  refine R_ishr dX2_isBarred_7 ?_
  refine R_iconst (v := 1) dX2_isBarred_8 (by decide) ?_
  refine R_iand dX2_isBarred_9 ?_
  refine R_iconst (v := 1) dX2_isBarred_10 (by decide) ?_
  refine R_icmp_ne (tgt := 18) dX2_isBarred_11 (by decide) (fun c11 => ?_) (fun c11 => ?_)
  · refine R_iconst (v := 0) dX2_isBarred_18 (by decide) ?_
    exact R_zret dX2_isBarred_19 rfl (by first | exact Or.inl rfl | exact Or.inr rfl | assumption | omega) (⟨_, rfl, by (first | (simp_all [bl, hasB]; done) | (simp_all [bl, hasB, Int32.lt_iff_toInt_lt, Int32.le_iff_toInt_le]; done) | (simp_all [bl, hasB, Int32.lt_iff_toInt_lt, Int32.le_iff_toInt_le]; omega)), rfl⟩)
  · refine R_iconst (v := 1) dX2_isBarred_14 (by decide) ?_
    refine R_goto (tgt := 19) dX2_isBarred_15 (by decide) ?_
    exact R_zret dX2_isBarred_19 rfl (by first | exact Or.inl rfl | exact Or.inr rfl | assumption | omega) (⟨_, rfl, by (first | (simp_all [bl, hasB]; done) | (simp_all [bl, hasB, Int32.lt_iff_toInt_lt, Int32.le_iff_toInt_le]; done) | (simp_all [bl, hasB, Int32.lt_iff_toInt_lt, Int32.le_iff_toInt_le]; omega)), rfl⟩)
set_option maxRecDepth 4000 in
theorem e_isFreeFor (G : GG) (hh : HH) {k : Nat} {a : AA} {v : VV} (h : StAt G hh k a v) (j p : Int32) (hj : vp_in j 6) : EVp G mX2_isFreeFor [.ref (ad G k), .int j, .int p] hh (bl (!hasB (v 9) j && !hasB (a 2 j.toNatClampNeg) p)) := by
  refine EV.of [(0, .ref (ad G k)), (1, .int j), (2, .int p)] (by decide +kernel) (Nat.le_of_ble_eq_true rfl) rfl ?_
  refine R_aload_n dX2_isFreeFor_0 rfl ?_
  refine R_iload_n dX2_isFreeFor_1 rfl ?_
  refine R_callVp dX2_isFreeFor_2 cv_X2_74 ⟨by decide, by decide⟩ (e_isAway G hh h j) h.1 rfl rfl rfl (Nat.le_of_ble_eq_true rfl) ?_
  refine R_if_ne (tgt := 21) dX2_isFreeFor_5 (by decide) (fun c5 => ?_) (fun c5 => ?_)
  · refine R_iconst (v := 0) dX2_isFreeFor_21 (by decide) ?_
    exact R_zret dX2_isFreeFor_22 rfl (by first | exact Or.inl rfl | exact Or.inr rfl | assumption | omega) (⟨_, rfl, by (first | (simp_all [bl, hasB]; done) | (simp_all [bl, hasB, Int32.lt_iff_toInt_lt, Int32.le_iff_toInt_le]; done) | (simp_all [bl, hasB, Int32.lt_iff_toInt_lt, Int32.le_iff_toInt_le]; omega)), rfl⟩)
  · refine R_aload_n dX2_isFreeFor_8 rfl ?_
    refine R_iload_n dX2_isFreeFor_9 rfl ?_
    refine R_iload_n dX2_isFreeFor_10 rfl ?_
    refine R_callVp dX2_isFreeFor_11 cv_X2_78 ⟨by decide, by decide⟩ (e_isBarred G hh h j p hj) h.1 rfl rfl rfl (Nat.le_of_ble_eq_true rfl) ?_
    refine R_if_ne (tgt := 21) dX2_isFreeFor_14 (by decide) (fun c14 => ?_) (fun c14 => ?_)
    · refine R_iconst (v := 0) dX2_isFreeFor_21 (by decide) ?_
      exact R_zret dX2_isFreeFor_22 rfl (by first | exact Or.inl rfl | exact Or.inr rfl | assumption | omega) (⟨_, rfl, by (first | (simp_all [bl, hasB]; done) | (simp_all [bl, hasB, Int32.lt_iff_toInt_lt, Int32.le_iff_toInt_le]; done) | (simp_all [bl, hasB, Int32.lt_iff_toInt_lt, Int32.le_iff_toInt_le]; omega)), rfl⟩)
    · refine R_iconst (v := 1) dX2_isFreeFor_17 (by decide) ?_
      refine R_goto (tgt := 22) dX2_isFreeFor_18 (by decide) ?_
      exact R_zret dX2_isFreeFor_22 rfl (by first | exact Or.inl rfl | exact Or.inr rfl | assumption | omega) (⟨_, rfl, by (first | (simp_all [bl, hasB]; done) | (simp_all [bl, hasB, Int32.lt_iff_toInt_lt, Int32.le_iff_toInt_le]; done) | (simp_all [bl, hasB, Int32.lt_iff_toInt_lt, Int32.le_iff_toInt_le]; omega)), rfl⟩)
end
section
/-- is judge i neither away nor barred from p -/
def fre (a : AA) (v : VV) (i : Nat) (p : Int32) : Bool := !hasB (v 9) (nI i) && !hasB (a 2 i) p
def anyFor (a : AA) (v : VV) (p b : Int32) (i d : Nat) : Bool := (List.range' i d).any (fun j => !decide (nI j = b) && fre a v j p)
/-- the weight of judge j for a subject -/
def wt (a : AA) (v : VV) (j : Nat) (s : Int32) : Int32 :=
  if hasB (v 9) (nI j) = true then 0 else
    let w1 := if ¬ (v 10 &&& 1 = 0) ∧ hasB (a 1 j) s = true then a 0 j + a 0 j else a 0 j
    let w2 := if ¬ (v 10 &&& 2 = 0) then w1 + a 3 j else w1
    if w2 < 1 then 1 else w2
/-- sums, first to last -/
def foldS (f : Nat → Int32) : Nat → Nat → Int32 → Int32
  | _, 0, s => s
  | i, d + 1, s => foldS f (i + 1) d (s + f i)
def mixA (f g : Nat → Int32) (i : Nat) : Nat → Int32 := fun j => if j < i then f j else g j
theorem mixA_0 (f g : Nat → Int32) : mixA f g 0 = g := by funext j; simp [mixA]
theorem mixA_s (f g : Nat → Int32) (i : Nat) : upd (mixA f g i) i (f i) = mixA f g (i + 1) := by
  funext j
  by_cases h1 : j = i
  · subst h1; simp [upd, mixA]
  · by_cases h2 : j < i
    · simp [upd, mixA, h1, h2, show j < i + 1 by omega]
    · simp [upd, mixA, h1, h2, show ¬ j < i + 1 by omega]
def tw (x : Int32) : Int32 :=
  let x1 := x ^^^ (x <<< ((13 : Int32) &&& 31))
  let x2 := x1 ^^^ (x1.toUInt32 >>> ((17 : Int32).toUInt32 &&& Int32.toUInt32 31)).toInt32
  x2 ^^^ (x2 <<< ((5 : Int32) &&& 31))
theorem StAt.cg {G : GG} {hh : HH} {k : Nat} {a a' : AA} {v v' : VV} (h : StAt G hh k a v) (ha : a = a') (hv : v = v') : StAt G hh k a' v' := by subst ha; subst hv; exact h

theorem e_fre (G : GG) (hh : HH) {k : Nat} {a : AA} {v : VV} (h : StAt G hh k a v) (j : Nat) (p : Int32) (hj : j < 6) : EVp G mX2_isFreeFor [.ref (ad G k), .int (nI j), .int p] hh (bl (fre a v j p)) := by
  have h1 := e_isFreeFor G hh h (nI j) p (vp_in_nI hj (by decide))
  rw [nI_clamp (by omega)] at h1
  exact h1
set_option maxRecDepth 4000 in
theorem l_hasSomeoneFor (G : GG) (hh : HH) {k : Nat} {a : AA} {v : VV} (h : StAt G hh k a v) {n : Nat} (hn : n ≤ 6) (hv : v 8 = nI n) (p b : Int32) : ∀ (d i : Nat), i + d = n → RR G mX2_hasSomeoneFor 2 [(0, .ref (ad G k)), (1, .int p), (2, .int b), (3, .int (nI i))] [] hh (fun r h => ∃ w, r = some (.int w) ∧ (w = bl (anyFor a v p b i d) ∧ h = hh)) := by
  intro d
  induction d with
  | zero =>
    intro i hi
    refine R_iload_n dX2_hasSomeoneFor_2 rfl ?_
    refine R_aload_n dX2_hasSomeoneFor_3 rfl ?_
    refine R_get dX2_hasSomeoneFor_4 gf_X2_52 h.1 rfl ?_
    refine R_icmp_ge (tgt := 32) dX2_hasSomeoneFor_7 (by decide) (fun c7 => ?_) (fun c7 => absurd (by rw [hv]; exact nI_le (by omega) (by omega)) c7)
    refine R_iconst (v := 0) dX2_hasSomeoneFor_32 (by decide) ?_
    exact R_zret dX2_hasSomeoneFor_33 rfl (by first | exact Or.inl rfl | exact Or.inr rfl | assumption | omega) (⟨_, rfl, by simp [anyFor, bl], rfl⟩)
  | succ d ih =>
    intro i hi
    refine R_iload_n dX2_hasSomeoneFor_2 rfl ?_
    refine R_aload_n dX2_hasSomeoneFor_3 rfl ?_
    refine R_get dX2_hasSomeoneFor_4 gf_X2_52 h.1 rfl ?_
    refine R_icmp_ge (tgt := 32) dX2_hasSomeoneFor_7 (by decide) (fun c7 => absurd c7 (by rw [hv]; exact nI_ge (by omega) (by omega))) (fun c7 => ?_)
    refine R_iload_n dX2_hasSomeoneFor_10 rfl ?_
    refine R_iload_n dX2_hasSomeoneFor_11 rfl ?_
    refine R_icmp_eq (tgt := 26) dX2_hasSomeoneFor_12 (by decide) (fun c12 => ?_) (fun c12 => ?_)
    · refine R_iinc (y := nI (i + 1)) dX2_hasSomeoneFor_26 rfl (by decide) (nI_s i) ?_
      refine R_goto (tgt := 2) dX2_hasSomeoneFor_29 (by decide) ?_
      have e9 : anyFor a v p b i (d + 1) = anyFor a v p b (i + 1) d := by simp_all [anyFor, bl, List.range'_succ]
      rw [e9]
      exact RR.pick [1, 2, 3, 0] rfl (ih (i + 1) (by omega))
    · refine R_aload_n dX2_hasSomeoneFor_15 rfl ?_
      refine R_iload_n dX2_hasSomeoneFor_16 rfl ?_
      refine R_iload_n dX2_hasSomeoneFor_17 rfl ?_
      refine R_callVp dX2_hasSomeoneFor_18 cv_X2_82 ⟨by decide, by decide⟩ (e_fre G hh h i p (by omega)) h.1 rfl rfl rfl (Nat.le_of_ble_eq_true rfl) ?_
      refine R_if_eq (tgt := 26) dX2_hasSomeoneFor_21 (by decide) (fun c21 => ?_) (fun c21 => ?_)
      · refine R_iinc (y := nI (i + 1)) dX2_hasSomeoneFor_26 rfl (by decide) (nI_s i) ?_
        refine R_goto (tgt := 2) dX2_hasSomeoneFor_29 (by decide) ?_
        have e9 : anyFor a v p b i (d + 1) = anyFor a v p b (i + 1) d := by simp_all [anyFor, bl, List.range'_succ]
        rw [e9]
        exact RR.pick [1, 2, 3, 0] rfl (ih (i + 1) (by omega))
      · refine R_iconst (v := 1) dX2_hasSomeoneFor_24 (by decide) ?_
        exact R_zret dX2_hasSomeoneFor_25 rfl (by first | exact Or.inl rfl | exact Or.inr rfl | assumption | omega) (⟨_, rfl, by simp_all [anyFor, bl, List.range'_succ], rfl⟩)
set_option maxRecDepth 4000 in
theorem e_hasSomeoneFor (G : GG) (hh : HH) {k : Nat} {a : AA} {v : VV} (h : StAt G hh k a v) {n : Nat} (hn : n ≤ 6) (hv : v 8 = nI n) (p b : Int32) : EVp G mX2_hasSomeoneFor [.ref (ad G k), .int p, .int b] hh (bl (anyFor a v p b 0 n)) := by
  refine EV.of [(0, .ref (ad G k)), (1, .int p), (2, .int b)] (by decide +kernel) (Nat.le_of_ble_eq_true rfl) rfl ?_
  refine R_iconst (v := 0) dX2_hasSomeoneFor_0 (by decide) ?_
  refine R_istore_n dX2_hasSomeoneFor_1 (by decide) ?_
  exact RR.pick [1, 2, 3, 0] rfl (l_hasSomeoneFor G hh h hn hv p b n 0 (by omega))
def allFor (a : AA) (v : VV) (n : Nat) (i d : Nat) : Bool := (List.range' i d).all (fun c => anyFor a v (a 5 c) (-1) 0 n)
set_option maxRecDepth 4000 in
theorem l_everyCase (G : GG) (hh : HH) {k : Nat} {a : AA} {v : VV} (h : StAt G hh k a v) {n : Nat} (hn : n ≤ 6) (hv : v 8 = nI n) {m : Nat} (hm : m ≤ 20) (hc : v 14 = nI m) : ∀ (d i : Nat), i + d = m → RR G mX2_everyCaseHasSomeone 2 [(0, .ref (ad G k)), (1, .int (nI i))] [] hh (fun r h => ∃ w, r = some (.int w) ∧ (w = bl (allFor a v n i d) ∧ h = hh)) := by
  intro d
  induction d with
  | zero =>
    intro i hi
    refine R_iload_n dX2_everyCaseHasSomeone_2 rfl ?_
    refine R_aload_n dX2_everyCaseHasSomeone_3 rfl ?_
    refine R_get dX2_everyCaseHasSomeone_4 gf_X2_61 h.1 rfl ?_
    refine R_icmp_ge (tgt := 32) dX2_everyCaseHasSomeone_7 (by decide) (fun c7 => ?_) (fun c7 => absurd (by rw [hc]; exact nI_le (by omega) (by omega)) c7)
    refine R_iconst (v := 1) dX2_everyCaseHasSomeone_32 (by decide) ?_
    exact R_zret dX2_everyCaseHasSomeone_33 rfl (by first | exact Or.inl rfl | exact Or.inr rfl | assumption | omega) (⟨_, rfl, by simp [allFor, bl], rfl⟩)
  | succ d ih =>
    intro i hi
    refine R_iload_n dX2_everyCaseHasSomeone_2 rfl ?_
    refine R_aload_n dX2_everyCaseHasSomeone_3 rfl ?_
    refine R_get dX2_everyCaseHasSomeone_4 gf_X2_61 h.1 rfl ?_
    refine R_icmp_ge (tgt := 32) dX2_everyCaseHasSomeone_7 (by decide) (fun c7 => absurd c7 (by rw [hc]; exact nI_ge (by omega) (by omega))) (fun c7 => ?_)
    refine R_aload_n dX2_everyCaseHasSomeone_10 rfl ?_
    refine R_aload_n dX2_everyCaseHasSomeone_11 rfl ?_
    refine R_get dX2_everyCaseHasSomeone_12 gf_X2_27 h.1 rfl ?_
    refine R_iload_n dX2_everyCaseHasSomeone_15 rfl ?_
    refine R_ialdN dX2_everyCaseHasSomeone_16 h.a5 (by omega) (by decide) ?_
    refine R_iconst (v := (-1)) dX2_everyCaseHasSomeone_17 (by decide) ?_
    refine R_callVp dX2_everyCaseHasSomeone_18 cv_X2_85 ⟨by decide, by decide⟩ (e_hasSomeoneFor G hh h hn hv (a 5 i) (-1)) h.1 rfl rfl rfl (Nat.le_of_ble_eq_true rfl) ?_
    refine R_if_ne (tgt := 26) dX2_everyCaseHasSomeone_21 (by decide) (fun c21 => ?_) (fun c21 => ?_)
    · refine R_iinc (y := nI (i + 1)) dX2_everyCaseHasSomeone_26 rfl (by decide) (nI_s i) ?_
      refine R_goto (tgt := 2) dX2_everyCaseHasSomeone_29 (by decide) ?_
      have e9 : allFor a v n i (d + 1) = allFor a v n (i + 1) d := by simp_all [allFor, bl, List.range'_succ]
      rw [e9]
      exact RR.pick [1, 0] rfl (ih (i + 1) (by omega))
    · refine R_iconst (v := 0) dX2_everyCaseHasSomeone_24 (by decide) ?_
      exact R_zret dX2_everyCaseHasSomeone_25 rfl (by first | exact Or.inl rfl | exact Or.inr rfl | assumption | omega) (⟨_, rfl, by simp_all [allFor, bl, List.range'_succ], rfl⟩)
set_option maxRecDepth 4000 in
theorem e_everyCase (G : GG) (hh : HH) {k : Nat} {a : AA} {v : VV} (h : StAt G hh k a v) {n : Nat} (hn : n ≤ 6) (hv : v 8 = nI n) {m : Nat} (hm : m ≤ 20) (hc : v 14 = nI m) : EVp G mX2_everyCaseHasSomeone [.ref (ad G k)] hh (bl (allFor a v n 0 m)) := by
  refine EV.of [(0, .ref (ad G k))] (by decide +kernel) (Nat.le_of_ble_eq_true rfl) rfl ?_
  refine R_iconst (v := 0) dX2_everyCaseHasSomeone_0 (by decide) ?_
  refine R_istore_n dX2_everyCaseHasSomeone_1 (by decide) ?_
  exact RR.pick [1, 0] rfl (l_everyCase G hh h hn hv hm hc m 0 (by omega))
def ctOf (a : AA) (j : Int32) : Nat → Nat → Nat
  | _, 0 => 0
  | i, d + 1 => (if a 6 i = j then 1 else 0) + ctOf a j (i + 1) d
set_option maxRecDepth 4000 in
theorem l_casesOf (G : GG) (hh : HH) {k : Nat} {a : AA} {v : VV} (h : StAt G hh k a v) {m : Nat} (hm : m ≤ 20) (hc : v 14 = nI m) (j : Int32) : ∀ (d i s : Nat), i + d = m → RR G mX2_casesOf 4 [(0, .ref (ad G k)), (1, .int j), (2, .int (nI s)), (3, .int (nI i))] [] hh (fun r h => ∃ w, r = some (.int w) ∧ (w = nI (s + ctOf a j i d) ∧ h = hh)) := by
  intro d
  induction d with
  | zero =>
    intro i s hi
    refine R_iload_n dX2_casesOf_4 rfl ?_
    refine R_aload_n dX2_casesOf_5 rfl ?_
    refine R_get dX2_casesOf_6 gf_X2_61 h.1 rfl ?_
    refine R_icmp_ge (tgt := 31) dX2_casesOf_9 (by decide) (fun c9 => ?_) (fun c9 => absurd (by rw [hc]; exact nI_le (by omega) (by omega)) c9)
    refine R_iload_n dX2_casesOf_31 rfl ?_
    exact R_iret dX2_casesOf_32 rfl (⟨_, rfl, by simp [ctOf], rfl⟩)
  | succ d ih =>
    intro i s hi
    refine R_iload_n dX2_casesOf_4 rfl ?_
    refine R_aload_n dX2_casesOf_5 rfl ?_
    refine R_get dX2_casesOf_6 gf_X2_61 h.1 rfl ?_
    refine R_icmp_ge (tgt := 31) dX2_casesOf_9 (by decide) (fun c9 => absurd c9 (by rw [hc]; exact nI_ge (by omega) (by omega))) (fun c9 => ?_)
    refine R_aload_n dX2_casesOf_12 rfl ?_
    refine R_get dX2_casesOf_13 gf_X2_30 h.1 rfl ?_
    refine R_iload_n dX2_casesOf_16 rfl ?_
    refine R_ialdN dX2_casesOf_17 h.a6 (by omega) (by decide) ?_
    refine R_iload_n dX2_casesOf_18 rfl ?_
    refine R_icmp_ne (tgt := 25) dX2_casesOf_19 (by decide) (fun c19 => ?_) (fun c19 => ?_)
    · refine R_iinc (y := nI (i + 1)) dX2_casesOf_25 rfl (by decide) (nI_s i) ?_
      refine R_goto (tgt := 4) dX2_casesOf_28 (by decide) ?_
      have e9 : s + ctOf a j i (d + 1) = s + ctOf a j (i + 1) d := by simp only [ctOf]; rw [if_neg (by simpa using c19)]; omega
      rw [e9]
      exact RR.pick [1, 2, 3, 0] rfl (ih (i + 1) _ (by omega))
    · refine R_iinc (y := nI (s + 1)) dX2_casesOf_22 rfl (by decide) (nI_s s) ?_
      refine R_iinc (y := nI (i + 1)) dX2_casesOf_25 rfl (by decide) (nI_s i) ?_
      refine R_goto (tgt := 4) dX2_casesOf_28 (by decide) ?_
      have e9 : s + ctOf a j i (d + 1) = s + 1 + ctOf a j (i + 1) d := by simp only [ctOf]; rw [if_pos (by simpa using c19)]; omega
      rw [e9]
      exact RR.pick [2, 3, 1, 0] rfl (ih (i + 1) _ (by omega))
set_option maxRecDepth 4000 in
theorem e_casesOf (G : GG) (hh : HH) {k : Nat} {a : AA} {v : VV} (h : StAt G hh k a v) {m : Nat} (hm : m ≤ 20) (hc : v 14 = nI m) (j : Int32) : EVp G mX2_casesOf [.ref (ad G k), .int j] hh (nI (0 + ctOf a j 0 m)) := by
  refine EV.of [(0, .ref (ad G k)), (1, .int j)] (by decide +kernel) (Nat.le_of_ble_eq_true rfl) rfl ?_
  refine R_iconst (v := 0) dX2_casesOf_0 (by decide) ?_
  refine R_istore_n dX2_casesOf_1 (by decide) ?_
  refine R_iconst (v := 0) dX2_casesOf_2 (by decide) ?_
  refine R_istore_n dX2_casesOf_3 (by decide) ?_
  exact RR.pick [2, 3, 1, 0] rfl (l_casesOf G hh h hm hc j m 0 0 (by omega))
set_option maxRecDepth 4000 in
theorem e_weightOf (G : GG) (hh : HH) {k : Nat} {a : AA} {v : VV} (h : StAt G hh k a v) (j : Nat) (hj : j < 6) (s : Int32) : EVp G mX2_weightOf [.ref (ad G k), .int (nI j), .int s] hh (wt a v j s) := by
  refine EV.of [(0, .ref (ad G k)), (1, .int (nI j)), (2, .int s)] (by decide +kernel) (Nat.le_of_ble_eq_true rfl) rfl ?_
  refine R_aload_n dX2_weightOf_0 rfl ?_
  refine R_iload_n dX2_weightOf_1 rfl ?_
  refine R_callVp dX2_weightOf_2 cv_X2_74 ⟨by decide, by decide⟩ (e_isAway G hh h (nI j)) h.1 rfl rfl rfl (Nat.le_of_ble_eq_true rfl) ?_
  refine R_if_eq (tgt := 10) dX2_weightOf_5 (by decide) (fun c5 => ?_) (fun c5 => ?_)
  · refine R_aload_n dX2_weightOf_10 rfl ?_
    refine R_get dX2_weightOf_11 gf_X2_9 h.1 rfl ?_
    refine R_iload_n dX2_weightOf_14 rfl ?_
    refine R_ialdN dX2_weightOf_15 h.a0 (by omega) (by decide) ?_
    refine R_istore_n dX2_weightOf_16 (by decide) ?_
    refine R_aload_n dX2_weightOf_17 rfl ?_
    refine R_get dX2_weightOf_18 gf_X2_36 h.1 rfl ?_
    refine R_iconst (v := 1) dX2_weightOf_21 (by decide) ?_
    refine R_iand dX2_weightOf_22 ?_
    refine R_if_eq (tgt := 44) dX2_weightOf_23 (by decide) (fun c23 => ?_) (fun c23 => ?_)
    · refine R_aload_n dX2_weightOf_44 rfl ?_
      refine R_get dX2_weightOf_45 gf_X2_36 h.1 rfl ?_
      refine R_iconst (v := 2) dX2_weightOf_48 (by decide) ?_
      refine R_iand dX2_weightOf_49 ?_
      refine R_if_eq (tgt := 62) dX2_weightOf_50 (by decide) (fun c50 => ?_) (fun c50 => ?_)
      · refine R_iload_n dX2_weightOf_62 rfl ?_
        refine R_iconst (v := 1) dX2_weightOf_63 (by decide) ?_
        refine R_mmax dX2_weightOf_64 mm_X2_88 mS_max mI_Math mC_max (by decide) (Nat.le_of_ble_eq_true rfl) ?_
        exact R_iret dX2_weightOf_67 rfl (⟨_, rfl, by simp_all [wt, bl, hasB], rfl⟩)
      · refine R_iload_n dX2_weightOf_53 rfl ?_
        refine R_aload_n dX2_weightOf_54 rfl ?_
        refine R_get dX2_weightOf_55 gf_X2_21 h.1 rfl ?_
        refine R_iload_n dX2_weightOf_58 rfl ?_
        refine R_ialdN dX2_weightOf_59 h.a3 (by omega) (by decide) ?_
        refine R_iadd dX2_weightOf_60 ?_
        refine R_istore_n dX2_weightOf_61 (by decide) ?_
        refine R_iload_n dX2_weightOf_62 rfl ?_
        refine R_iconst (v := 1) dX2_weightOf_63 (by decide) ?_
        refine R_mmax dX2_weightOf_64 mm_X2_88 mS_max mI_Math mC_max (by decide) (Nat.le_of_ble_eq_true rfl) ?_
        exact R_iret dX2_weightOf_67 rfl (⟨_, rfl, by simp_all [wt, bl, hasB], rfl⟩)
    · refine R_aload_n dX2_weightOf_26 rfl ?_
      refine R_get dX2_weightOf_27 gf_X2_15 h.1 rfl ?_
      refine R_iload_n dX2_weightOf_30 rfl ?_
      refine R_ialdN dX2_weightOf_31 h.a1 (by omega) (by decide) ?_
      refine R_iload_n dX2_weightOf_32 rfl ?_
      refine R_ishr dX2_weightOf_33 ?_
      refine R_iconst (v := 1) dX2_weightOf_34 (by decide) ?_
      refine R_iand dX2_weightOf_35 ?_
      refine R_iconst (v := 1) dX2_weightOf_36 (by decide) ?_
      refine R_icmp_ne (tgt := 44) dX2_weightOf_37 (by decide) (fun c37 => ?_) (fun c37 => ?_)
      · refine R_aload_n dX2_weightOf_44 rfl ?_
        refine R_get dX2_weightOf_45 gf_X2_36 h.1 rfl ?_
        refine R_iconst (v := 2) dX2_weightOf_48 (by decide) ?_
        refine R_iand dX2_weightOf_49 ?_
        refine R_if_eq (tgt := 62) dX2_weightOf_50 (by decide) (fun c50 => ?_) (fun c50 => ?_)
        · refine R_iload_n dX2_weightOf_62 rfl ?_
          refine R_iconst (v := 1) dX2_weightOf_63 (by decide) ?_
          refine R_mmax dX2_weightOf_64 mm_X2_88 mS_max mI_Math mC_max (by decide) (Nat.le_of_ble_eq_true rfl) ?_
          exact R_iret dX2_weightOf_67 rfl (⟨_, rfl, by simp_all [wt, bl, hasB], rfl⟩)
        · refine R_iload_n dX2_weightOf_53 rfl ?_
          refine R_aload_n dX2_weightOf_54 rfl ?_
          refine R_get dX2_weightOf_55 gf_X2_21 h.1 rfl ?_
          refine R_iload_n dX2_weightOf_58 rfl ?_
          refine R_ialdN dX2_weightOf_59 h.a3 (by omega) (by decide) ?_
          refine R_iadd dX2_weightOf_60 ?_
          refine R_istore_n dX2_weightOf_61 (by decide) ?_
          refine R_iload_n dX2_weightOf_62 rfl ?_
          refine R_iconst (v := 1) dX2_weightOf_63 (by decide) ?_
          refine R_mmax dX2_weightOf_64 mm_X2_88 mS_max mI_Math mC_max (by decide) (Nat.le_of_ble_eq_true rfl) ?_
          exact R_iret dX2_weightOf_67 rfl (⟨_, rfl, by simp_all [wt, bl, hasB], rfl⟩)
      · refine R_iload_n dX2_weightOf_40 rfl ?_
        refine R_iload_n dX2_weightOf_41 rfl ?_
        refine R_iadd dX2_weightOf_42 ?_
        refine R_istore_n dX2_weightOf_43 (by decide) ?_
        refine R_aload_n dX2_weightOf_44 rfl ?_
        refine R_get dX2_weightOf_45 gf_X2_36 h.1 rfl ?_
        refine R_iconst (v := 2) dX2_weightOf_48 (by decide) ?_
        refine R_iand dX2_weightOf_49 ?_
        refine R_if_eq (tgt := 62) dX2_weightOf_50 (by decide) (fun c50 => ?_) (fun c50 => ?_)
        · refine R_iload_n dX2_weightOf_62 rfl ?_
          refine R_iconst (v := 1) dX2_weightOf_63 (by decide) ?_
          refine R_mmax dX2_weightOf_64 mm_X2_88 mS_max mI_Math mC_max (by decide) (Nat.le_of_ble_eq_true rfl) ?_
          exact R_iret dX2_weightOf_67 rfl (⟨_, rfl, by simp_all [wt, bl, hasB], rfl⟩)
        · refine R_iload_n dX2_weightOf_53 rfl ?_
          refine R_aload_n dX2_weightOf_54 rfl ?_
          refine R_get dX2_weightOf_55 gf_X2_21 h.1 rfl ?_
          refine R_iload_n dX2_weightOf_58 rfl ?_
          refine R_ialdN dX2_weightOf_59 h.a3 (by omega) (by decide) ?_
          refine R_iadd dX2_weightOf_60 ?_
          refine R_istore_n dX2_weightOf_61 (by decide) ?_
          refine R_iload_n dX2_weightOf_62 rfl ?_
          refine R_iconst (v := 1) dX2_weightOf_63 (by decide) ?_
          refine R_mmax dX2_weightOf_64 mm_X2_88 mS_max mI_Math mC_max (by decide) (Nat.le_of_ble_eq_true rfl) ?_
          exact R_iret dX2_weightOf_67 rfl (⟨_, rfl, by simp_all [wt, bl, hasB], rfl⟩)
  · refine R_iconst (v := 0) dX2_weightOf_8 (by decide) ?_
    exact R_iret dX2_weightOf_9 rfl (⟨_, rfl, by simp_all [wt, bl, hasB], rfl⟩)
theorem e_bar (G : GG) (hh : HH) {k : Nat} {a : AA} {v : VV} (h : StAt G hh k a v) (j : Nat) (p : Int32) (hj : j < 6) : EVp G mX2_isBarred [.ref (ad G k), .int (nI j), .int p] hh (bl (hasB (a 2 j) p)) := by
  have h1 := e_isBarred G hh h (nI j) p (vp_in_nI hj (by decide))
  rw [nI_clamp (by omega)] at h1
  exact h1
/-- a weight, but 0 for one who is barred -/
def wtF (a : AA) (v : VV) (s p : Int32) (j : Nat) : Int32 := if hasB (a 2 j) p = true then 0 else wt a v j s
set_option maxRecDepth 4000 in
theorem l_weightsFree (G : GG) (hh : HH) {k : Nat} {a : AA} {v : VV} (h : StAt G hh k a v) {n : Nat} (hn : n ≤ 6) (hv : v 8 = nI n) (s p : Int32) : ∀ (d i : Nat) (x : Int32), i + d = n → RR G mX2_weightsFreeFor 5 [(0, .ref (ad G k)), (1, .int s), (2, .int p), (3, .int x), (4, .int (nI i))] [] hh (fun r h => ∃ w, r = some (.int w) ∧ (w = foldS (wtF a v s p) i d x ∧ h = hh)) := by
  intro d
  induction d with
  | zero =>
    intro i x hi
    refine R_iload dX2_weightsFreeFor_5 rfl ?_
    refine R_aload_n dX2_weightsFreeFor_7 rfl ?_
    refine R_get dX2_weightsFreeFor_8 gf_X2_52 h.1 rfl ?_
    refine R_icmp_ge (tgt := 40) dX2_weightsFreeFor_11 (by decide) (fun c11 => ?_) (fun c11 => absurd (by rw [hv]; exact nI_le (by omega) (by omega)) c11)
    refine R_iload_n dX2_weightsFreeFor_40 rfl ?_
    exact R_iret dX2_weightsFreeFor_41 rfl (⟨_, rfl, rfl, rfl⟩)
  | succ d ih =>
    intro i x hi
    refine R_iload dX2_weightsFreeFor_5 rfl ?_
    refine R_aload_n dX2_weightsFreeFor_7 rfl ?_
    refine R_get dX2_weightsFreeFor_8 gf_X2_52 h.1 rfl ?_
    refine R_icmp_ge (tgt := 40) dX2_weightsFreeFor_11 (by decide) (fun c11 => absurd c11 (by rw [hv]; exact nI_ge (by omega) (by omega))) (fun c11 => ?_)
    refine R_aload_n dX2_weightsFreeFor_14 rfl ?_
    refine R_iload dX2_weightsFreeFor_15 rfl ?_
    refine R_iload_n dX2_weightsFreeFor_17 rfl ?_
    refine R_callVp dX2_weightsFreeFor_18 cv_X2_78 ⟨by decide, by decide⟩ (e_bar G hh h i p (by omega)) h.1 rfl rfl rfl (Nat.le_of_ble_eq_true rfl) ?_
    refine R_if_ne (tgt := 34) dX2_weightsFreeFor_21 (by decide) (fun c21 => ?_) (fun c21 => ?_)
    · refine R_iinc (y := nI (i + 1)) dX2_weightsFreeFor_34 rfl (by decide) (nI_s i) ?_
      refine R_goto (tgt := 5) dX2_weightsFreeFor_37 (by decide) ?_
      have e9 : foldS (wtF a v s p) i (d + 1) x = foldS (wtF a v s p) (i + 1) d x := by simp_all [foldS, wtF, bl]
      rw [e9]
      exact RR.pick [1, 2, 3, 4, 0] rfl (ih (i + 1) _ (by omega))
    · refine R_iload_n dX2_weightsFreeFor_24 rfl ?_
      refine R_aload_n dX2_weightsFreeFor_25 rfl ?_
      refine R_iload dX2_weightsFreeFor_26 rfl ?_
      refine R_iload_n dX2_weightsFreeFor_28 rfl ?_
      refine R_callVp dX2_weightsFreeFor_29 cv_X2_94 ⟨by decide, by decide⟩ (e_weightOf G hh h i (by omega) s) h.1 rfl rfl rfl (Nat.le_of_ble_eq_true rfl) ?_
      refine R_iadd dX2_weightsFreeFor_32 ?_
      refine R_istore_n dX2_weightsFreeFor_33 (by decide) ?_
      refine R_iinc (y := nI (i + 1)) dX2_weightsFreeFor_34 rfl (by decide) (nI_s i) ?_
      refine R_goto (tgt := 5) dX2_weightsFreeFor_37 (by decide) ?_
      have e9 : foldS (wtF a v s p) i (d + 1) x = foldS (wtF a v s p) (i + 1) d (x + wt a v i s) := by simp_all [foldS, wtF, bl]
      rw [e9]
      exact RR.pick [2, 3, 4, 1, 0] rfl (ih (i + 1) _ (by omega))
set_option maxRecDepth 4000 in
theorem e_weightsFree (G : GG) (hh : HH) {k : Nat} {a : AA} {v : VV} (h : StAt G hh k a v) {n : Nat} (hn : n ≤ 6) (hv : v 8 = nI n) (s p : Int32) : EVp G mX2_weightsFreeFor [.ref (ad G k), .int s, .int p] hh (foldS (wtF a v s p) 0 n 0) := by
  refine EV.of [(0, .ref (ad G k)), (1, .int s), (2, .int p)] (by decide +kernel) (Nat.le_of_ble_eq_true rfl) rfl ?_
  refine R_iconst (v := 0) dX2_weightsFreeFor_0 (by decide) ?_
  refine R_istore_n dX2_weightsFreeFor_1 (by decide) ?_
  refine R_iconst (v := 0) dX2_weightsFreeFor_2 (by decide) ?_
  refine R_istore dX2_weightsFreeFor_3 (by decide) ?_
  exact RR.pick [2, 3, 4, 1, 0] rfl (l_weightsFree G hh h hn hv s p n 0 0 (by omega))
set_option maxRecDepth 4000 in
theorem e_turned (G : GG) (hh : HH) (x : Int32) : EVp G mX4_turned [.int x] hh (tw x) := by
  refine EV.of [(0, .int x)] (by decide +kernel) (Nat.le_of_ble_eq_true rfl) rfl ?_
  refine R_iload_n dX4_turned_0 rfl ?_
  refine R_istore_n dX4_turned_1 (by decide) ?_
  refine R_iload_n dX4_turned_2 rfl ?_
  refine R_iload_n dX4_turned_3 rfl ?_
  refine R_bipush (v := 13) dX4_turned_4 (by decide) ?_
  refine R_ishl dX4_turned_6 ?_
  refine R_ixor dX4_turned_7 ?_
  refine R_istore_n dX4_turned_8 (by decide) ?_
  refine R_iload_n dX4_turned_9 rfl ?_
  refine R_iload_n dX4_turned_10 rfl ?_
  refine R_bipush (v := 17) dX4_turned_11 (by decide) ?_
  refine R_iushr dX4_turned_13 ?_
  refine R_ixor dX4_turned_14 ?_
  refine R_istore_n dX4_turned_15 (by decide) ?_
  refine R_iload_n dX4_turned_16 rfl ?_
  refine R_iload_n dX4_turned_17 rfl ?_
  refine R_iconst (v := 5) dX4_turned_18 (by decide) ?_
  refine R_ishl dX4_turned_19 ?_
  refine R_ixor dX4_turned_20 ?_
  refine R_istore_n dX4_turned_21 (by decide) ?_
  refine R_iload_n dX4_turned_22 rfl ?_
  exact R_iret dX4_turned_23 rfl (⟨_, rfl, rfl, rfl⟩)
def reach (g : Nat → Int32) (x : Int32) : Nat → Nat → Nat
  | _, 0 => 0
  | i, d + 1 => if x < g i then i else reach g x (i + 1) d
set_option maxRecDepth 4000 in
theorem l_judgeReaching (G : GG) (hh : HH) {k : Nat} {a : AA} {v : VV} (h : StAt G hh k a v) {n : Nat} (hn : n ≤ 6) (hv : v 8 = nI n) (x : Int32) : ∀ (d i : Nat), i + d = n → RR G mX2_judgeReaching 2 [(0, .ref (ad G k)), (1, .int x), (2, .int (nI i))] [] hh (fun r h => ∃ w, r = some (.int w) ∧ (w = nI (reach (a 7) x i d) ∧ h = hh)) := by
  intro d
  induction d with
  | zero =>
    intro i hi
    refine R_iload_n dX2_judgeReaching_2 rfl ?_
    refine R_aload_n dX2_judgeReaching_3 rfl ?_
    refine R_get dX2_judgeReaching_4 gf_X2_52 h.1 rfl ?_
    refine R_icmp_ge (tgt := 28) dX2_judgeReaching_7 (by decide) (fun c7 => ?_) (fun c7 => absurd (by rw [hv]; exact nI_le (by omega) (by omega)) c7)
    refine R_iconst (v := 0) dX2_judgeReaching_28 (by decide) ?_
    exact R_iret dX2_judgeReaching_29 rfl (⟨_, rfl, rfl, rfl⟩)
  | succ d ih =>
    intro i hi
    refine R_iload_n dX2_judgeReaching_2 rfl ?_
    refine R_aload_n dX2_judgeReaching_3 rfl ?_
    refine R_get dX2_judgeReaching_4 gf_X2_52 h.1 rfl ?_
    refine R_icmp_ge (tgt := 28) dX2_judgeReaching_7 (by decide) (fun c7 => absurd c7 (by rw [hv]; exact nI_ge (by omega) (by omega))) (fun c7 => ?_)
    refine R_aload_n dX2_judgeReaching_10 rfl ?_
    refine R_get dX2_judgeReaching_11 gf_X2_33 h.1 rfl ?_
    refine R_iload_n dX2_judgeReaching_14 rfl ?_
    refine R_ialdN dX2_judgeReaching_15 h.a7 (by omega) (by decide) ?_
    refine R_iload_n dX2_judgeReaching_16 rfl ?_
    refine R_icmp_le (tgt := 22) dX2_judgeReaching_17 (by decide) (fun c17 => ?_) (fun c17 => ?_)
    · refine R_iinc (y := nI (i + 1)) dX2_judgeReaching_22 rfl (by decide) (nI_s i) ?_
      refine R_goto (tgt := 2) dX2_judgeReaching_25 (by decide) ?_
      have e9 : reach (a 7) x i (d + 1) = reach (a 7) x (i + 1) d := by simp only [reach]; rw [if_neg (by simpa using c17)]
      rw [e9]
      exact RR.pick [1, 2, 0] rfl (ih (i + 1) (by omega))
    · refine R_iload_n dX2_judgeReaching_20 rfl ?_
      exact R_iret dX2_judgeReaching_21 rfl (⟨_, rfl, by simp only [reach]; rw [if_pos (by simpa using c17)], rfl⟩)
set_option maxRecDepth 4000 in
theorem e_judgeReaching (G : GG) (hh : HH) {k : Nat} {a : AA} {v : VV} (h : StAt G hh k a v) {n : Nat} (hn : n ≤ 6) (hv : v 8 = nI n) (x : Int32) : EVp G mX2_judgeReaching [.ref (ad G k), .int x] hh (nI (reach (a 7) x 0 n)) := by
  refine EV.of [(0, .ref (ad G k)), (1, .int x)] (by decide +kernel) (Nat.le_of_ble_eq_true rfl) rfl ?_
  refine R_iconst (v := 0) dX2_judgeReaching_0 (by decide) ?_
  refine R_istore_n dX2_judgeReaching_1 (by decide) ?_
  exact RR.pick [1, 2, 0] rfl (l_judgeReaching G hh h hn hv x n 0 (by omega))
end
section
theorem arrV_cg {cA : ClassId} {n : Nat} {f g : Nat → Value} (h : ∀ j, j < n → f j = g j) : arrV cA n f = arrV cA n g := by
  unfold arrV
  have e : (Array.ofFn (n := n) fun i => f i.val) = Array.ofFn (n := n) fun i => g i.val := by
    congr 1
    funext i
    exact h i.val i.isLt
  first
    | rw [e]
    | (congr 1; exact e)
    | (simp only [e])
theorem RR.post {G : GG} {μ : MI} {pc : Nat} {lv : List (Nat × Value)} {st : List Value} {hh : HH} {Q Q' : QQ} (h : RR G μ pc lv st hh Q) (hq : ∀ r h, Q r h → Q' r h) : RR G μ pc lv st hh Q' := by
  intro p e s m args below meth c C H locs ls hP hS hl T hT X
  obtain ⟨t, h1, o, h2, h3, ⟨⟨r, hh', hr, hq1, hp⟩, hF⟩, hL⟩ := h p e s m args below meth c C H locs ls hP hS hl T hT X
  exact ⟨t, h1, o, h2, h3, ⟨⟨r, hh', hr, hq r hh' hq1, hp⟩, hF⟩, hL⟩
/-- another text for the same cells -/
theorem RR.swap {G : GG} {μ : MI} {pc : Nat} {lv : List (Nat × Value)} {st : List Value} {hh hh1 : HH} {Q : QQ} (h : ∀ H, va_P (gD G) clsX (wd G hh) H → va_P (gD G) clsX (wd G hh1) H) (k : RR G μ pc lv st hh1 Q) : RR G μ pc lv st hh Q := fun p e s m args below meth c C H locs ls hP hS hl => k p e s m args below meth c C H locs ls (h H hP) hS hl
theorem swapI {G : GG} {hh : HH} {q n : Nat} {f g : Nat → Int32} (hfg : ∀ j, j < n → f j = g j) : ∀ H, va_P (gD G) clsX (wd G (va_up hh q (eI G n f))) H → va_P (gD G) clsX (wd G (va_up hh q (eI G n g))) H := by
  intro H hP i p hp
  have hi : i < gn G := by
    have := (List.getElem?_eq_some_iff.mp hp).1
    simpa [wd] using this
  rw [wd_get hi] at hp
  cases hp
  have h1 := hP i _ (wd_get hi)
  by_cases hq : i = q
  · subst hq
    simp only [va_up, if_true] at h1 ⊢
    show H[ad G i]? = some (vp_cell _ _)
    have h2 : H[ad G i]? = some (vp_cell (gI G) (n, .inl f)) := h1
    rw [h2, vp_cell_i, vp_cell_i, arrV_cg (fun j hj => by rw [hfg j hj])]
  · simp only [va_up, if_neg hq] at h1 ⊢
    exact h1
theorem foldS_last (f : Nat → Int32) : ∀ (d i : Nat) (s : Int32), foldS f i (d + 1) s = foldS f i d s + f (i + d)
  | 0, i, s => rfl
  | d + 1, i, s => by
    show foldS f (i + 1) (d + 1) (s + f i) = foldS f (i + 1) d (s + f i) + f (i + (d + 1))
    rw [foldS_last f d (i + 1) (s + f i), show i + 1 + d = i + (d + 1) by omega]
theorem StAt.cgv {G : GG} {hh : HH} {k : Nat} {a a' : AA} {v v' : VV} (h : StAt G hh k a v) (ha : ∀ j, j < 8 → a j = a' j) (hv : ∀ i, 8 ≤ i → i < 15 → v i = v' i) : StAt G hh k a' v' := by
  have e : fStAt G k v = fStAt G k v' := by
    simp only [fStAt, hv 8 (by omega) (by omega), hv 9 (by omega) (by omega), hv 10 (by omega) (by omega), hv 11 (by omega) (by omega), hv 12 (by omega) (by omega), hv 13 (by omega) (by omega), hv 14 (by omega) (by omega)]
  unfold StAt at h ⊢
  rw [← e, ← ha 0 (by omega), ← ha 1 (by omega), ← ha 2 (by omega), ← ha 3 (by omega), ← ha 4 (by omega), ← ha 5 (by omega), ← ha 6 (by omega), ← ha 7 (by omega)]
  exact h
def itT : Nat → Int32 → Int32
  | 0, c => c
  | n + 1, c => itT n (tw c)
theorem itT_add : ∀ (m n : Nat) (c : Int32), itT n (itT m c) = itT (m + n) c
  | 0, n, c => by rw [Nat.zero_add]; rfl
  | m + 1, n, c => by
    rw [show m + 1 + n = (m + n) + 1 by omega]
    exact itT_add m n (tw c)
def halfI (c : Int32) : Int32 := (c.toUInt32 >>> ((1 : Int32).toUInt32 &&& Int32.toUInt32 31)).toInt32
def wrI (m : Int32) : Int64 := m.toInt64 * (2147483648 / m.toInt64)
def accI (m c : Int32) : Prop := ¬ (0 ≤ lg_cmp (halfI c).toInt64 (wrI m))
def rmI (x y : Int32) : Int32 := x - x / y * y
def vct (v : VV) (c t : Int32) : VV := va_up (va_up v 12 c) 13 t
theorem vct_st (v : VV) (c t c' t' : Int32) : va_up (va_up (vct v c t) 12 c') 13 t' = vct v c' t' := by
  funext i
  simp only [vct, va_up]
  by_cases h1 : i = 13
  · simp [h1]
  · by_cases h2 : i = 12
    · simp [h2]
    · simp [h1, h2]
theorem vct_self (v : VV) : vct v (v 12) (v 13) = v := by
  funext i
  simp only [vct, va_up]
  by_cases h1 : i = 13
  · simp [h1]
  · by_cases h2 : i = 12
    · simp [h2]
    · simp [h1, h2]
theorem fl_ne0 {m : Int32} (h : 1 ≤ m) : ¬ m = 0 := fun e => by subst e; exact absurd h (by decide)
theorem fl_ne0L {m : Int32} (h : 1 ≤ m) : ¬ m.toInt64 = 0 := fun e => by
  have h1 : m.toInt64.toInt = (0 : Int64).toInt := by rw [e]
  rw [Int32.toInt_toInt64] at h1
  have h2 := Int32.le_iff_toInt_le.mp h
  simp at h1 h2
  omega

abbrev wtj (a : AA) (v : VV) (s : Int32) : Nat → Int32 := fun j => wt a v j s
set_option maxRecDepth 4000 in
theorem l_weighAll (G : GG) (hh0 : HH) {k : Nat} {a : AA} {v : VV} {n : Nat} (hn : n ≤ 6) (hv : v 8 = nI n) (s : Int32) : ∀ (d i : Nat) (g : Nat → Int32) (hh : HH), i + d = n → (∀ j, j < i → g j = foldS (wtj a v s) 0 (j + 1) 0) → StAt G hh k (va_up a 7 g) v → Fr k (k + 9) hh0 hh → RR G mX2_weighAll 4 [(0, .ref (ad G k)), (1, .int s), (2, .int (foldS (wtj a v s) 0 i 0)), (3, .int (nI i))] [] hh (fun r h1 => ∃ w, r = some (.int w) ∧ (w = foldS (wtj a v s) 0 n 0 ∧ ∃ g, (∀ j, j < n → g j = foldS (wtj a v s) 0 (j + 1) 0) ∧ StAt G h1 k (va_up a 7 g) v ∧ Fr k (k + 9) hh0 h1)) := by
  intro d
  induction d with
  | zero =>
    intro i g hh hi hg h hF
    refine R_iload_n dX2_weighAll_4 rfl ?_
    refine R_aload_n dX2_weighAll_5 rfl ?_
    refine R_get dX2_weighAll_6 gf_X2_52 h.1 rfl ?_
    refine R_icmp_ge (tgt := 34) dX2_weighAll_9 (by decide) (fun c9 => ?_) (fun c9 => absurd (by rw [hv]; exact nI_le (by omega) (by omega)) c9)
    refine R_iload_n dX2_weighAll_34 rfl ?_
    exact R_iret dX2_weighAll_35 rfl (⟨_, rfl, by rw [show n = i by omega], g, by rw [show n = i by omega]; exact hg, h, hF⟩)
  | succ d ih =>
    intro i g hh hi hg h hF
    refine R_iload_n dX2_weighAll_4 rfl ?_
    refine R_aload_n dX2_weighAll_5 rfl ?_
    refine R_get dX2_weighAll_6 gf_X2_52 h.1 rfl ?_
    refine R_icmp_ge (tgt := 34) dX2_weighAll_9 (by decide) (fun c9 => absurd c9 (by rw [hv]; exact nI_ge (by omega) (by omega))) (fun c9 => ?_)
    refine R_iload_n dX2_weighAll_12 rfl ?_
    refine R_aload_n dX2_weighAll_13 rfl ?_
    refine R_iload_n dX2_weighAll_14 rfl ?_
    refine R_iload_n dX2_weighAll_15 rfl ?_
    refine R_callVp dX2_weighAll_16 cv_X2_94 ⟨by decide, by decide⟩ (e_weightOf G hh h i (by omega) s) h.1 rfl rfl rfl (Nat.le_of_ble_eq_true rfl) ?_
    refine R_iadd dX2_weighAll_19 ?_
    refine RR.top (y := foldS (wtj a v s) 0 (i + 1) 0) (by rw [foldS_last, Nat.zero_add]; rfl) ?_
    refine R_istore_n dX2_weighAll_20 (by decide) ?_
    refine R_aload_n dX2_weighAll_21 rfl ?_
    refine R_get dX2_weighAll_22 gf_X2_33 h.1 rfl ?_
    refine R_iload_n dX2_weighAll_25 rfl ?_
    refine R_iload_n dX2_weighAll_26 rfl ?_
    refine St_ast7N dX2_weighAll_27 h (by omega) (fun hh h hF1 => ?_)
    have hF := hF.tr hF1 (by omega) (by omega)
    refine R_iinc (y := nI (i + 1)) dX2_weighAll_28 rfl (by decide) (nI_s i) ?_
    refine R_goto (tgt := 4) dX2_weighAll_31 (by decide) ?_
    have h := h.cg (bx_uu a 7 g _) rfl
    exact RR.pick [2, 3, 1, 0] rfl (ih (i + 1) (upd g i (foldS (wtj a v s) 0 (i + 1) 0)) hh (by omega) (fun j hj => by
      by_cases e : j = i
      · subst e; simp [upd]
      · simp only [upd, if_neg e]; exact hg j (by omega)) h hF)
set_option maxRecDepth 4000 in
theorem e_weighAll (G : GG) (hh : HH) {k : Nat} {a : AA} {v : VV} (h : StAt G hh k a v) {n : Nat} (hn : n ≤ 6) (hv : v 8 = nI n) (s : Int32) : EVi G mX2_weighAll [.ref (ad G k), .int s] hh (fun w h1 => w = foldS (wtj a v s) 0 n 0 ∧ ∃ g, (∀ j, j < n → g j = foldS (wtj a v s) 0 (j + 1) 0) ∧ StAt G h1 k (va_up a 7 g) v ∧ Fr k (k + 9) hh h1) := by
  refine EV.of [(0, .ref (ad G k)), (1, .int s)] (by decide +kernel) (Nat.le_of_ble_eq_true rfl) rfl ?_
  refine R_iconst (v := 0) dX2_weighAll_0 (by decide) ?_
  refine R_istore_n dX2_weighAll_1 (by decide) ?_
  refine R_iconst (v := 0) dX2_weighAll_2 (by decide) ?_
  refine R_istore_n dX2_weighAll_3 (by decide) ?_
  exact RR.pick [2, 3, 1, 0] rfl (l_weighAll G hh hn hv s n 0 (a 7) hh (by omega) (fun j hj => by omega) (h.cg (by funext j; simp only [va_up]; split <;> simp_all) rfl) Fr.rf)
set_option maxRecDepth 4000 in
theorem l_drawBelow (G : GG) (hh0 : HH) {k : Nat} {a : AA} {v : VV} {m : Int32} (hm : 1 ≤ m) : ∀ (d i : Nat) (c t : Int32) (hh : HH), 1 ≤ d → i + d ≤ 1000000 → accI m (itT d c) → (∀ j, 1 ≤ j → j < d → ¬ accI m (itT j c)) → StAt G hh k a (vct v c t) → Fr k (k + 9) hh0 hh → RR G mX2_drawBelow 20 [(0, .ref (ad G k)), (1, .int m), (2, .long (wrI m)), (4, .int (nI i))] [] hh (fun r h1 => ∃ w, r = some (.int w) ∧ (w = rmI (halfI (itT d c)) m ∧ StAt G h1 k a (vct v (itT d c) (t + nI d)) ∧ Fr k (k + 9) hh0 h1)) := by
  intro d
  induction d with
  | zero =>
    intro i c t hh hd1 hd2 hacc hmin h hF
    exact absurd hd1 (by omega)
  | succ d ih =>
    intro i c t hh hd1 hd2 hacc hmin h hF
    refine R_iload dX2_drawBelow_20 rfl ?_
    refine R_ldc dX2_drawBelow_22 kc_X2_101 ?_
    refine R_icmp_ge (tgt := 75) dX2_drawBelow_24 (by decide) (fun c24 => absurd c24 (nI_ge (a := i) (b := 1000000) (by omega) (by decide))) (fun c24 => ?_)
    refine R_aload_n dX2_drawBelow_27 rfl ?_
    refine R_aload_n dX2_drawBelow_28 rfl ?_
    refine R_get dX2_drawBelow_29 gf_X2_43 h.1 rfl ?_
    refine R_callSNp dX2_drawBelow_32 cn_X2_110 ⟨by decide, by decide⟩ (e_turned G hh c) rfl rfl (Nat.le_of_ble_eq_true rfl) ?_
    refine St_put12 dX2_drawBelow_35 pf_X2_43 h (fun hh h hF1 => ?_)
    have hF := hF.tr hF1 (by omega) (by omega)
    refine R_aload_n dX2_drawBelow_38 rfl ?_
    refine R_dup dX2_drawBelow_39 rfl ?_
    refine R_get dX2_drawBelow_40 gf_X2_58 h.1 rfl ?_
    refine R_iconst (v := 1) dX2_drawBelow_43 (by decide) ?_
    refine R_iadd dX2_drawBelow_44 ?_
    refine St_put13 dX2_drawBelow_45 pf_X2_58 h (fun hh h hF1 => ?_)
    have hF := hF.tr hF1 (by omega) (by omega)
    refine R_aload_n dX2_drawBelow_48 rfl ?_
    refine R_get dX2_drawBelow_49 gf_X2_43 h.1 rfl ?_
    refine R_iconst (v := 1) dX2_drawBelow_52 (by decide) ?_
    refine R_iushr dX2_drawBelow_53 ?_
    refine R_istore dX2_drawBelow_54 (by decide) ?_
    refine R_iload dX2_drawBelow_56 rfl ?_
    refine R_i2l dX2_drawBelow_58 ?_
    refine R_lload_n dX2_drawBelow_59 rfl ?_
    refine R_lcmp dX2_drawBelow_60 ?_
    refine R_if_ge (tgt := 69) dX2_drawBelow_61 (by decide) (fun c61 => ?_) (fun c61 => ?_)
    · refine R_iinc (y := nI (i + 1)) dX2_drawBelow_69 rfl (by decide) (nI_s i) ?_
      refine R_goto (tgt := 20) dX2_drawBelow_72 (by decide) ?_
      rcases Nat.eq_zero_or_pos d with e | e
      · subst e
        exact absurd c61 hacc
      · have e9 : t + nI (d + 1) = (t + 1) + nI d := by rw [nI_succ, Int32.add_comm (nI d) 1, Int32.add_assoc]
        rw [e9]
        exact RR.pick [2, 3, 4, 0] rfl (ih (i + 1) (tw c) (t + 1) hh e (by omega) hacc (fun j h1 h2 => hmin (j + 1) (by omega) (by omega)) (h.cg rfl (vct_st v c t _ _)) hF)
    · refine R_iload dX2_drawBelow_64 rfl ?_
      refine R_iload_n dX2_drawBelow_66 rfl ?_
      refine R_irem dX2_drawBelow_67 (fl_ne0 hm) ?_
      exact R_iret dX2_drawBelow_68 rfl (by
      rcases Nat.eq_zero_or_pos d with e | e
      · subst e
        exact ⟨_, rfl, rfl, h.cg rfl (vct_st v c t _ _), hF⟩
      · exact absurd c61 (hmin 1 (by omega) (by omega)))
set_option maxRecDepth 4000 in
theorem e_drawBelow (G : GG) (hh : HH) {k : Nat} {a : AA} {v : VV} {c t : Int32} (h : StAt G hh k a (vct v c t)) {m : Int32} (hm : 1 ≤ m) (K : Nat) (hK : 1 ≤ K) (hK2 : K ≤ 1000000) (hacc : accI m (itT K c)) (hmin : ∀ j, 1 ≤ j → j < K → ¬ accI m (itT j c)) : EVi G mX2_drawBelow [.ref (ad G k), .int m] hh (fun w h1 => w = rmI (halfI (itT K c)) m ∧ StAt G h1 k a (vct v (itT K c) (t + nI K)) ∧ Fr k (k + 9) hh h1) := by
  refine EV.of [(0, .ref (ad G k)), (1, .int m)] (by decide +kernel) (Nat.le_of_ble_eq_true rfl) rfl ?_
  refine R_iload_n dX2_drawBelow_0 rfl ?_
  refine R_iconst (v := 1) dX2_drawBelow_1 (by decide) ?_
  refine R_icmp_ge (tgt := 7) dX2_drawBelow_2 (by decide) (fun c2 => ?_) (fun c2 => absurd hm c2)
  refine R_iload_n dX2_drawBelow_7 rfl ?_
  refine R_i2l dX2_drawBelow_8 ?_
  refine R_ldc2 dX2_drawBelow_9 kc_X2_108 ?_
  refine R_iload_n dX2_drawBelow_12 rfl ?_
  refine R_i2l dX2_drawBelow_13 ?_
  refine R_ldiv dX2_drawBelow_14 (fl_ne0L hm) ?_
  refine R_lmul dX2_drawBelow_15 ?_
  refine R_lstore_n dX2_drawBelow_16 (by decide) ?_
  refine R_iconst (v := 0) dX2_drawBelow_17 (by decide) ?_
  refine R_istore dX2_drawBelow_18 (by decide) ?_
  exact RR.pick [2, 3, 1, 0] rfl (l_drawBelow G hh hm K 0 c t hh hK (by omega) hacc hmin h Fr.rf)
theorem reach_cg {g g' : Nat → Int32} {x : Int32} : ∀ (d i : Nat), (∀ j, i ≤ j → j < i + d → g j = g' j) → reach g x i d = reach g' x i d
  | 0, _, _ => rfl
  | d + 1, i, h => by
    show (if x < g i then i else reach g x (i + 1) d) = (if x < g' i then i else reach g' x (i + 1) d)
    rw [h i (by omega) (by omega), reach_cg d (i + 1) (fun j h1 h2 => h j (by omega) (by omega))]
theorem reach_lt {g : Nat → Int32} {x : Int32} : ∀ (d i b : Nat), i + d ≤ b → 0 < b → reach g x i d < b
  | 0, _, b, _, hb => hb
  | d + 1, i, b, h, hb => by
    show (if x < g i then i else reach g x (i + 1) d) < b
    by_cases q : x < g i
    · rw [if_pos q]; omega
    · rw [if_neg q]; exact reach_lt d (i + 1) b (by omega) hb
/-- all weights together, the judge of a number of the chain, and whether that number ends the drawing -/
def totW (a : AA) (v : VV) (s : Int32) (n : Nat) : Int32 := foldS (wtj a v s) 0 n 0
def judOf (a : AA) (v : VV) (s : Int32) (n : Nat) (c : Int32) : Nat := reach (fun j => foldS (wtj a v s) 0 (j + 1) 0) (rmI (halfI c) (totW a v s n)) 0 n
def goodI (a : AA) (v : VV) (s p : Int32) (n : Nat) (c : Int32) : Prop := accI (totW a v s n) c ∧ fre a v (judOf a v s n c) p = true
/-- K is the first place of the chain that ends the drawing -/
def firstK (a : AA) (v : VV) (s p : Int32) (n : Nat) (c : Int32) (K : Nat) : Prop := 1 ≤ K ∧ goodI a v s p n (itT K c) ∧ ∀ j, 1 ≤ j → j < K → ¬ goodI a v s p n (itT j c)
theorem firstK.part {a : AA} {v : VV} {s p : Int32} {n K : Nat} {c : Int32} (h : firstK a v s p n c K) : ∃ k1, 1 ≤ k1 ∧ k1 ≤ K ∧ accI (totW a v s n) (itT k1 c) ∧ (∀ j, 1 ≤ j → j < k1 → ¬ accI (totW a v s n) (itT j c)) ∧ (fre a v (judOf a v s n (itT k1 c)) p = true → k1 = K) ∧ (¬ fre a v (judOf a v s n (itT k1 c)) p = true → k1 < K ∧ firstK a v s p n (itT k1 c) (K - k1)) := by
  obtain ⟨k1, ⟨h1, h2⟩, h3⟩ := pk_least (fun k => 1 ≤ k ∧ accI (totW a v s n) (itT k c)) ⟨K, h.1, h.2.1.1⟩
  have hle : k1 ≤ K := by
    rcases Nat.lt_or_ge K k1 with q | q
    · exact absurd ⟨h.1, h.2.1.1⟩ (h3 K q)
    · exact q
  refine ⟨k1, h1, hle, h2, fun j a b c => h3 j b ⟨a, c⟩, fun hf => ?_, fun hf => ?_⟩
  · rcases Nat.lt_or_ge k1 K with q | q
    · exact absurd ⟨h2, hf⟩ (h.2.2 k1 h1 q)
    · omega
  · have hlt : k1 < K := by
      rcases Nat.lt_or_ge k1 K with q | q
      · exact q
      · have e : k1 = K := by omega
        rw [e] at hf
        exact absurd h.2.1.2 hf
    refine ⟨hlt, by omega, ?_, fun j a b => ?_⟩
    · rw [itT_add, show k1 + (K - k1) = K by omega]; exact h.2.1
    · rw [itT_add]; exact h.2.2 (k1 + j) (by omega) (by omega)
set_option maxRecDepth 4000 in
theorem l_drawJudge (G : GG) (hh0 : HH) {k : Nat} {a : AA} {v : VV} {n : Nat} (hn : n ≤ 6) (hv : v 8 = nI n) (s p : Int32) (hm : 1 ≤ totW a v s n) {g : Nat → Int32} (hg : ∀ j, j < n → g j = foldS (wtj a v s) 0 (j + 1) 0) : ∀ (K i : Nat) (c t : Int32) (hh : HH), i + K ≤ 1000000 → firstK a v s p n c K → StAt G hh k (va_up a 7 g) (vct v c t) → Fr k (k + 9) hh0 hh → RR G mX2_drawJudge 9 [(0, .ref (ad G k)), (1, .int s), (2, .int p), (3, .int (totW a v s n)), (4, .int (nI i))] [] hh (fun r h1 => ∃ w, r = some (.int w) ∧ (w = nI (judOf a v s n (itT K c)) ∧ StAt G h1 k (va_up a 7 g) (vct v (itT K c) (t + nI K)) ∧ Fr k (k + 9) hh0 h1)) := by
  intro K
  induction K using Nat.strongRecOn with
  | ind K ih =>
  intro i c t hh hi hK h hF
  obtain ⟨k1, hk1, hk2, hacc, hmin, hyes, hno⟩ := hK.part
  have hK1 := hK.1
  have ej : ∀ (hh : HH), StAt G hh k (va_up a 7 g) (vct v (itT k1 c) (t + nI k1)) → EVp G mX2_judgeReaching [.ref (ad G k), .int (rmI (halfI (itT k1 c)) (totW a v s n))] hh (nI (judOf a v s n (itT k1 c))) := by
    intro hh h
    have h1 := e_judgeReaching G hh h hn hv (rmI (halfI (itT k1 c)) (totW a v s n))
    rw [show reach (va_up a 7 g 7) (rmI (halfI (itT k1 c)) (totW a v s n)) 0 n = judOf a v s n (itT k1 c) from reach_cg n 0 (fun j _ hj => hg j (by omega))] at h1
    exact h1
  refine R_iload dX2_drawJudge_9 rfl ?_
  refine R_ldc dX2_drawJudge_11 kc_X2_101 ?_
  refine R_icmp_ge (tgt := 46) dX2_drawJudge_13 (by decide) (fun c13 => absurd c13 (nI_ge (a := i) (b := 1000000) (by omega) (by decide))) (fun c13 => ?_)
  refine R_aload_n dX2_drawJudge_16 rfl ?_
  refine R_aload_n dX2_drawJudge_17 rfl ?_
  refine R_iload_n dX2_drawJudge_18 rfl ?_
  refine R_callVi dX2_drawJudge_19 cv_X2_102 ⟨by decide, by decide⟩ (e_drawBelow G hh h hm k1 hk1 (by omega) hacc hmin) h.1 rfl rfl rfl (Nat.le_of_ble_eq_true rfl) (fun w1 hh hw => ?_)
  obtain ⟨rfl, h, hF1⟩ := hw
  have hF := hF.tr hF1 (by omega) (by omega)
  refine R_callVp dX2_drawJudge_22 cv_X2_105 ⟨by decide, by decide⟩ (ej hh h) h.1 rfl rfl rfl (Nat.le_of_ble_eq_true rfl) ?_
  refine R_istore dX2_drawJudge_25 (by decide) ?_
  refine R_aload_n dX2_drawJudge_27 rfl ?_
  refine R_iload dX2_drawJudge_28 rfl ?_
  refine R_iload_n dX2_drawJudge_30 rfl ?_
  refine R_callVp dX2_drawJudge_31 cv_X2_82 ⟨by decide, by decide⟩ (e_fre G hh h (judOf a v s n (itT k1 c)) p (reach_lt n 0 6 (by omega) (by omega))) h.1 rfl rfl rfl (Nat.le_of_ble_eq_true rfl) ?_
  refine R_if_eq (tgt := 40) dX2_drawJudge_34 (by decide) (fun c34 => ?_) (fun c34 => ?_)
  · refine R_iinc (y := nI (i + 1)) dX2_drawJudge_40 rfl (by decide) (nI_s i) ?_
    refine R_goto (tgt := 9) dX2_drawJudge_43 (by decide) ?_
    have hf : ¬ fre a v (judOf a v s n (itT k1 c)) p = true := by
      have q : bl (fre a v (judOf a v s n (itT k1 c)) p) = 0 := c34
      revert q; cases fre a v (judOf a v s n (itT k1 c)) p <;> simp [bl]
    obtain ⟨hlt, hK'⟩ := hno hf
    have e9 : t + nI K = (t + nI k1) + nI (K - k1) := by rw [Int32.add_assoc, nI_add, show k1 + (K - k1) = K by omega]
    have e8 : itT K c = itT (K - k1) (itT k1 c) := by rw [itT_add, show k1 + (K - k1) = K by omega]
    rw [e9, e8]
    exact RR.pick [2, 3, 4, 5, 0] rfl (ih (K - k1) (by omega) (i + 1) _ _ hh (by omega) hK' h hF)
  · refine R_iload dX2_drawJudge_37 rfl ?_
    exact R_iret dX2_drawJudge_39 rfl (by
      have hf : fre a v (judOf a v s n (itT k1 c)) p = true := by
        have q : ¬ bl (fre a v (judOf a v s n (itT k1 c)) p) = 0 := c34
        revert q; cases fre a v (judOf a v s n (itT k1 c)) p <;> simp [bl]
      have e := hyes hf
      subst e
      exact ⟨_, rfl, rfl, h, hF⟩)
set_option maxRecDepth 4000 in
theorem e_drawJudge (G : GG) (hh : HH) {k : Nat} {a : AA} {v : VV} (h : StAt G hh k a v) {n : Nat} (hn : n ≤ 6) (hv : v 8 = nI n) (s p : Int32) (hm : 1 ≤ totW a v s n) {K : Nat} (hK : firstK a v s p n (v 12) K) (hK2 : K ≤ 1000000) : EVi G mX2_drawJudge [.ref (ad G k), .int s, .int p] hh (fun w h1 => w = nI (judOf a v s n (itT K (v 12))) ∧ ∃ g, StAt G h1 k (va_up a 7 g) (vct v (itT K (v 12)) (v 13 + nI K)) ∧ Fr k (k + 9) hh h1) := by
  refine EV.of [(0, .ref (ad G k)), (1, .int s), (2, .int p)] (by decide +kernel) (Nat.le_of_ble_eq_true rfl) rfl ?_
  refine R_aload_n dX2_drawJudge_0 rfl ?_
  refine R_iload_n dX2_drawJudge_1 rfl ?_
  refine R_callVi dX2_drawJudge_2 cv_X2_97 ⟨by decide, by decide⟩ (e_weighAll G hh h hn hv s) h.1 rfl rfl rfl (Nat.le_of_ble_eq_true rfl) (fun w1 hh1 hw => ?_)
  obtain ⟨rfl, g, hg, h, hF⟩ := hw
  refine R_istore_n dX2_drawJudge_5 (by decide) ?_
  refine R_iconst (v := 0) dX2_drawJudge_6 (by decide) ?_
  refine R_istore dX2_drawJudge_7 (by decide) ?_
  refine RR.pick [2, 3, 4, 1, 0] rfl ?_
  refine RR.post (l_drawJudge G hh hn hv s p hm hg K 0 (v 12) (v 13) hh1 (by omega) hK (h.cg rfl (vct_self v).symm) hF) (fun r h1 hq => ?_)
  obtain ⟨w, e1, e2, e3, e4⟩ := hq
  exact ⟨w, e1, e2, g, e3, e4⟩
end
section
def stA (a : AA) (v : VV) (j : Nat) : Int32 := if hasB (v 9) (nI j) = true then 0 else a 0 j
def togS (a : AA) (v : VV) (n : Nat) : Int32 := foldS (stA a v) 0 n 0
def clpI (x : Int32) : Int32 := if (-99 : Int32) < (if x < 99 then x else 99) then (if x < 99 then x else 99) else -99
def nwD (a : AA) (v : VV) (x : Int32) (n : Nat) (j : Nat) : Int32 := clpI (if nI j = x then a 3 j + stA a v j - togS a v n else a 3 j + stA a v j)
/-- the debts behind a case that judge x got -/
def setD (a : AA) (v : VV) (x : Int32) (n : Nat) : AA := va_up a 3 (mixA (nwD a v x n) (a 3) n)
set_option maxRecDepth 4000 in
theorem l_settle2 (G : GG) (hh0 : HH) {k : Nat} {a : AA} {v : VV} {n : Nat} (hn : n ≤ 6) (hv : v 8 = nI n) (x : Int32) : ∀ (d i : Nat) (hh : HH), i + d = n → StAt G hh k (va_up a 3 (mixA (nwD a v x n) (a 3) i)) v → Fr k (k + 9) hh0 hh → RR G mX2_settleDebts 41 [(0, .ref (ad G k)), (1, .int x), (2, .int (togS a v n)), (3, .int (nI i))] [] hh (fun r h1 => r = none ∧ (StAt G h1 k (setD a v x n) v ∧ Fr k (k + 9) hh0 h1)) := by
  intro d
  induction d with
  | zero =>
    intro i hh hi h hF
    refine R_iload_n dX2_settleDebts_41 rfl ?_
    refine R_aload_n dX2_settleDebts_42 rfl ?_
    refine R_get dX2_settleDebts_43 gf_X2_52 h.1 rfl ?_
    refine R_icmp_ge (tgt := 111) dX2_settleDebts_46 (by decide) (fun c46 => ?_) (fun c46 => absurd (by rw [hv]; exact nI_le (by omega) (by omega)) c46)
    exact R_vret dX2_settleDebts_111 rfl (by (have e : i = n := by omega); (subst e); exact ⟨rfl, h, hF⟩)
  | succ d ih =>
    intro i hh hi h hF
    refine R_iload_n dX2_settleDebts_41 rfl ?_
    refine R_aload_n dX2_settleDebts_42 rfl ?_
    refine R_get dX2_settleDebts_43 gf_X2_52 h.1 rfl ?_
    refine R_icmp_ge (tgt := 111) dX2_settleDebts_46 (by decide) (fun c46 => absurd c46 (by rw [hv]; exact nI_ge (by omega) (by omega))) (fun c46 => ?_)
    refine R_aload_n dX2_settleDebts_49 rfl ?_
    refine R_get dX2_settleDebts_50 gf_X2_21 h.1 rfl ?_
    refine R_iload_n dX2_settleDebts_53 rfl ?_
    refine R_ialdN dX2_settleDebts_54 h.a3 (by omega) (by decide) ?_
    refine R_aload_n dX2_settleDebts_55 rfl ?_
    refine R_iload_n dX2_settleDebts_56 rfl ?_
    refine R_callVp dX2_settleDebts_57 cv_X2_74 ⟨by decide, by decide⟩ (e_isAway G hh h (nI i)) h.1 rfl rfl rfl (Nat.le_of_ble_eq_true rfl) ?_
    refine R_if_eq (tgt := 67) dX2_settleDebts_60 (by decide) (fun c60 => ?_) (fun c60 => ?_)
    · refine R_aload_n dX2_settleDebts_67 rfl ?_
      refine R_get dX2_settleDebts_68 gf_X2_9 h.1 rfl ?_
      refine R_iload_n dX2_settleDebts_71 rfl ?_
      refine R_ialdN dX2_settleDebts_72 h.a0 (by omega) (by decide) ?_
      refine R_iadd dX2_settleDebts_73 ?_
      refine RR.top (y := a 3 i + stA a v i) (by simp_all [stA, bl, va_up, mixA]) ?_
      refine R_istore dX2_settleDebts_74 (by decide) ?_
      refine R_iload_n dX2_settleDebts_76 rfl ?_
      refine R_iload_n dX2_settleDebts_77 rfl ?_
      refine R_icmp_ne (tgt := 87) dX2_settleDebts_78 (by decide) (fun c78 => ?_) (fun c78 => ?_)
      · refine R_aload_n dX2_settleDebts_87 rfl ?_
        refine R_get dX2_settleDebts_88 gf_X2_21 h.1 rfl ?_
        refine R_iload_n dX2_settleDebts_91 rfl ?_
        refine R_bipush (v := (-99)) dX2_settleDebts_92 (by decide) ?_
        refine R_bipush (v := 99) dX2_settleDebts_94 (by decide) ?_
        refine R_iload dX2_settleDebts_96 rfl ?_
        refine R_mmin dX2_settleDebts_98 mm_X2_113 mS_min mI_Math mC_min (by decide) (Nat.le_of_ble_eq_true rfl) ?_
        refine R_mmax dX2_settleDebts_101 mm_X2_88 mS_max mI_Math mC_max (by decide) (Nat.le_of_ble_eq_true rfl) ?_
        refine RR.top (y := nwD a v x n i) (by unfold nwD clpI; rw [if_neg c78]) ?_
        refine St_ast3N dX2_settleDebts_104 h (by omega) (fun hh h hF1 => ?_)
        have hF := hF.tr hF1 (by omega) (by omega)
        refine R_iinc (y := nI (i + 1)) dX2_settleDebts_105 rfl (by decide) (nI_s i) ?_
        refine R_goto (tgt := 41) dX2_settleDebts_108 (by decide) ?_
        have e8 : upd (mixA (nwD a v x n) (a 3) i) i (nwD a v x n i) = mixA (nwD a v x n) (a 3) (i + 1) := mixA_s _ _ _
        have h := h.cg (a' := va_up a 3 (mixA (nwD a v x n) (a 3) (i + 1))) (by rw [bx_uu, ← e8]; rfl) rfl
        exact RR.pick [2, 3, 4, 0] rfl (ih (i + 1) hh (by omega) h hF)
      · refine R_iload dX2_settleDebts_81 rfl ?_
        refine R_iload_n dX2_settleDebts_83 rfl ?_
        refine R_isub dX2_settleDebts_84 ?_
        refine R_istore dX2_settleDebts_85 (by decide) ?_
        refine R_aload_n dX2_settleDebts_87 rfl ?_
        refine R_get dX2_settleDebts_88 gf_X2_21 h.1 rfl ?_
        refine R_iload_n dX2_settleDebts_91 rfl ?_
        refine R_bipush (v := (-99)) dX2_settleDebts_92 (by decide) ?_
        refine R_bipush (v := 99) dX2_settleDebts_94 (by decide) ?_
        refine R_iload dX2_settleDebts_96 rfl ?_
        refine R_mmin dX2_settleDebts_98 mm_X2_113 mS_min mI_Math mC_min (by decide) (Nat.le_of_ble_eq_true rfl) ?_
        refine R_mmax dX2_settleDebts_101 mm_X2_88 mS_max mI_Math mC_max (by decide) (Nat.le_of_ble_eq_true rfl) ?_
        refine RR.top (y := nwD a v x n i) (by unfold nwD clpI; rw [if_pos (Classical.not_not.mp c78)]) ?_
        refine St_ast3N dX2_settleDebts_104 h (by omega) (fun hh h hF1 => ?_)
        have hF := hF.tr hF1 (by omega) (by omega)
        refine R_iinc (y := nI (i + 1)) dX2_settleDebts_105 rfl (by decide) (nI_s i) ?_
        refine R_goto (tgt := 41) dX2_settleDebts_108 (by decide) ?_
        have e8 : upd (mixA (nwD a v x n) (a 3) i) i (nwD a v x n i) = mixA (nwD a v x n) (a 3) (i + 1) := mixA_s _ _ _
        have h := h.cg (a' := va_up a 3 (mixA (nwD a v x n) (a 3) (i + 1))) (by rw [bx_uu, ← e8]; rfl) rfl
        exact RR.pick [2, 3, 4, 0] rfl (ih (i + 1) hh (by omega) h hF)
    · refine R_iconst (v := 0) dX2_settleDebts_63 (by decide) ?_
      refine R_goto (tgt := 73) dX2_settleDebts_64 (by decide) ?_
      refine R_iadd dX2_settleDebts_73 ?_
      refine RR.top (y := a 3 i + stA a v i) (by simp_all [stA, bl, va_up, mixA]) ?_
      refine R_istore dX2_settleDebts_74 (by decide) ?_
      refine R_iload_n dX2_settleDebts_76 rfl ?_
      refine R_iload_n dX2_settleDebts_77 rfl ?_
      refine R_icmp_ne (tgt := 87) dX2_settleDebts_78 (by decide) (fun c78 => ?_) (fun c78 => ?_)
      · refine R_aload_n dX2_settleDebts_87 rfl ?_
        refine R_get dX2_settleDebts_88 gf_X2_21 h.1 rfl ?_
        refine R_iload_n dX2_settleDebts_91 rfl ?_
        refine R_bipush (v := (-99)) dX2_settleDebts_92 (by decide) ?_
        refine R_bipush (v := 99) dX2_settleDebts_94 (by decide) ?_
        refine R_iload dX2_settleDebts_96 rfl ?_
        refine R_mmin dX2_settleDebts_98 mm_X2_113 mS_min mI_Math mC_min (by decide) (Nat.le_of_ble_eq_true rfl) ?_
        refine R_mmax dX2_settleDebts_101 mm_X2_88 mS_max mI_Math mC_max (by decide) (Nat.le_of_ble_eq_true rfl) ?_
        refine RR.top (y := nwD a v x n i) (by unfold nwD clpI; rw [if_neg c78]) ?_
        refine St_ast3N dX2_settleDebts_104 h (by omega) (fun hh h hF1 => ?_)
        have hF := hF.tr hF1 (by omega) (by omega)
        refine R_iinc (y := nI (i + 1)) dX2_settleDebts_105 rfl (by decide) (nI_s i) ?_
        refine R_goto (tgt := 41) dX2_settleDebts_108 (by decide) ?_
        have e8 : upd (mixA (nwD a v x n) (a 3) i) i (nwD a v x n i) = mixA (nwD a v x n) (a 3) (i + 1) := mixA_s _ _ _
        have h := h.cg (a' := va_up a 3 (mixA (nwD a v x n) (a 3) (i + 1))) (by rw [bx_uu, ← e8]; rfl) rfl
        exact RR.pick [2, 3, 4, 0] rfl (ih (i + 1) hh (by omega) h hF)
      · refine R_iload dX2_settleDebts_81 rfl ?_
        refine R_iload_n dX2_settleDebts_83 rfl ?_
        refine R_isub dX2_settleDebts_84 ?_
        refine R_istore dX2_settleDebts_85 (by decide) ?_
        refine R_aload_n dX2_settleDebts_87 rfl ?_
        refine R_get dX2_settleDebts_88 gf_X2_21 h.1 rfl ?_
        refine R_iload_n dX2_settleDebts_91 rfl ?_
        refine R_bipush (v := (-99)) dX2_settleDebts_92 (by decide) ?_
        refine R_bipush (v := 99) dX2_settleDebts_94 (by decide) ?_
        refine R_iload dX2_settleDebts_96 rfl ?_
        refine R_mmin dX2_settleDebts_98 mm_X2_113 mS_min mI_Math mC_min (by decide) (Nat.le_of_ble_eq_true rfl) ?_
        refine R_mmax dX2_settleDebts_101 mm_X2_88 mS_max mI_Math mC_max (by decide) (Nat.le_of_ble_eq_true rfl) ?_
        refine RR.top (y := nwD a v x n i) (by unfold nwD clpI; rw [if_pos (Classical.not_not.mp c78)]) ?_
        refine St_ast3N dX2_settleDebts_104 h (by omega) (fun hh h hF1 => ?_)
        have hF := hF.tr hF1 (by omega) (by omega)
        refine R_iinc (y := nI (i + 1)) dX2_settleDebts_105 rfl (by decide) (nI_s i) ?_
        refine R_goto (tgt := 41) dX2_settleDebts_108 (by decide) ?_
        have e8 : upd (mixA (nwD a v x n) (a 3) i) i (nwD a v x n i) = mixA (nwD a v x n) (a 3) (i + 1) := mixA_s _ _ _
        have h := h.cg (a' := va_up a 3 (mixA (nwD a v x n) (a 3) (i + 1))) (by rw [bx_uu, ← e8]; rfl) rfl
        exact RR.pick [2, 3, 4, 0] rfl (ih (i + 1) hh (by omega) h hF)
set_option maxRecDepth 4000 in
theorem l_settle1 (G : GG) (hh : HH) {k : Nat} {a : AA} {v : VV} (h : StAt G hh k a v) {n : Nat} (hn : n ≤ 6) (hv : v 8 = nI n) (x : Int32) : ∀ (d i : Nat), i + d = n → RR G mX2_settleDebts 4 [(0, .ref (ad G k)), (1, .int x), (2, .int (foldS (stA a v) 0 i 0)), (3, .int (nI i))] [] hh (fun r h1 => r = none ∧ (StAt G h1 k (setD a v x n) v ∧ Fr k (k + 9) hh h1)) := by
  intro d
  induction d with
  | zero =>
    intro i hi
    refine R_iload_n dX2_settleDebts_4 rfl ?_
    refine R_aload_n dX2_settleDebts_5 rfl ?_
    refine R_get dX2_settleDebts_6 gf_X2_52 h.1 rfl ?_
    refine R_icmp_ge (tgt := 39) dX2_settleDebts_9 (by decide) (fun c9 => ?_) (fun c9 => absurd (by rw [hv]; exact nI_le (by omega) (by omega)) c9)
    refine R_iconst (v := 0) dX2_settleDebts_39 (by decide) ?_
    refine R_istore_n dX2_settleDebts_40 (by decide) ?_
    have e : i = n := by omega
    subst e
    exact RR.pick [1, 2, 3, 0] rfl (l_settle2 G hh hn hv x i 0 hh (by omega) (h.cg (by rw [mixA_0]; funext j; simp only [va_up]; split <;> simp_all) rfl) Fr.rf)
  | succ d ih =>
    intro i hi
    refine R_iload_n dX2_settleDebts_4 rfl ?_
    refine R_aload_n dX2_settleDebts_5 rfl ?_
    refine R_get dX2_settleDebts_6 gf_X2_52 h.1 rfl ?_
    refine R_icmp_ge (tgt := 39) dX2_settleDebts_9 (by decide) (fun c9 => absurd c9 (by rw [hv]; exact nI_ge (by omega) (by omega))) (fun c9 => ?_)
    refine R_iload_n dX2_settleDebts_12 rfl ?_
    refine R_aload_n dX2_settleDebts_13 rfl ?_
    refine R_iload_n dX2_settleDebts_14 rfl ?_
    refine R_callVp dX2_settleDebts_15 cv_X2_74 ⟨by decide, by decide⟩ (e_isAway G hh h (nI i)) h.1 rfl rfl rfl (Nat.le_of_ble_eq_true rfl) ?_
    refine R_if_eq (tgt := 25) dX2_settleDebts_18 (by decide) (fun c18 => ?_) (fun c18 => ?_)
    · refine R_aload_n dX2_settleDebts_25 rfl ?_
      refine R_get dX2_settleDebts_26 gf_X2_9 h.1 rfl ?_
      refine R_iload_n dX2_settleDebts_29 rfl ?_
      refine R_ialdN dX2_settleDebts_30 h.a0 (by omega) (by decide) ?_
      refine R_iadd dX2_settleDebts_31 ?_
      refine RR.top (y := foldS (stA a v) 0 (i + 1) 0) (by rw [foldS_last, Nat.zero_add]; simp_all [stA, bl]) ?_
      refine R_istore_n dX2_settleDebts_32 (by decide) ?_
      refine R_iinc (y := nI (i + 1)) dX2_settleDebts_33 rfl (by decide) (nI_s i) ?_
      refine R_goto (tgt := 4) dX2_settleDebts_36 (by decide) ?_
      exact RR.pick [2, 3, 1, 0] rfl (ih (i + 1) (by omega))
    · refine R_iconst (v := 0) dX2_settleDebts_21 (by decide) ?_
      refine R_goto (tgt := 31) dX2_settleDebts_22 (by decide) ?_
      refine R_iadd dX2_settleDebts_31 ?_
      refine RR.top (y := foldS (stA a v) 0 (i + 1) 0) (by rw [foldS_last, Nat.zero_add]; simp_all [stA, bl]) ?_
      refine R_istore_n dX2_settleDebts_32 (by decide) ?_
      refine R_iinc (y := nI (i + 1)) dX2_settleDebts_33 rfl (by decide) (nI_s i) ?_
      refine R_goto (tgt := 4) dX2_settleDebts_36 (by decide) ?_
      exact RR.pick [2, 3, 1, 0] rfl (ih (i + 1) (by omega))
set_option maxRecDepth 4000 in
theorem e_settle (G : GG) (hh : HH) {k : Nat} {a : AA} {v : VV} (h : StAt G hh k a v) {n : Nat} (hn : n ≤ 6) (hv : v 8 = nI n) (x : Int32) : EVv G mX2_settleDebts [.ref (ad G k), .int x] hh (fun h1 => StAt G h1 k (setD a v x n) v ∧ Fr k (k + 9) hh h1) := by
  refine EV.of [(0, .ref (ad G k)), (1, .int x)] (by decide +kernel) (Nat.le_of_ble_eq_true rfl) rfl ?_
  refine R_iconst (v := 0) dX2_settleDebts_0 (by decide) ?_
  refine R_istore_n dX2_settleDebts_1 (by decide) ?_
  refine R_iconst (v := 0) dX2_settleDebts_2 (by decide) ?_
  refine R_istore_n dX2_settleDebts_3 (by decide) ?_
  exact RR.pick [2, 3, 1, 0] rfl (l_settle1 G hh h hn hv x n 0 (by omega))
/-- the arrays behind a case more, number c, of judge j -/
def addA (a : AA) (v : VV) (s p : Int32) (n j c : Nat) : AA := va_up (va_up (va_up (setD a v (nI j) n) 4 (upd (a 4) c s)) 5 (upd (a 5) c p)) 6 (upd (a 6) c (nI j))
def addV (v : VV) (K c : Nat) : VV := va_up (vct v (itT K (v 12)) (v 13 + nI K)) 14 (nI (c + 1))
set_option maxRecDepth 4000 in
theorem e_addCase (G : GG) (hh : HH) {k : Nat} {a : AA} {v : VV} (h : StAt G hh k a v) {n : Nat} (hn : n ≤ 6) (hv : v 8 = nI n) (s p : Int32) (hm : 1 ≤ totW a v s n) {K : Nat} (hK : firstK a v s p n (v 12) K) (hK2 : K ≤ 1000000) {c : Nat} (hc20 : c < 20) (hc : v 14 = nI c) : EVi G mX2_addCase [.ref (ad G k), .int s, .int p] hh (fun w h1 => w = nI (judOf a v s n (itT K (v 12))) ∧ ∃ g, StAt G h1 k (va_up (addA a v s p n (judOf a v s n (itT K (v 12))) c) 7 g) (addV v K c) ∧ Fr k (k + 9) hh h1) := by
  refine EV.of [(0, .ref (ad G k)), (1, .int s), (2, .int p)] (by decide +kernel) (Nat.le_of_ble_eq_true rfl) rfl ?_
  refine R_aload_n dX2_addCase_0 rfl ?_
  refine R_get dX2_addCase_1 gf_X2_61 h.1 rfl ?_
  refine R_bipush (v := 20) dX2_addCase_4 (by decide) ?_
  refine R_icmp_lt (tgt := 11) dX2_addCase_6 (by decide) (fun c6 => ?_) (fun c6 => absurd (by rw [hc]; exact nI_lt (b := 20) hc20 (by decide)) c6)
  refine R_aload_n dX2_addCase_11 rfl ?_
  refine R_iload_n dX2_addCase_12 rfl ?_
  refine R_iload_n dX2_addCase_13 rfl ?_
  refine R_callVi dX2_addCase_14 cv_X2_116 ⟨by decide, by decide⟩ (e_drawJudge G hh h hn hv s p hm hK hK2) h.1 rfl rfl rfl (Nat.le_of_ble_eq_true rfl) (fun w1 hh hw => ?_)
  obtain ⟨rfl, g, h, hF⟩ := hw
  refine R_istore_n dX2_addCase_17 (by decide) ?_
  refine R_aload_n dX2_addCase_18 rfl ?_
  refine R_iload_n dX2_addCase_19 rfl ?_
  refine R_callVv dX2_addCase_20 cv_X2_119 ⟨by decide, by decide⟩ (e_settle G hh h hn hv (nI (judOf a v s n (itT K (v 12))))) h.1 rfl rfl rfl (Nat.le_of_ble_eq_true rfl) (fun hh hw => ?_)
  obtain ⟨h, hF1⟩ := hw
  have hF := hF.tr hF1 (by omega) (by omega)
  refine R_aload_n dX2_addCase_23 rfl ?_
  refine R_get dX2_addCase_24 gf_X2_24 h.1 rfl ?_
  refine R_aload_n dX2_addCase_27 rfl ?_
  refine R_get dX2_addCase_28 gf_X2_61 h.1 rfl ?_
  refine RR.top (y := nI c) hc ?_
  refine R_iload_n dX2_addCase_31 rfl ?_
  refine St_ast4N dX2_addCase_32 h (by omega) (fun hh h hF1 => ?_)
  have hF := hF.tr hF1 (by omega) (by omega)
  refine R_aload_n dX2_addCase_33 rfl ?_
  refine R_get dX2_addCase_34 gf_X2_27 h.1 rfl ?_
  refine R_aload_n dX2_addCase_37 rfl ?_
  refine R_get dX2_addCase_38 gf_X2_61 h.1 rfl ?_
  refine RR.top (y := nI c) hc ?_
  refine R_iload_n dX2_addCase_41 rfl ?_
  refine St_ast5N dX2_addCase_42 h (by omega) (fun hh h hF1 => ?_)
  have hF := hF.tr hF1 (by omega) (by omega)
  refine R_aload_n dX2_addCase_43 rfl ?_
  refine R_get dX2_addCase_44 gf_X2_30 h.1 rfl ?_
  refine R_aload_n dX2_addCase_47 rfl ?_
  refine R_get dX2_addCase_48 gf_X2_61 h.1 rfl ?_
  refine RR.top (y := nI c) hc ?_
  refine R_iload_n dX2_addCase_51 rfl ?_
  refine St_ast6N dX2_addCase_52 h (by omega) (fun hh h hF1 => ?_)
  have hF := hF.tr hF1 (by omega) (by omega)
  refine R_aload_n dX2_addCase_53 rfl ?_
  refine R_dup dX2_addCase_54 rfl ?_
  refine R_get dX2_addCase_55 gf_X2_61 h.1 rfl ?_
  refine R_iconst (v := 1) dX2_addCase_58 (by decide) ?_
  refine R_iadd dX2_addCase_59 ?_
  refine RR.top (y := nI (c + 1)) (by show v 14 + 1 = nI (c + 1); rw [hc]; exact nI_1 c) ?_
  refine St_put14 dX2_addCase_60 pf_X2_61 h (fun hh h hF1 => ?_)
  have hF := hF.tr hF1 (by omega) (by omega)
  refine R_iload_n dX2_addCase_63 rfl ?_
  exact R_iret dX2_addCase_64 rfl (⟨_, rfl, rfl, g, h.cgv (fun j hj => by rcases (show j = 0 ∨ j = 1 ∨ j = 2 ∨ j = 3 ∨ j = 4 ∨ j = 5 ∨ j = 6 ∨ j = 7 by omega) with rfl | rfl | rfl | rfl | rfl | rfl | rfl | rfl <;> rfl) (fun j h1 h2 => by rcases (show j = 8 ∨ j = 9 ∨ j = 10 ∨ j = 11 ∨ j = 12 ∨ j = 13 ∨ j = 14 by omega) with rfl | rfl | rfl | rfl | rfl | rfl | rfl <;> rfl), hF⟩)
/-- the arrays behind a refusal of case i by judge jo -/
def barA (a : AA) (i jo : Nat) : AA := va_up a 2 (upd (a 2) jo (a 2 jo ||| ((1 : Int32) <<< (a 5 i &&& 31))))
def agnA (a : AA) (v : VV) (n j i : Nat) : AA := va_up (setD a v (nI j) n) 6 (upd (a 6) i (nI j))
set_option maxRecDepth 4000 in
theorem e_drawCaseAgain (G : GG) (hh : HH) {k : Nat} {a : AA} {v : VV} (h : StAt G hh k a v) {n : Nat} (hn : n ≤ 6) (hv : v 8 = nI n) {i jo : Nat} (hi : i < 20) (hjo : jo < 6) (hj : a 6 i = nI jo) (hm : 1 ≤ totW (barA a i jo) v (a 4 i) n) {K : Nat} (hK : firstK (barA a i jo) v (a 4 i) (a 5 i) n (v 12) K) (hK2 : K ≤ 1000000) : EVi G mX2_drawCaseAgain [.ref (ad G k), .int (nI i)] hh (fun w h1 => w = nI (judOf (barA a i jo) v (a 4 i) n (itT K (v 12))) ∧ ∃ g, StAt G h1 k (va_up (agnA (barA a i jo) v n (judOf (barA a i jo) v (a 4 i) n (itT K (v 12))) i) 7 g) (vct v (itT K (v 12)) (v 13 + nI K)) ∧ Fr k (k + 9) hh h1) := by
  refine EV.of [(0, .ref (ad G k)), (1, .int (nI i))] (by decide +kernel) (Nat.le_of_ble_eq_true rfl) rfl ?_
  refine R_aload_n dX2_drawCaseAgain_0 rfl ?_
  refine R_get dX2_drawCaseAgain_1 gf_X2_18 h.1 rfl ?_
  refine R_aload_n dX2_drawCaseAgain_4 rfl ?_
  refine R_get dX2_drawCaseAgain_5 gf_X2_30 h.1 rfl ?_
  refine R_iload_n dX2_drawCaseAgain_8 rfl ?_
  refine R_ialdN dX2_drawCaseAgain_9 h.a6 (by omega) (by decide) ?_
  refine RR.top (y := nI jo) hj ?_
  refine R_dup2 dX2_drawCaseAgain_10 rfl rfl ?_
  refine R_ialdN dX2_drawCaseAgain_11 h.a2 (by omega) (by decide) ?_
  refine R_iconst (v := 1) dX2_drawCaseAgain_12 (by decide) ?_
  refine R_aload_n dX2_drawCaseAgain_13 rfl ?_
  refine R_get dX2_drawCaseAgain_14 gf_X2_27 h.1 rfl ?_
  refine R_iload_n dX2_drawCaseAgain_17 rfl ?_
  refine R_ialdN dX2_drawCaseAgain_18 h.a5 (by omega) (by decide) ?_
  refine R_ishl dX2_drawCaseAgain_19 ?_
  refine R_ior dX2_drawCaseAgain_20 ?_
  refine St_ast2N dX2_drawCaseAgain_21 h (by omega) (fun hh h hF1 => ?_)
  have hF := hF1
  refine R_aload_n dX2_drawCaseAgain_22 rfl ?_
  refine R_aload_n dX2_drawCaseAgain_23 rfl ?_
  refine R_get dX2_drawCaseAgain_24 gf_X2_24 h.1 rfl ?_
  refine R_iload_n dX2_drawCaseAgain_27 rfl ?_
  refine R_ialdN dX2_drawCaseAgain_28 h.a4 (by omega) (by decide) ?_
  refine R_aload_n dX2_drawCaseAgain_29 rfl ?_
  refine R_get dX2_drawCaseAgain_30 gf_X2_27 h.1 rfl ?_
  refine R_iload_n dX2_drawCaseAgain_33 rfl ?_
  refine R_ialdN dX2_drawCaseAgain_34 h.a5 (by omega) (by decide) ?_
  refine R_callVi dX2_drawCaseAgain_35 cv_X2_116 ⟨by decide, by decide⟩ (e_drawJudge G hh (a := (barA a i jo)) h hn hv (a 4 i) (a 5 i) hm hK hK2) h.1 rfl rfl rfl (Nat.le_of_ble_eq_true rfl) (fun w1 hh hw => ?_)
  obtain ⟨rfl, g, h, hF1⟩ := hw
  have hF := hF.tr hF1 (by omega) (by omega)
  refine R_istore_n dX2_drawCaseAgain_38 (by decide) ?_
  refine R_aload_n dX2_drawCaseAgain_39 rfl ?_
  refine R_iload_n dX2_drawCaseAgain_40 rfl ?_
  refine R_callVv dX2_drawCaseAgain_41 cv_X2_119 ⟨by decide, by decide⟩ (e_settle G hh h hn hv (nI (judOf (barA a i jo) v (a 4 i) n (itT K (v 12))))) h.1 rfl rfl rfl (Nat.le_of_ble_eq_true rfl) (fun hh hw => ?_)
  obtain ⟨h, hF1⟩ := hw
  have hF := hF.tr hF1 (by omega) (by omega)
  refine R_aload_n dX2_drawCaseAgain_44 rfl ?_
  refine R_get dX2_drawCaseAgain_45 gf_X2_30 h.1 rfl ?_
  refine R_iload_n dX2_drawCaseAgain_48 rfl ?_
  refine R_iload_n dX2_drawCaseAgain_49 rfl ?_
  refine St_ast6N dX2_drawCaseAgain_50 h (by omega) (fun hh h hF1 => ?_)
  have hF := hF.tr hF1 (by omega) (by omega)
  refine R_iload_n dX2_drawCaseAgain_51 rfl ?_
  exact R_iret dX2_drawCaseAgain_52 rfl (⟨_, rfl, rfl, g, h.cgv (fun j hj => by rcases (show j = 0 ∨ j = 1 ∨ j = 2 ∨ j = 3 ∨ j = 4 ∨ j = 5 ∨ j = 6 ∨ j = 7 by omega) with rfl | rfl | rfl | rfl | rfl | rfl | rfl | rfl <;> rfl) (fun _ _ _ => rfl), hF⟩)
theorem St_copy0 {G : GG} {μ : MI} {pc : Nat} {lv : List (Nat × Value)} {st : List Value} {hh : HH} {Q : QQ} {k k2 idx : Nat} {a a2 : AA} {v v2 : VV} (hd : decode μ.2.1 pc = .ok (.invokestatic idx, 3)) (w1 : Cond.methodLink μ.1.cls idx arraycopyName ∈ XW) (w2 : Cond.native arraycopyName ∈ XW) (w3 : Cond.static arraycopyName ∈ XW) (w4 : Cond.initialized "java/lang/System" ∈ XW) (hh0 : 1 ≤ μ.2.2.2.2) (h : StAt G hh k a v) (h2 : StAt G hh k2 a2 v2) (hcat : (st.map fun v => v.category).sum ≤ 8) (k1 : ∀ hh1, StAt G hh1 k (va_up a 0 (a2 0)) v → Fr k (k + 9) hh hh1 → RR G μ (pc + 3) lv st hh1 Q) : RR G μ pc lv (.int 6 :: .int 0 :: .ref (ad G (k + 1)) :: .int 0 :: .ref (ad G (k2 + 1)) :: st) hh Q := by
  refine R_copyi (f := a2 0) (g := a 0) hd w1 w2 w3 w4 hh0 h2.a0 h.a0 (by decide) (by decide) (by decide) (by decide) (by decide) hcat ?_
  refine RR.swap (swapI (g := a2 0) (fun j hj => ?_)) (k1 _ (h.s0 _) (Fr.up _ Fr.rf (by omega) (by omega)))
  have e : va_cpy (a2 0) (a 0) 0 0 6 j = a2 0 j := by
    rw [pk_cpy_in (Nat.zero_le _) (by omega)]
    simp
  exact e
theorem St_copy1 {G : GG} {μ : MI} {pc : Nat} {lv : List (Nat × Value)} {st : List Value} {hh : HH} {Q : QQ} {k k2 idx : Nat} {a a2 : AA} {v v2 : VV} (hd : decode μ.2.1 pc = .ok (.invokestatic idx, 3)) (w1 : Cond.methodLink μ.1.cls idx arraycopyName ∈ XW) (w2 : Cond.native arraycopyName ∈ XW) (w3 : Cond.static arraycopyName ∈ XW) (w4 : Cond.initialized "java/lang/System" ∈ XW) (hh0 : 1 ≤ μ.2.2.2.2) (h : StAt G hh k a v) (h2 : StAt G hh k2 a2 v2) (hcat : (st.map fun v => v.category).sum ≤ 8) (k1 : ∀ hh1, StAt G hh1 k (va_up a 1 (a2 1)) v → Fr k (k + 9) hh hh1 → RR G μ (pc + 3) lv st hh1 Q) : RR G μ pc lv (.int 6 :: .int 0 :: .ref (ad G (k + 2)) :: .int 0 :: .ref (ad G (k2 + 2)) :: st) hh Q := by
  refine R_copyi (f := a2 1) (g := a 1) hd w1 w2 w3 w4 hh0 h2.a1 h.a1 (by decide) (by decide) (by decide) (by decide) (by decide) hcat ?_
  refine RR.swap (swapI (g := a2 1) (fun j hj => ?_)) (k1 _ (h.s1 _) (Fr.up _ Fr.rf (by omega) (by omega)))
  have e : va_cpy (a2 1) (a 1) 0 0 6 j = a2 1 j := by
    rw [pk_cpy_in (Nat.zero_le _) (by omega)]
    simp
  exact e
theorem St_copy2 {G : GG} {μ : MI} {pc : Nat} {lv : List (Nat × Value)} {st : List Value} {hh : HH} {Q : QQ} {k k2 idx : Nat} {a a2 : AA} {v v2 : VV} (hd : decode μ.2.1 pc = .ok (.invokestatic idx, 3)) (w1 : Cond.methodLink μ.1.cls idx arraycopyName ∈ XW) (w2 : Cond.native arraycopyName ∈ XW) (w3 : Cond.static arraycopyName ∈ XW) (w4 : Cond.initialized "java/lang/System" ∈ XW) (hh0 : 1 ≤ μ.2.2.2.2) (h : StAt G hh k a v) (h2 : StAt G hh k2 a2 v2) (hcat : (st.map fun v => v.category).sum ≤ 8) (k1 : ∀ hh1, StAt G hh1 k (va_up a 2 (a2 2)) v → Fr k (k + 9) hh hh1 → RR G μ (pc + 3) lv st hh1 Q) : RR G μ pc lv (.int 6 :: .int 0 :: .ref (ad G (k + 3)) :: .int 0 :: .ref (ad G (k2 + 3)) :: st) hh Q := by
  refine R_copyi (f := a2 2) (g := a 2) hd w1 w2 w3 w4 hh0 h2.a2 h.a2 (by decide) (by decide) (by decide) (by decide) (by decide) hcat ?_
  refine RR.swap (swapI (g := a2 2) (fun j hj => ?_)) (k1 _ (h.s2 _) (Fr.up _ Fr.rf (by omega) (by omega)))
  have e : va_cpy (a2 2) (a 2) 0 0 6 j = a2 2 j := by
    rw [pk_cpy_in (Nat.zero_le _) (by omega)]
    simp
  exact e
theorem St_copy3 {G : GG} {μ : MI} {pc : Nat} {lv : List (Nat × Value)} {st : List Value} {hh : HH} {Q : QQ} {k k2 idx : Nat} {a a2 : AA} {v v2 : VV} (hd : decode μ.2.1 pc = .ok (.invokestatic idx, 3)) (w1 : Cond.methodLink μ.1.cls idx arraycopyName ∈ XW) (w2 : Cond.native arraycopyName ∈ XW) (w3 : Cond.static arraycopyName ∈ XW) (w4 : Cond.initialized "java/lang/System" ∈ XW) (hh0 : 1 ≤ μ.2.2.2.2) (h : StAt G hh k a v) (h2 : StAt G hh k2 a2 v2) (hcat : (st.map fun v => v.category).sum ≤ 8) (k1 : ∀ hh1, StAt G hh1 k (va_up a 3 (a2 3)) v → Fr k (k + 9) hh hh1 → RR G μ (pc + 3) lv st hh1 Q) : RR G μ pc lv (.int 6 :: .int 0 :: .ref (ad G (k + 4)) :: .int 0 :: .ref (ad G (k2 + 4)) :: st) hh Q := by
  refine R_copyi (f := a2 3) (g := a 3) hd w1 w2 w3 w4 hh0 h2.a3 h.a3 (by decide) (by decide) (by decide) (by decide) (by decide) hcat ?_
  refine RR.swap (swapI (g := a2 3) (fun j hj => ?_)) (k1 _ (h.s3 _) (Fr.up _ Fr.rf (by omega) (by omega)))
  have e : va_cpy (a2 3) (a 3) 0 0 6 j = a2 3 j := by
    rw [pk_cpy_in (Nat.zero_le _) (by omega)]
    simp
  exact e
theorem St_copy4 {G : GG} {μ : MI} {pc : Nat} {lv : List (Nat × Value)} {st : List Value} {hh : HH} {Q : QQ} {k k2 idx : Nat} {a a2 : AA} {v v2 : VV} (hd : decode μ.2.1 pc = .ok (.invokestatic idx, 3)) (w1 : Cond.methodLink μ.1.cls idx arraycopyName ∈ XW) (w2 : Cond.native arraycopyName ∈ XW) (w3 : Cond.static arraycopyName ∈ XW) (w4 : Cond.initialized "java/lang/System" ∈ XW) (hh0 : 1 ≤ μ.2.2.2.2) (h : StAt G hh k a v) (h2 : StAt G hh k2 a2 v2) (hcat : (st.map fun v => v.category).sum ≤ 8) (k1 : ∀ hh1, StAt G hh1 k (va_up a 4 (a2 4)) v → Fr k (k + 9) hh hh1 → RR G μ (pc + 3) lv st hh1 Q) : RR G μ pc lv (.int 20 :: .int 0 :: .ref (ad G (k + 5)) :: .int 0 :: .ref (ad G (k2 + 5)) :: st) hh Q := by
  refine R_copyi (f := a2 4) (g := a 4) hd w1 w2 w3 w4 hh0 h2.a4 h.a4 (by decide) (by decide) (by decide) (by decide) (by decide) hcat ?_
  refine RR.swap (swapI (g := a2 4) (fun j hj => ?_)) (k1 _ (h.s4 _) (Fr.up _ Fr.rf (by omega) (by omega)))
  have e : va_cpy (a2 4) (a 4) 0 0 20 j = a2 4 j := by
    rw [pk_cpy_in (Nat.zero_le _) (by omega)]
    simp
  exact e
theorem St_copy5 {G : GG} {μ : MI} {pc : Nat} {lv : List (Nat × Value)} {st : List Value} {hh : HH} {Q : QQ} {k k2 idx : Nat} {a a2 : AA} {v v2 : VV} (hd : decode μ.2.1 pc = .ok (.invokestatic idx, 3)) (w1 : Cond.methodLink μ.1.cls idx arraycopyName ∈ XW) (w2 : Cond.native arraycopyName ∈ XW) (w3 : Cond.static arraycopyName ∈ XW) (w4 : Cond.initialized "java/lang/System" ∈ XW) (hh0 : 1 ≤ μ.2.2.2.2) (h : StAt G hh k a v) (h2 : StAt G hh k2 a2 v2) (hcat : (st.map fun v => v.category).sum ≤ 8) (k1 : ∀ hh1, StAt G hh1 k (va_up a 5 (a2 5)) v → Fr k (k + 9) hh hh1 → RR G μ (pc + 3) lv st hh1 Q) : RR G μ pc lv (.int 20 :: .int 0 :: .ref (ad G (k + 6)) :: .int 0 :: .ref (ad G (k2 + 6)) :: st) hh Q := by
  refine R_copyi (f := a2 5) (g := a 5) hd w1 w2 w3 w4 hh0 h2.a5 h.a5 (by decide) (by decide) (by decide) (by decide) (by decide) hcat ?_
  refine RR.swap (swapI (g := a2 5) (fun j hj => ?_)) (k1 _ (h.s5 _) (Fr.up _ Fr.rf (by omega) (by omega)))
  have e : va_cpy (a2 5) (a 5) 0 0 20 j = a2 5 j := by
    rw [pk_cpy_in (Nat.zero_le _) (by omega)]
    simp
  exact e
theorem St_copy6 {G : GG} {μ : MI} {pc : Nat} {lv : List (Nat × Value)} {st : List Value} {hh : HH} {Q : QQ} {k k2 idx : Nat} {a a2 : AA} {v v2 : VV} (hd : decode μ.2.1 pc = .ok (.invokestatic idx, 3)) (w1 : Cond.methodLink μ.1.cls idx arraycopyName ∈ XW) (w2 : Cond.native arraycopyName ∈ XW) (w3 : Cond.static arraycopyName ∈ XW) (w4 : Cond.initialized "java/lang/System" ∈ XW) (hh0 : 1 ≤ μ.2.2.2.2) (h : StAt G hh k a v) (h2 : StAt G hh k2 a2 v2) (hcat : (st.map fun v => v.category).sum ≤ 8) (k1 : ∀ hh1, StAt G hh1 k (va_up a 6 (a2 6)) v → Fr k (k + 9) hh hh1 → RR G μ (pc + 3) lv st hh1 Q) : RR G μ pc lv (.int 20 :: .int 0 :: .ref (ad G (k + 7)) :: .int 0 :: .ref (ad G (k2 + 7)) :: st) hh Q := by
  refine R_copyi (f := a2 6) (g := a 6) hd w1 w2 w3 w4 hh0 h2.a6 h.a6 (by decide) (by decide) (by decide) (by decide) (by decide) hcat ?_
  refine RR.swap (swapI (g := a2 6) (fun j hj => ?_)) (k1 _ (h.s6 _) (Fr.up _ Fr.rf (by omega) (by omega)))
  have e : va_cpy (a2 6) (a 6) 0 0 20 j = a2 6 j := by
    rw [pk_cpy_in (Nat.zero_le _) (by omega)]
    simp
  exact e
set_option maxRecDepth 4000 in
theorem e_copyFrom (G : GG) (hh : HH) {k : Nat} {a : AA} {v : VV} (h : StAt G hh k a v) {k2 : Nat} {a2 : AA} {v2 : VV} (h2 : StAt G hh k2 a2 v2) (hap : k2 + 9 ≤ k ∨ k + 9 ≤ k2) : EVv G mX2_copyFrom [.ref (ad G k), .ref (ad G k2)] hh (fun h1 => StAt G h1 k (va_up a2 7 (a 7)) v2 ∧ Fr k (k + 9) hh h1) := by
  refine EV.of [(0, .ref (ad G k)), (1, .ref (ad G k2))] (by decide +kernel) (Nat.le_of_ble_eq_true rfl) rfl ?_
  refine R_aload_n dX2_copyFrom_0 rfl ?_
  refine R_get dX2_copyFrom_1 gf_X2_9 h2.1 rfl ?_
  refine R_iconst (v := 0) dX2_copyFrom_4 (by decide) ?_
  refine R_aload_n dX2_copyFrom_5 rfl ?_
  refine R_get dX2_copyFrom_6 gf_X2_9 h.1 rfl ?_
  refine R_iconst (v := 0) dX2_copyFrom_9 (by decide) ?_
  refine R_bipush (v := 6) dX2_copyFrom_10 (by decide) ?_
  refine St_copy0 dX2_copyFrom_12 mm_X2_46 aC_n aC_s aC_i (by decide) h h2 (Nat.le_of_ble_eq_true rfl) (fun hh h hF1 => ?_)
  have hF := hF1
  have h2 := h2.fr hF1 (by omega)
  refine R_aload_n dX2_copyFrom_15 rfl ?_
  refine R_get dX2_copyFrom_16 gf_X2_15 h2.1 rfl ?_
  refine R_iconst (v := 0) dX2_copyFrom_19 (by decide) ?_
  refine R_aload_n dX2_copyFrom_20 rfl ?_
  refine R_get dX2_copyFrom_21 gf_X2_15 h.1 rfl ?_
  refine R_iconst (v := 0) dX2_copyFrom_24 (by decide) ?_
  refine R_bipush (v := 6) dX2_copyFrom_25 (by decide) ?_
  refine St_copy1 dX2_copyFrom_27 mm_X2_46 aC_n aC_s aC_i (by decide) h h2 (Nat.le_of_ble_eq_true rfl) (fun hh h hF1 => ?_)
  have hF := hF.tr hF1 (by omega) (by omega)
  have h2 := h2.fr hF1 (by omega)
  refine R_aload_n dX2_copyFrom_30 rfl ?_
  refine R_get dX2_copyFrom_31 gf_X2_18 h2.1 rfl ?_
  refine R_iconst (v := 0) dX2_copyFrom_34 (by decide) ?_
  refine R_aload_n dX2_copyFrom_35 rfl ?_
  refine R_get dX2_copyFrom_36 gf_X2_18 h.1 rfl ?_
  refine R_iconst (v := 0) dX2_copyFrom_39 (by decide) ?_
  refine R_bipush (v := 6) dX2_copyFrom_40 (by decide) ?_
  refine St_copy2 dX2_copyFrom_42 mm_X2_46 aC_n aC_s aC_i (by decide) h h2 (Nat.le_of_ble_eq_true rfl) (fun hh h hF1 => ?_)
  have hF := hF.tr hF1 (by omega) (by omega)
  have h2 := h2.fr hF1 (by omega)
  refine R_aload_n dX2_copyFrom_45 rfl ?_
  refine R_get dX2_copyFrom_46 gf_X2_21 h2.1 rfl ?_
  refine R_iconst (v := 0) dX2_copyFrom_49 (by decide) ?_
  refine R_aload_n dX2_copyFrom_50 rfl ?_
  refine R_get dX2_copyFrom_51 gf_X2_21 h.1 rfl ?_
  refine R_iconst (v := 0) dX2_copyFrom_54 (by decide) ?_
  refine R_bipush (v := 6) dX2_copyFrom_55 (by decide) ?_
  refine St_copy3 dX2_copyFrom_57 mm_X2_46 aC_n aC_s aC_i (by decide) h h2 (Nat.le_of_ble_eq_true rfl) (fun hh h hF1 => ?_)
  have hF := hF.tr hF1 (by omega) (by omega)
  have h2 := h2.fr hF1 (by omega)
  refine R_aload_n dX2_copyFrom_60 rfl ?_
  refine R_get dX2_copyFrom_61 gf_X2_24 h2.1 rfl ?_
  refine R_iconst (v := 0) dX2_copyFrom_64 (by decide) ?_
  refine R_aload_n dX2_copyFrom_65 rfl ?_
  refine R_get dX2_copyFrom_66 gf_X2_24 h.1 rfl ?_
  refine R_iconst (v := 0) dX2_copyFrom_69 (by decide) ?_
  refine R_bipush (v := 20) dX2_copyFrom_70 (by decide) ?_
  refine St_copy4 dX2_copyFrom_72 mm_X2_46 aC_n aC_s aC_i (by decide) h h2 (Nat.le_of_ble_eq_true rfl) (fun hh h hF1 => ?_)
  have hF := hF.tr hF1 (by omega) (by omega)
  have h2 := h2.fr hF1 (by omega)
  refine R_aload_n dX2_copyFrom_75 rfl ?_
  refine R_get dX2_copyFrom_76 gf_X2_27 h2.1 rfl ?_
  refine R_iconst (v := 0) dX2_copyFrom_79 (by decide) ?_
  refine R_aload_n dX2_copyFrom_80 rfl ?_
  refine R_get dX2_copyFrom_81 gf_X2_27 h.1 rfl ?_
  refine R_iconst (v := 0) dX2_copyFrom_84 (by decide) ?_
  refine R_bipush (v := 20) dX2_copyFrom_85 (by decide) ?_
  refine St_copy5 dX2_copyFrom_87 mm_X2_46 aC_n aC_s aC_i (by decide) h h2 (Nat.le_of_ble_eq_true rfl) (fun hh h hF1 => ?_)
  have hF := hF.tr hF1 (by omega) (by omega)
  have h2 := h2.fr hF1 (by omega)
  refine R_aload_n dX2_copyFrom_90 rfl ?_
  refine R_get dX2_copyFrom_91 gf_X2_30 h2.1 rfl ?_
  refine R_iconst (v := 0) dX2_copyFrom_94 (by decide) ?_
  refine R_aload_n dX2_copyFrom_95 rfl ?_
  refine R_get dX2_copyFrom_96 gf_X2_30 h.1 rfl ?_
  refine R_iconst (v := 0) dX2_copyFrom_99 (by decide) ?_
  refine R_bipush (v := 20) dX2_copyFrom_100 (by decide) ?_
  refine St_copy6 dX2_copyFrom_102 mm_X2_46 aC_n aC_s aC_i (by decide) h h2 (Nat.le_of_ble_eq_true rfl) (fun hh h hF1 => ?_)
  have hF := hF.tr hF1 (by omega) (by omega)
  have h2 := h2.fr hF1 (by omega)
  refine R_aload_n dX2_copyFrom_105 rfl ?_
  refine R_aload_n dX2_copyFrom_106 rfl ?_
  refine R_get dX2_copyFrom_107 gf_X2_52 h2.1 rfl ?_
  refine St_put8 dX2_copyFrom_110 pf_X2_52 h (fun hh h hF1 => ?_)
  have hF := hF.tr hF1 (by omega) (by omega)
  have h2 := h2.fr hF1 (by omega)
  refine R_aload_n dX2_copyFrom_113 rfl ?_
  refine R_aload_n dX2_copyFrom_114 rfl ?_
  refine R_get dX2_copyFrom_115 gf_X2_55 h2.1 rfl ?_
  refine St_put9 dX2_copyFrom_118 pf_X2_55 h (fun hh h hF1 => ?_)
  have hF := hF.tr hF1 (by omega) (by omega)
  have h2 := h2.fr hF1 (by omega)
  refine R_aload_n dX2_copyFrom_121 rfl ?_
  refine R_aload_n dX2_copyFrom_122 rfl ?_
  refine R_get dX2_copyFrom_123 gf_X2_36 h2.1 rfl ?_
  refine St_put10 dX2_copyFrom_126 pf_X2_36 h (fun hh h hF1 => ?_)
  have hF := hF.tr hF1 (by omega) (by omega)
  have h2 := h2.fr hF1 (by omega)
  refine R_aload_n dX2_copyFrom_129 rfl ?_
  refine R_aload_n dX2_copyFrom_130 rfl ?_
  refine R_get dX2_copyFrom_131 gf_X2_40 h2.1 rfl ?_
  refine St_put11 dX2_copyFrom_134 pf_X2_40 h (fun hh h hF1 => ?_)
  have hF := hF.tr hF1 (by omega) (by omega)
  have h2 := h2.fr hF1 (by omega)
  refine R_aload_n dX2_copyFrom_137 rfl ?_
  refine R_aload_n dX2_copyFrom_138 rfl ?_
  refine R_get dX2_copyFrom_139 gf_X2_43 h2.1 rfl ?_
  refine St_put12 dX2_copyFrom_142 pf_X2_43 h (fun hh h hF1 => ?_)
  have hF := hF.tr hF1 (by omega) (by omega)
  have h2 := h2.fr hF1 (by omega)
  refine R_aload_n dX2_copyFrom_145 rfl ?_
  refine R_aload_n dX2_copyFrom_146 rfl ?_
  refine R_get dX2_copyFrom_147 gf_X2_58 h2.1 rfl ?_
  refine St_put13 dX2_copyFrom_150 pf_X2_58 h (fun hh h hF1 => ?_)
  have hF := hF.tr hF1 (by omega) (by omega)
  have h2 := h2.fr hF1 (by omega)
  refine R_aload_n dX2_copyFrom_153 rfl ?_
  refine R_aload_n dX2_copyFrom_154 rfl ?_
  refine R_get dX2_copyFrom_155 gf_X2_61 h2.1 rfl ?_
  refine St_put14 dX2_copyFrom_158 pf_X2_61 h (fun hh h hF1 => ?_)
  have hF := hF.tr hF1 (by omega) (by omega)
  have h2 := h2.fr hF1 (by omega)
  exact R_vret dX2_copyFrom_161 rfl (⟨rfl, h.cgv (fun j hj => by rcases (show j = 0 ∨ j = 1 ∨ j = 2 ∨ j = 3 ∨ j = 4 ∨ j = 5 ∨ j = 6 ∨ j = 7 by omega) with rfl | rfl | rfl | rfl | rfl | rfl | rfl | rfl <;> rfl) (fun j h1 h2 => by rcases (show j = 8 ∨ j = 9 ∨ j = 10 ∨ j = 11 ∨ j = 12 ∨ j = 13 ∨ j = 14 by omega) with rfl | rfl | rfl | rfl | rfl | rfl | rfl <;> rfl), hF⟩)
end
