-- ===== PART A: goes FIRST, ahead of the names: the tables' words, and 'selects' of the private methods out of them =====
/-- a private method of a class that the tables say can be made, by its rows of tables_1 -/
def lw_okq (q : MethodName × Nat) : Prop := (q.1.cls ≠ "java/lang/invoke/MethodHandle" ∧ q.1.cls ≠ "java/lang/invoke/VarHandle") ∧ Cond.instantiable q.1.cls q.2 ∈ tables_1 ∧ Cond.privateMethod q.1 ∈ tables_1 ∧ Cond.instanceMethod q.1 ∈ tables_1
theorem lw_p0 : lw_okq (⟨"SignalBook", "putByte", "(I)V"⟩, 16) := ⟨⟨by decide +kernel, by decide +kernel⟩, List.mem_of_getElem? (i := 24) (by decide +kernel), List.mem_of_getElem? (i := 319) (by decide +kernel), List.mem_of_getElem? (i := 320) (by decide +kernel)⟩
theorem lw_p1 : lw_okq (⟨"SignalBook$Tokens", "keepRow", "([BII)V"⟩, 5) := ⟨⟨by decide +kernel, by decide +kernel⟩, List.mem_of_getElem? (i := 32) (by decide +kernel), List.mem_of_getElem? (i := 338) (by decide +kernel), List.mem_of_getElem? (i := 339) (by decide +kernel)⟩
theorem lw_p2 : lw_okq (⟨"SignalBook$Tokens", "keepNumber", "([BII)V"⟩, 5) := ⟨⟨by decide +kernel, by decide +kernel⟩, List.mem_of_getElem? (i := 32) (by decide +kernel), List.mem_of_getElem? (i := 342) (by decide +kernel), List.mem_of_getElem? (i := 343) (by decide +kernel)⟩
theorem lw_p3 : lw_okq (⟨"SignalBook$Tokens", "keep", "(IIJ)V"⟩, 5) := ⟨⟨by decide +kernel, by decide +kernel⟩, List.mem_of_getElem? (i := 32) (by decide +kernel), List.mem_of_getElem? (i := 347) (by decide +kernel), List.mem_of_getElem? (i := 348) (by decide +kernel)⟩
theorem lw_p4 : lw_okq (⟨"SignalBook$Tokens", "keepWord", "([BII)V"⟩, 5) := ⟨⟨by decide +kernel, by decide +kernel⟩, List.mem_of_getElem? (i := 32) (by decide +kernel), List.mem_of_getElem? (i := 351) (by decide +kernel), List.mem_of_getElem? (i := 352) (by decide +kernel)⟩
theorem lw_p5 : lw_okq (⟨"SignalBook$Tokens", "kindOfWord", "(J)I"⟩, 5) := ⟨⟨by decide +kernel, by decide +kernel⟩, List.mem_of_getElem? (i := 32) (by decide +kernel), List.mem_of_getElem? (i := 355) (by decide +kernel), List.mem_of_getElem? (i := 356) (by decide +kernel)⟩
theorem lw_p6 : lw_okq (⟨"SignalBook$Reader", "pass", "(ZI)Z"⟩, 12) := ⟨⟨by decide +kernel, by decide +kernel⟩, List.mem_of_getElem? (i := 123) (by decide +kernel), List.mem_of_getElem? (i := 470) (by decide +kernel), List.mem_of_getElem? (i := 471) (by decide +kernel)⟩
theorem lw_p7 : lw_okq (⟨"SignalBook$Reader", "readHead", "()Z"⟩, 12) := ⟨⟨by decide +kernel, by decide +kernel⟩, List.mem_of_getElem? (i := 123) (by decide +kernel), List.mem_of_getElem? (i := 475) (by decide +kernel), List.mem_of_getElem? (i := 476) (by decide +kernel)⟩
theorem lw_p8 : lw_okq (⟨"SignalBook$Reader", "acceptNew", "(ZZ)Z"⟩, 12) := ⟨⟨by decide +kernel, by decide +kernel⟩, List.mem_of_getElem? (i := 123) (by decide +kernel), List.mem_of_getElem? (i := 483) (by decide +kernel), List.mem_of_getElem? (i := 484) (by decide +kernel)⟩
theorem lw_p9 : lw_okq (⟨"SignalBook$Reader", "accept", "(I)Z"⟩, 12) := ⟨⟨by decide +kernel, by decide +kernel⟩, List.mem_of_getElem? (i := 123) (by decide +kernel), List.mem_of_getElem? (i := 592) (by decide +kernel), List.mem_of_getElem? (i := 593) (by decide +kernel)⟩
theorem lw_p10 : lw_okq (⟨"SignalBook$Reader", "readConstants", "()Z"⟩, 12) := ⟨⟨by decide +kernel, by decide +kernel⟩, List.mem_of_getElem? (i := 123) (by decide +kernel), List.mem_of_getElem? (i := 596) (by decide +kernel), List.mem_of_getElem? (i := 597) (by decide +kernel)⟩
theorem lw_p11 : lw_okq (⟨"SignalBook$Reader", "readConstant", "()Z"⟩, 12) := ⟨⟨by decide +kernel, by decide +kernel⟩, List.mem_of_getElem? (i := 123) (by decide +kernel), List.mem_of_getElem? (i := 600) (by decide +kernel), List.mem_of_getElem? (i := 601) (by decide +kernel)⟩
theorem lw_p12 : lw_okq (⟨"SignalBook$Enumeration", "findSwitch", "(J)I"⟩, 17) := ⟨⟨by decide +kernel, by decide +kernel⟩, List.mem_of_getElem? (i := 487) (by decide +kernel), List.mem_of_getElem? (i := 620) (by decide +kernel), List.mem_of_getElem? (i := 621) (by decide +kernel)⟩
theorem lw_p13 : lw_okq (⟨"SignalBook$Reader", "readSum", "(I)Z"⟩, 12) := ⟨⟨by decide +kernel, by decide +kernel⟩, List.mem_of_getElem? (i := 123) (by decide +kernel), List.mem_of_getElem? (i := 652) (by decide +kernel), List.mem_of_getElem? (i := 653) (by decide +kernel)⟩
theorem lw_p14 : lw_okq (⟨"SignalBook$Reader", "readFactor", "(I)Z"⟩, 12) := ⟨⟨by decide +kernel, by decide +kernel⟩, List.mem_of_getElem? (i := 123) (by decide +kernel), List.mem_of_getElem? (i := 656) (by decide +kernel), List.mem_of_getElem? (i := 657) (by decide +kernel)⟩
theorem lw_p15 : lw_okq (⟨"SignalBook$Reader", "readReference", "(I)Z"⟩, 12) := ⟨⟨by decide +kernel, by decide +kernel⟩, List.mem_of_getElem? (i := 123) (by decide +kernel), List.mem_of_getElem? (i := 664) (by decide +kernel), List.mem_of_getElem? (i := 665) (by decide +kernel)⟩
def lw_privs_1 : List (MethodName × Nat) := [(⟨"SignalBook", "putByte", "(I)V"⟩, 16), (⟨"SignalBook$Tokens", "keepRow", "([BII)V"⟩, 5), (⟨"SignalBook$Tokens", "keepNumber", "([BII)V"⟩, 5), (⟨"SignalBook$Tokens", "keep", "(IIJ)V"⟩, 5), (⟨"SignalBook$Tokens", "keepWord", "([BII)V"⟩, 5), (⟨"SignalBook$Tokens", "kindOfWord", "(J)I"⟩, 5), (⟨"SignalBook$Reader", "pass", "(ZI)Z"⟩, 12), (⟨"SignalBook$Reader", "readHead", "()Z"⟩, 12), (⟨"SignalBook$Reader", "acceptNew", "(ZZ)Z"⟩, 12), (⟨"SignalBook$Reader", "accept", "(I)Z"⟩, 12), (⟨"SignalBook$Reader", "readConstants", "()Z"⟩, 12), (⟨"SignalBook$Reader", "readConstant", "()Z"⟩, 12), (⟨"SignalBook$Enumeration", "findSwitch", "(J)I"⟩, 17), (⟨"SignalBook$Reader", "readSum", "(I)Z"⟩, 12), (⟨"SignalBook$Reader", "readFactor", "(I)Z"⟩, 12), (⟨"SignalBook$Reader", "readReference", "(I)Z"⟩, 12)]
theorem lw_r1 : ∀ q ∈ lw_privs_1, lw_okq q := List.forall_mem_cons.mpr ⟨lw_p0, List.forall_mem_cons.mpr ⟨lw_p1, List.forall_mem_cons.mpr ⟨lw_p2, List.forall_mem_cons.mpr ⟨lw_p3, List.forall_mem_cons.mpr ⟨lw_p4, List.forall_mem_cons.mpr ⟨lw_p5, List.forall_mem_cons.mpr ⟨lw_p6, List.forall_mem_cons.mpr ⟨lw_p7, List.forall_mem_cons.mpr ⟨lw_p8, List.forall_mem_cons.mpr ⟨lw_p9, List.forall_mem_cons.mpr ⟨lw_p10, List.forall_mem_cons.mpr ⟨lw_p11, List.forall_mem_cons.mpr ⟨lw_p12, List.forall_mem_cons.mpr ⟨lw_p13, List.forall_mem_cons.mpr ⟨lw_p14, List.forall_mem_cons.mpr ⟨lw_p15, fun _ h => absurd h List.not_mem_nil⟩⟩⟩⟩⟩⟩⟩⟩⟩⟩⟩⟩⟩⟩⟩⟩
theorem lw_p16 : lw_okq (⟨"SignalBook$Reader", "readAct", "([II)Z"⟩, 12) := ⟨⟨by decide +kernel, by decide +kernel⟩, List.mem_of_getElem? (i := 123) (by decide +kernel), List.mem_of_getElem? (i := 674) (by decide +kernel), List.mem_of_getElem? (i := 675) (by decide +kernel)⟩
theorem lw_p17 : lw_okq (⟨"SignalBook$Reader", "findAct", "(J)I"⟩, 12) := ⟨⟨by decide +kernel, by decide +kernel⟩, List.mem_of_getElem? (i := 123) (by decide +kernel), List.mem_of_getElem? (i := 678) (by decide +kernel), List.mem_of_getElem? (i := 679) (by decide +kernel)⟩
theorem lw_p18 : lw_okq (⟨"SignalBook$Reader", "readMembers", "()Z"⟩, 12) := ⟨⟨by decide +kernel, by decide +kernel⟩, List.mem_of_getElem? (i := 123) (by decide +kernel), List.mem_of_getElem? (i := 682) (by decide +kernel), List.mem_of_getElem? (i := 683) (by decide +kernel)⟩
theorem lw_p19 : lw_okq (⟨"SignalBook$Reader", "readTable", "()Z"⟩, 12) := ⟨⟨by decide +kernel, by decide +kernel⟩, List.mem_of_getElem? (i := 123) (by decide +kernel), List.mem_of_getElem? (i := 686) (by decide +kernel), List.mem_of_getElem? (i := 687) (by decide +kernel)⟩
theorem lw_p20 : lw_okq (⟨"SignalBook$Reader", "acceptMember", "(Z)Z"⟩, 12) := ⟨⟨by decide +kernel, by decide +kernel⟩, List.mem_of_getElem? (i := 123) (by decide +kernel), List.mem_of_getElem? (i := 690) (by decide +kernel), List.mem_of_getElem? (i := 691) (by decide +kernel)⟩
theorem lw_p21 : lw_okq (⟨"SignalBook$Reader", "readEntries", "(LSignalBook$Table;)Z"⟩, 12) := ⟨⟨by decide +kernel, by decide +kernel⟩, List.mem_of_getElem? (i := 123) (by decide +kernel), List.mem_of_getElem? (i := 723) (by decide +kernel), List.mem_of_getElem? (i := 724) (by decide +kernel)⟩
theorem lw_p22 : lw_okq (⟨"SignalBook$Reader", "beginsPlainExpr", "()Z"⟩, 12) := ⟨⟨by decide +kernel, by decide +kernel⟩, List.mem_of_getElem? (i := 123) (by decide +kernel), List.mem_of_getElem? (i := 727) (by decide +kernel), List.mem_of_getElem? (i := 728) (by decide +kernel)⟩
theorem lw_p23 : lw_okq (⟨"SignalBook$Reader", "readCheck", "()Z"⟩, 12) := ⟨⟨by decide +kernel, by decide +kernel⟩, List.mem_of_getElem? (i := 123) (by decide +kernel), List.mem_of_getElem? (i := 731) (by decide +kernel), List.mem_of_getElem? (i := 732) (by decide +kernel)⟩
theorem lw_p24 : lw_okq (⟨"SignalBook$Reader", "readHolder", "()Z"⟩, 12) := ⟨⟨by decide +kernel, by decide +kernel⟩, List.mem_of_getElem? (i := 123) (by decide +kernel), List.mem_of_getElem? (i := 735) (by decide +kernel), List.mem_of_getElem? (i := 736) (by decide +kernel)⟩
theorem lw_p25 : lw_okq (⟨"SignalBook$Reader", "readSwitch", "()Z"⟩, 12) := ⟨⟨by decide +kernel, by decide +kernel⟩, List.mem_of_getElem? (i := 123) (by decide +kernel), List.mem_of_getElem? (i := 739) (by decide +kernel), List.mem_of_getElem? (i := 740) (by decide +kernel)⟩
theorem lw_p26 : lw_okq (⟨"SignalBook$Reader", "readCase", "(LSignalBook$Switch;)Z"⟩, 12) := ⟨⟨by decide +kernel, by decide +kernel⟩, List.mem_of_getElem? (i := 123) (by decide +kernel), List.mem_of_getElem? (i := 772) (by decide +kernel), List.mem_of_getElem? (i := 773) (by decide +kernel)⟩
theorem lw_p27 : lw_okq (⟨"SignalBook$Book", "linkStep", "(IILSignalBook$Tokens;)I"⟩, 10) := ⟨⟨by decide +kernel, by decide +kernel⟩, List.mem_of_getElem? (i := 421) (by decide +kernel), List.mem_of_getElem? (i := 799) (by decide +kernel), List.mem_of_getElem? (i := 800) (by decide +kernel)⟩
theorem lw_p28 : lw_okq (⟨"SignalBook$Book", "relink", "(III)I"⟩, 10) := ⟨⟨by decide +kernel, by decide +kernel⟩, List.mem_of_getElem? (i := 421) (by decide +kernel), List.mem_of_getElem? (i := 803) (by decide +kernel), List.mem_of_getElem? (i := 804) (by decide +kernel)⟩
theorem lw_p29 : lw_okq (⟨"SignalBook$Book", "linkTo", "(IIJ)Z"⟩, 10) := ⟨⟨by decide +kernel, by decide +kernel⟩, List.mem_of_getElem? (i := 421) (by decide +kernel), List.mem_of_getElem? (i := 808) (by decide +kernel), List.mem_of_getElem? (i := 809) (by decide +kernel)⟩
theorem lw_p30 : lw_okq (⟨"SignalBook", "bookAt", "(I)LSignalBook$Book;"⟩, 16) := ⟨⟨by decide +kernel, by decide +kernel⟩, List.mem_of_getElem? (i := 24) (by decide +kernel), List.mem_of_getElem? (i := 823) (by decide +kernel), List.mem_of_getElem? (i := 824) (by decide +kernel)⟩
theorem lw_p31 : lw_okq (⟨"SignalBook", "enumOf", "(II)LSignalBook$Enumeration;"⟩, 16) := ⟨⟨by decide +kernel, by decide +kernel⟩, List.mem_of_getElem? (i := 24) (by decide +kernel), List.mem_of_getElem? (i := 831) (by decide +kernel), List.mem_of_getElem? (i := 832) (by decide +kernel)⟩
def lw_privs_2 : List (MethodName × Nat) := [(⟨"SignalBook$Reader", "readAct", "([II)Z"⟩, 12), (⟨"SignalBook$Reader", "findAct", "(J)I"⟩, 12), (⟨"SignalBook$Reader", "readMembers", "()Z"⟩, 12), (⟨"SignalBook$Reader", "readTable", "()Z"⟩, 12), (⟨"SignalBook$Reader", "acceptMember", "(Z)Z"⟩, 12), (⟨"SignalBook$Reader", "readEntries", "(LSignalBook$Table;)Z"⟩, 12), (⟨"SignalBook$Reader", "beginsPlainExpr", "()Z"⟩, 12), (⟨"SignalBook$Reader", "readCheck", "()Z"⟩, 12), (⟨"SignalBook$Reader", "readHolder", "()Z"⟩, 12), (⟨"SignalBook$Reader", "readSwitch", "()Z"⟩, 12), (⟨"SignalBook$Reader", "readCase", "(LSignalBook$Switch;)Z"⟩, 12), (⟨"SignalBook$Book", "linkStep", "(IILSignalBook$Tokens;)I"⟩, 10), (⟨"SignalBook$Book", "relink", "(III)I"⟩, 10), (⟨"SignalBook$Book", "linkTo", "(IIJ)Z"⟩, 10), (⟨"SignalBook", "bookAt", "(I)LSignalBook$Book;"⟩, 16), (⟨"SignalBook", "enumOf", "(II)LSignalBook$Enumeration;"⟩, 16)]
theorem lw_r2 : ∀ q ∈ lw_privs_2, lw_okq q := List.forall_mem_cons.mpr ⟨lw_p16, List.forall_mem_cons.mpr ⟨lw_p17, List.forall_mem_cons.mpr ⟨lw_p18, List.forall_mem_cons.mpr ⟨lw_p19, List.forall_mem_cons.mpr ⟨lw_p20, List.forall_mem_cons.mpr ⟨lw_p21, List.forall_mem_cons.mpr ⟨lw_p22, List.forall_mem_cons.mpr ⟨lw_p23, List.forall_mem_cons.mpr ⟨lw_p24, List.forall_mem_cons.mpr ⟨lw_p25, List.forall_mem_cons.mpr ⟨lw_p26, List.forall_mem_cons.mpr ⟨lw_p27, List.forall_mem_cons.mpr ⟨lw_p28, List.forall_mem_cons.mpr ⟨lw_p29, List.forall_mem_cons.mpr ⟨lw_p30, List.forall_mem_cons.mpr ⟨lw_p31, fun _ h => absurd h List.not_mem_nil⟩⟩⟩⟩⟩⟩⟩⟩⟩⟩⟩⟩⟩⟩⟩⟩
theorem lw_p32 : lw_okq (⟨"SignalBook", "hasAct", "(II)Z"⟩, 16) := ⟨⟨by decide +kernel, by decide +kernel⟩, List.mem_of_getElem? (i := 24) (by decide +kernel), List.mem_of_getElem? (i := 884) (by decide +kernel), List.mem_of_getElem? (i := 885) (by decide +kernel)⟩
theorem lw_p33 : lw_okq (⟨"SignalBook", "usedWell", "(II)Z"⟩, 16) := ⟨⟨by decide +kernel, by decide +kernel⟩, List.mem_of_getElem? (i := 24) (by decide +kernel), List.mem_of_getElem? (i := 892) (by decide +kernel), List.mem_of_getElem? (i := 893) (by decide +kernel)⟩
theorem lw_p34 : lw_okq (⟨"SignalBook$Worker", "useItem", "(I)V"⟩, 11) := ⟨⟨by decide +kernel, by decide +kernel⟩, List.mem_of_getElem? (i := 194) (by decide +kernel), List.mem_of_getElem? (i := 900) (by decide +kernel), List.mem_of_getElem? (i := 901) (by decide +kernel)⟩
theorem lw_p35 : lw_okq (⟨"SignalBook$Worker", "fail", "(II)V"⟩, 11) := ⟨⟨by decide +kernel, by decide +kernel⟩, List.mem_of_getElem? (i := 194) (by decide +kernel), List.mem_of_getElem? (i := 905) (by decide +kernel), List.mem_of_getElem? (i := 906) (by decide +kernel)⟩
theorem lw_p36 : lw_okq (⟨"SignalBook$Worker", "startItem", "(I)V"⟩, 11) := ⟨⟨by decide +kernel, by decide +kernel⟩, List.mem_of_getElem? (i := 194) (by decide +kernel), List.mem_of_getElem? (i := 909) (by decide +kernel), List.mem_of_getElem? (i := 910) (by decide +kernel)⟩
theorem lw_p37 : lw_okq (⟨"SignalBook$Worker", "fillHolder", "(LSignalBook$Enumeration;I)V"⟩, 11) := ⟨⟨by decide +kernel, by decide +kernel⟩, List.mem_of_getElem? (i := 194) (by decide +kernel), List.mem_of_getElem? (i := 925) (by decide +kernel), List.mem_of_getElem? (i := 926) (by decide +kernel)⟩
theorem lw_p38 : lw_okq (⟨"SignalBook$Worker", "workOut", "(ILSignalBook$Enumeration;II)I"⟩, 11) := ⟨⟨by decide +kernel, by decide +kernel⟩, List.mem_of_getElem? (i := 194) (by decide +kernel), List.mem_of_getElem? (i := 929) (by decide +kernel), List.mem_of_getElem? (i := 930) (by decide +kernel)⟩
theorem lw_p39 : lw_okq (⟨"SignalBook$Worker", "takeStep", "(IILSignalBook$Enumeration;II)V"⟩, 11) := ⟨⟨by decide +kernel, by decide +kernel⟩, List.mem_of_getElem? (i := 194) (by decide +kernel), List.mem_of_getElem? (i := 934) (by decide +kernel), List.mem_of_getElem? (i := 935) (by decide +kernel)⟩
theorem lw_p40 : lw_okq (⟨"SignalBook$Worker", "push", "(I)V"⟩, 11) := ⟨⟨by decide +kernel, by decide +kernel⟩, List.mem_of_getElem? (i := 194) (by decide +kernel), List.mem_of_getElem? (i := 938) (by decide +kernel), List.mem_of_getElem? (i := 939) (by decide +kernel)⟩
theorem lw_p41 : lw_okq (⟨"SignalBook$Worker", "workOutAbove", "(LSignalBook$Enumeration;II)I"⟩, 11) := ⟨⟨by decide +kernel, by decide +kernel⟩, List.mem_of_getElem? (i := 194) (by decide +kernel), List.mem_of_getElem? (i := 946) (by decide +kernel), List.mem_of_getElem? (i := 947) (by decide +kernel)⟩
theorem lw_p42 : lw_okq (⟨"SignalBook$Worker", "performShared", "(LSignalBook$Enumeration;II)I"⟩, 11) := ⟨⟨by decide +kernel, by decide +kernel⟩, List.mem_of_getElem? (i := 194) (by decide +kernel), List.mem_of_getElem? (i := 950) (by decide +kernel), List.mem_of_getElem? (i := 951) (by decide +kernel)⟩
theorem lw_p43 : lw_okq (⟨"SignalBook$Worker", "readConstant", "(II)I"⟩, 11) := ⟨⟨by decide +kernel, by decide +kernel⟩, List.mem_of_getElem? (i := 194) (by decide +kernel), List.mem_of_getElem? (i := 954) (by decide +kernel), List.mem_of_getElem? (i := 955) (by decide +kernel)⟩
theorem lw_p44 : lw_okq (⟨"SignalBook$Worker", "see", "(II)I"⟩, 11) := ⟨⟨by decide +kernel, by decide +kernel⟩, List.mem_of_getElem? (i := 194) (by decide +kernel), List.mem_of_getElem? (i := 958) (by decide +kernel), List.mem_of_getElem? (i := 959) (by decide +kernel)⟩
theorem lw_p45 : lw_okq (⟨"SignalBook$Worker", "readHolder", "(I)I"⟩, 11) := ⟨⟨by decide +kernel, by decide +kernel⟩, List.mem_of_getElem? (i := 194) (by decide +kernel), List.mem_of_getElem? (i := 966) (by decide +kernel), List.mem_of_getElem? (i := 967) (by decide +kernel)⟩
theorem lw_p46 : lw_okq (⟨"SignalBook$Worker", "pop", "()I"⟩, 11) := ⟨⟨by decide +kernel, by decide +kernel⟩, List.mem_of_getElem? (i := 194) (by decide +kernel), List.mem_of_getElem? (i := 970) (by decide +kernel), List.mem_of_getElem? (i := 971) (by decide +kernel)⟩
theorem lw_p47 : lw_okq (⟨"SignalBook$Worker", "readEntry", "(III)I"⟩, 11) := ⟨⟨by decide +kernel, by decide +kernel⟩, List.mem_of_getElem? (i := 194) (by decide +kernel), List.mem_of_getElem? (i := 974) (by decide +kernel), List.mem_of_getElem? (i := 975) (by decide +kernel)⟩
def lw_privs_3 : List (MethodName × Nat) := [(⟨"SignalBook", "hasAct", "(II)Z"⟩, 16), (⟨"SignalBook", "usedWell", "(II)Z"⟩, 16), (⟨"SignalBook$Worker", "useItem", "(I)V"⟩, 11), (⟨"SignalBook$Worker", "fail", "(II)V"⟩, 11), (⟨"SignalBook$Worker", "startItem", "(I)V"⟩, 11), (⟨"SignalBook$Worker", "fillHolder", "(LSignalBook$Enumeration;I)V"⟩, 11), (⟨"SignalBook$Worker", "workOut", "(ILSignalBook$Enumeration;II)I"⟩, 11), (⟨"SignalBook$Worker", "takeStep", "(IILSignalBook$Enumeration;II)V"⟩, 11), (⟨"SignalBook$Worker", "push", "(I)V"⟩, 11), (⟨"SignalBook$Worker", "workOutAbove", "(LSignalBook$Enumeration;II)I"⟩, 11), (⟨"SignalBook$Worker", "performShared", "(LSignalBook$Enumeration;II)I"⟩, 11), (⟨"SignalBook$Worker", "readConstant", "(II)I"⟩, 11), (⟨"SignalBook$Worker", "see", "(II)I"⟩, 11), (⟨"SignalBook$Worker", "readHolder", "(I)I"⟩, 11), (⟨"SignalBook$Worker", "pop", "()I"⟩, 11), (⟨"SignalBook$Worker", "readEntry", "(III)I"⟩, 11)]
theorem lw_r3 : ∀ q ∈ lw_privs_3, lw_okq q := List.forall_mem_cons.mpr ⟨lw_p32, List.forall_mem_cons.mpr ⟨lw_p33, List.forall_mem_cons.mpr ⟨lw_p34, List.forall_mem_cons.mpr ⟨lw_p35, List.forall_mem_cons.mpr ⟨lw_p36, List.forall_mem_cons.mpr ⟨lw_p37, List.forall_mem_cons.mpr ⟨lw_p38, List.forall_mem_cons.mpr ⟨lw_p39, List.forall_mem_cons.mpr ⟨lw_p40, List.forall_mem_cons.mpr ⟨lw_p41, List.forall_mem_cons.mpr ⟨lw_p42, List.forall_mem_cons.mpr ⟨lw_p43, List.forall_mem_cons.mpr ⟨lw_p44, List.forall_mem_cons.mpr ⟨lw_p45, List.forall_mem_cons.mpr ⟨lw_p46, List.forall_mem_cons.mpr ⟨lw_p47, fun _ h => absurd h List.not_mem_nil⟩⟩⟩⟩⟩⟩⟩⟩⟩⟩⟩⟩⟩⟩⟩⟩
theorem lw_p48 : lw_okq (⟨"SignalBook$Worker", "combine", "(I)V"⟩, 11) := ⟨⟨by decide +kernel, by decide +kernel⟩, List.mem_of_getElem? (i := 194) (by decide +kernel), List.mem_of_getElem? (i := 982) (by decide +kernel), List.mem_of_getElem? (i := 983) (by decide +kernel)⟩
theorem lw_p49 : lw_okq (⟨"SignalBook$Worker", "makeEnum", "(LSignalBook$Enumeration;)V"⟩, 11) := ⟨⟨by decide +kernel, by decide +kernel⟩, List.mem_of_getElem? (i := 194) (by decide +kernel), List.mem_of_getElem? (i := 986) (by decide +kernel), List.mem_of_getElem? (i := 987) (by decide +kernel)⟩
theorem lw_p50 : lw_okq (⟨"SignalBook$Worker", "makeConstant", "(LSignalBook$Enumeration;I)V"⟩, 11) := ⟨⟨by decide +kernel, by decide +kernel⟩, List.mem_of_getElem? (i := 194) (by decide +kernel), List.mem_of_getElem? (i := 990) (by decide +kernel), List.mem_of_getElem? (i := 991) (by decide +kernel)⟩
theorem lw_p51 : lw_okq (⟨"SignalBook$Worker", "fillTable", "(LSignalBook$Enumeration;LSignalBook$Table;)V"⟩, 11) := ⟨⟨by decide +kernel, by decide +kernel⟩, List.mem_of_getElem? (i := 194) (by decide +kernel), List.mem_of_getElem? (i := 994) (by decide +kernel), List.mem_of_getElem? (i := 995) (by decide +kernel)⟩
theorem lw_p52 : lw_okq (⟨"SignalBook$Worker", "failAround", "(I)V"⟩, 11) := ⟨⟨by decide +kernel, by decide +kernel⟩, List.mem_of_getElem? (i := 194) (by decide +kernel), List.mem_of_getElem? (i := 998) (by decide +kernel), List.mem_of_getElem? (i := 999) (by decide +kernel)⟩
theorem lw_p53 : lw_okq (⟨"SignalBook", "giveOut", "(I)I"⟩, 16) := ⟨⟨by decide +kernel, by decide +kernel⟩, List.mem_of_getElem? (i := 24) (by decide +kernel), List.mem_of_getElem? (i := 1014) (by decide +kernel), List.mem_of_getElem? (i := 1015) (by decide +kernel)⟩
theorem lw_p54 : lw_okq (⟨"SignalBook", "keepSet", "(LSignalBook$Selection;)I"⟩, 16) := ⟨⟨by decide +kernel, by decide +kernel⟩, List.mem_of_getElem? (i := 24) (by decide +kernel), List.mem_of_getElem? (i := 1089) (by decide +kernel), List.mem_of_getElem? (i := 1090) (by decide +kernel)⟩
theorem lw_p55 : lw_okq (⟨"SignalBook", "setAt", "(I)LSignalBook$Selection;"⟩, 16) := ⟨⟨by decide +kernel, by decide +kernel⟩, List.mem_of_getElem? (i := 24) (by decide +kernel), List.mem_of_getElem? (i := 1097) (by decide +kernel), List.mem_of_getElem? (i := 1098) (by decide +kernel)⟩
theorem lw_p56 : lw_okq (⟨"SignalBook", "isConstant", "(LSignalBook$Selection;I)Z"⟩, 16) := ⟨⟨by decide +kernel, by decide +kernel⟩, List.mem_of_getElem? (i := 24) (by decide +kernel), List.mem_of_getElem? (i := 1101) (by decide +kernel), List.mem_of_getElem? (i := 1102) (by decide +kernel)⟩
theorem lw_p57 : lw_okq (⟨"SignalBook", "mapAt", "(I)LSignalBook$Selection;"⟩, 16) := ⟨⟨by decide +kernel, by decide +kernel⟩, List.mem_of_getElem? (i := 24) (by decide +kernel), List.mem_of_getElem? (i := 1150) (by decide +kernel), List.mem_of_getElem? (i := 1151) (by decide +kernel)⟩
theorem lw_p58 : lw_okq (⟨"SignalBook$Message", "keepSignal", "(LSignalBook$Book;J)Z"⟩, 5) := ⟨⟨by decide +kernel, by decide +kernel⟩, List.mem_of_getElem? (i := 240) (by decide +kernel), List.mem_of_getElem? (i := 1167) (by decide +kernel), List.mem_of_getElem? (i := 1168) (by decide +kernel)⟩
theorem lw_p59 : lw_okq (⟨"SignalBook", "messageAt", "(I)LSignalBook$Message;"⟩, 16) := ⟨⟨by decide +kernel, by decide +kernel⟩, List.mem_of_getElem? (i := 24) (by decide +kernel), List.mem_of_getElem? (i := 1177) (by decide +kernel), List.mem_of_getElem? (i := 1178) (by decide +kernel)⟩
theorem lw_p60 : lw_okq (⟨"SignalBook", "nameOf", "(LSignalBook$Message;I)J"⟩, 16) := ⟨⟨by decide +kernel, by decide +kernel⟩, List.mem_of_getElem? (i := 24) (by decide +kernel), List.mem_of_getElem? (i := 1185) (by decide +kernel), List.mem_of_getElem? (i := 1186) (by decide +kernel)⟩
theorem lw_p61 : lw_okq (⟨"SignalBook", "putName", "(J)V"⟩, 16) := ⟨⟨by decide +kernel, by decide +kernel⟩, List.mem_of_getElem? (i := 24) (by decide +kernel), List.mem_of_getElem? (i := 1189) (by decide +kernel), List.mem_of_getElem? (i := 1190) (by decide +kernel)⟩
theorem lw_p62 : lw_okq (⟨"SignalBook", "putNumber", "(I)V"⟩, 16) := ⟨⟨by decide +kernel, by decide +kernel⟩, List.mem_of_getElem? (i := 24) (by decide +kernel), List.mem_of_getElem? (i := 1193) (by decide +kernel), List.mem_of_getElem? (i := 1194) (by decide +kernel)⟩
theorem lw_p63 : lw_okq (⟨"SignalBookModel", "readBook", "()V"⟩, 84) := ⟨⟨by decide +kernel, by decide +kernel⟩, List.mem_of_getElem? (i := 1197) (by decide +kernel), List.mem_of_getElem? (i := 1467) (by decide +kernel), List.mem_of_getElem? (i := 1468) (by decide +kernel)⟩
def lw_privs_4 : List (MethodName × Nat) := [(⟨"SignalBook$Worker", "combine", "(I)V"⟩, 11), (⟨"SignalBook$Worker", "makeEnum", "(LSignalBook$Enumeration;)V"⟩, 11), (⟨"SignalBook$Worker", "makeConstant", "(LSignalBook$Enumeration;I)V"⟩, 11), (⟨"SignalBook$Worker", "fillTable", "(LSignalBook$Enumeration;LSignalBook$Table;)V"⟩, 11), (⟨"SignalBook$Worker", "failAround", "(I)V"⟩, 11), (⟨"SignalBook", "giveOut", "(I)I"⟩, 16), (⟨"SignalBook", "keepSet", "(LSignalBook$Selection;)I"⟩, 16), (⟨"SignalBook", "setAt", "(I)LSignalBook$Selection;"⟩, 16), (⟨"SignalBook", "isConstant", "(LSignalBook$Selection;I)Z"⟩, 16), (⟨"SignalBook", "mapAt", "(I)LSignalBook$Selection;"⟩, 16), (⟨"SignalBook$Message", "keepSignal", "(LSignalBook$Book;J)Z"⟩, 5), (⟨"SignalBook", "messageAt", "(I)LSignalBook$Message;"⟩, 16), (⟨"SignalBook", "nameOf", "(LSignalBook$Message;I)J"⟩, 16), (⟨"SignalBook", "putName", "(J)V"⟩, 16), (⟨"SignalBook", "putNumber", "(I)V"⟩, 16), (⟨"SignalBookModel", "readBook", "()V"⟩, 84)]
theorem lw_r4 : ∀ q ∈ lw_privs_4, lw_okq q := List.forall_mem_cons.mpr ⟨lw_p48, List.forall_mem_cons.mpr ⟨lw_p49, List.forall_mem_cons.mpr ⟨lw_p50, List.forall_mem_cons.mpr ⟨lw_p51, List.forall_mem_cons.mpr ⟨lw_p52, List.forall_mem_cons.mpr ⟨lw_p53, List.forall_mem_cons.mpr ⟨lw_p54, List.forall_mem_cons.mpr ⟨lw_p55, List.forall_mem_cons.mpr ⟨lw_p56, List.forall_mem_cons.mpr ⟨lw_p57, List.forall_mem_cons.mpr ⟨lw_p58, List.forall_mem_cons.mpr ⟨lw_p59, List.forall_mem_cons.mpr ⟨lw_p60, List.forall_mem_cons.mpr ⟨lw_p61, List.forall_mem_cons.mpr ⟨lw_p62, List.forall_mem_cons.mpr ⟨lw_p63, fun _ h => absurd h List.not_mem_nil⟩⟩⟩⟩⟩⟩⟩⟩⟩⟩⟩⟩⟩⟩⟩⟩
theorem lw_p64 : lw_okq (⟨"SignalBookModel", "next", "()V"⟩, 84) := ⟨⟨by decide +kernel, by decide +kernel⟩, List.mem_of_getElem? (i := 1197) (by decide +kernel), List.mem_of_getElem? (i := 1471) (by decide +kernel), List.mem_of_getElem? (i := 1472) (by decide +kernel)⟩
theorem lw_p65 : lw_okq (⟨"SignalBookModel", "at", "(I)I"⟩, 84) := ⟨⟨by decide +kernel, by decide +kernel⟩, List.mem_of_getElem? (i := 1197) (by decide +kernel), List.mem_of_getElem? (i := 1475) (by decide +kernel), List.mem_of_getElem? (i := 1476) (by decide +kernel)⟩
theorem lw_p66 : lw_okq (⟨"SignalBookModel", "readEnum", "()V"⟩, 84) := ⟨⟨by decide +kernel, by decide +kernel⟩, List.mem_of_getElem? (i := 1197) (by decide +kernel), List.mem_of_getElem? (i := 1487) (by decide +kernel), List.mem_of_getElem? (i := 1488) (by decide +kernel)⟩
theorem lw_p67 : lw_okq (⟨"SignalBookModel", "isWord", "(Ljava/lang/String;)Z"⟩, 84) := ⟨⟨by decide +kernel, by decide +kernel⟩, List.mem_of_getElem? (i := 1197) (by decide +kernel), List.mem_of_getElem? (i := 1492) (by decide +kernel), List.mem_of_getElem? (i := 1493) (by decide +kernel)⟩
theorem lw_p68 : lw_okq (⟨"SignalBookModel", "fault", "(I)I"⟩, 84) := ⟨⟨by decide +kernel, by decide +kernel⟩, List.mem_of_getElem? (i := 1197) (by decide +kernel), List.mem_of_getElem? (i := 1498) (by decide +kernel), List.mem_of_getElem? (i := 1499) (by decide +kernel)⟩
theorem lw_p69 : lw_okq (⟨"SignalBookModel", "isName", "()Z"⟩, 84) := ⟨⟨by decide +kernel, by decide +kernel⟩, List.mem_of_getElem? (i := 1197) (by decide +kernel), List.mem_of_getElem? (i := 1502) (by decide +kernel), List.mem_of_getElem? (i := 1503) (by decide +kernel)⟩
theorem lw_p70 : lw_okq (⟨"SignalBookModel", "isKeyword", "()Z"⟩, 84) := ⟨⟨by decide +kernel, by decide +kernel⟩, List.mem_of_getElem? (i := 1197) (by decide +kernel), List.mem_of_getElem? (i := 1506) (by decide +kernel), List.mem_of_getElem? (i := 1507) (by decide +kernel)⟩
theorem lw_p71 : lw_okq (⟨"SignalBookModel", "nameHere", "()I"⟩, 84) := ⟨⟨by decide +kernel, by decide +kernel⟩, List.mem_of_getElem? (i := 1197) (by decide +kernel), List.mem_of_getElem? (i := 1521) (by decide +kernel), List.mem_of_getElem? (i := 1522) (by decide +kernel)⟩
theorem lw_p72 : lw_okq (⟨"SignalBookModel", "enumOf", "(I)I"⟩, 84) := ⟨⟨by decide +kernel, by decide +kernel⟩, List.mem_of_getElem? (i := 1197) (by decide +kernel), List.mem_of_getElem? (i := 1525) (by decide +kernel), List.mem_of_getElem? (i := 1526) (by decide +kernel)⟩
theorem lw_p73 : lw_okq (⟨"SignalBookModel", "isSame", "(II)Z"⟩, 84) := ⟨⟨by decide +kernel, by decide +kernel⟩, List.mem_of_getElem? (i := 1197) (by decide +kernel), List.mem_of_getElem? (i := 1529) (by decide +kernel), List.mem_of_getElem? (i := 1530) (by decide +kernel)⟩
theorem lw_p74 : lw_okq (⟨"SignalBookModel", "newName", "(Z)I"⟩, 84) := ⟨⟨by decide +kernel, by decide +kernel⟩, List.mem_of_getElem? (i := 1197) (by decide +kernel), List.mem_of_getElem? (i := 1533) (by decide +kernel), List.mem_of_getElem? (i := 1534) (by decide +kernel)⟩
theorem lw_p75 : lw_okq (⟨"SignalBookModel", "sign", "(C)V"⟩, 84) := ⟨⟨by decide +kernel, by decide +kernel⟩, List.mem_of_getElem? (i := 1197) (by decide +kernel), List.mem_of_getElem? (i := 1537) (by decide +kernel), List.mem_of_getElem? (i := 1538) (by decide +kernel)⟩
theorem lw_p76 : lw_okq (⟨"SignalBookModel", "isSign", "(C)Z"⟩, 84) := ⟨⟨by decide +kernel, by decide +kernel⟩, List.mem_of_getElem? (i := 1197) (by decide +kernel), List.mem_of_getElem? (i := 1541) (by decide +kernel), List.mem_of_getElem? (i := 1542) (by decide +kernel)⟩
theorem lw_p77 : lw_okq (⟨"SignalBookModel", "readConstant", "()V"⟩, 84) := ⟨⟨by decide +kernel, by decide +kernel⟩, List.mem_of_getElem? (i := 1197) (by decide +kernel), List.mem_of_getElem? (i := 1545) (by decide +kernel), List.mem_of_getElem? (i := 1546) (by decide +kernel)⟩
theorem lw_p78 : lw_okq (⟨"SignalBookModel", "tells", "()Z"⟩, 84) := ⟨⟨by decide +kernel, by decide +kernel⟩, List.mem_of_getElem? (i := 1197) (by decide +kernel), List.mem_of_getElem? (i := 1549) (by decide +kernel), List.mem_of_getElem? (i := 1550) (by decide +kernel)⟩
theorem lw_p79 : lw_okq (⟨"SignalBookModel", "readExpr", "(ZZZ)I"⟩, 84) := ⟨⟨by decide +kernel, by decide +kernel⟩, List.mem_of_getElem? (i := 1197) (by decide +kernel), List.mem_of_getElem? (i := 1553) (by decide +kernel), List.mem_of_getElem? (i := 1554) (by decide +kernel)⟩
def lw_privs_5 : List (MethodName × Nat) := [(⟨"SignalBookModel", "next", "()V"⟩, 84), (⟨"SignalBookModel", "at", "(I)I"⟩, 84), (⟨"SignalBookModel", "readEnum", "()V"⟩, 84), (⟨"SignalBookModel", "isWord", "(Ljava/lang/String;)Z"⟩, 84), (⟨"SignalBookModel", "fault", "(I)I"⟩, 84), (⟨"SignalBookModel", "isName", "()Z"⟩, 84), (⟨"SignalBookModel", "isKeyword", "()Z"⟩, 84), (⟨"SignalBookModel", "nameHere", "()I"⟩, 84), (⟨"SignalBookModel", "enumOf", "(I)I"⟩, 84), (⟨"SignalBookModel", "isSame", "(II)Z"⟩, 84), (⟨"SignalBookModel", "newName", "(Z)I"⟩, 84), (⟨"SignalBookModel", "sign", "(C)V"⟩, 84), (⟨"SignalBookModel", "isSign", "(C)Z"⟩, 84), (⟨"SignalBookModel", "readConstant", "()V"⟩, 84), (⟨"SignalBookModel", "tells", "()Z"⟩, 84), (⟨"SignalBookModel", "readExpr", "(ZZZ)I"⟩, 84)]
theorem lw_r5 : ∀ q ∈ lw_privs_5, lw_okq q := List.forall_mem_cons.mpr ⟨lw_p64, List.forall_mem_cons.mpr ⟨lw_p65, List.forall_mem_cons.mpr ⟨lw_p66, List.forall_mem_cons.mpr ⟨lw_p67, List.forall_mem_cons.mpr ⟨lw_p68, List.forall_mem_cons.mpr ⟨lw_p69, List.forall_mem_cons.mpr ⟨lw_p70, List.forall_mem_cons.mpr ⟨lw_p71, List.forall_mem_cons.mpr ⟨lw_p72, List.forall_mem_cons.mpr ⟨lw_p73, List.forall_mem_cons.mpr ⟨lw_p74, List.forall_mem_cons.mpr ⟨lw_p75, List.forall_mem_cons.mpr ⟨lw_p76, List.forall_mem_cons.mpr ⟨lw_p77, List.forall_mem_cons.mpr ⟨lw_p78, List.forall_mem_cons.mpr ⟨lw_p79, fun _ h => absurd h List.not_mem_nil⟩⟩⟩⟩⟩⟩⟩⟩⟩⟩⟩⟩⟩⟩⟩⟩
theorem lw_p80 : lw_okq (⟨"SignalBookModel", "readSum", "()I"⟩, 84) := ⟨⟨by decide +kernel, by decide +kernel⟩, List.mem_of_getElem? (i := 1197) (by decide +kernel), List.mem_of_getElem? (i := 1557) (by decide +kernel), List.mem_of_getElem? (i := 1558) (by decide +kernel)⟩
theorem lw_p81 : lw_okq (⟨"SignalBookModel", "readTerm", "()I"⟩, 84) := ⟨⟨by decide +kernel, by decide +kernel⟩, List.mem_of_getElem? (i := 1197) (by decide +kernel), List.mem_of_getElem? (i := 1561) (by decide +kernel), List.mem_of_getElem? (i := 1562) (by decide +kernel)⟩
theorem lw_p82 : lw_okq (⟨"SignalBookModel", "readFactor", "()I"⟩, 84) := ⟨⟨by decide +kernel, by decide +kernel⟩, List.mem_of_getElem? (i := 1197) (by decide +kernel), List.mem_of_getElem? (i := 1565) (by decide +kernel), List.mem_of_getElem? (i := 1566) (by decide +kernel)⟩
theorem lw_p83 : lw_okq (⟨"SignalBookModel", "expression", "(III)I"⟩, 84) := ⟨⟨by decide +kernel, by decide +kernel⟩, List.mem_of_getElem? (i := 1197) (by decide +kernel), List.mem_of_getElem? (i := 1569) (by decide +kernel), List.mem_of_getElem? (i := 1570) (by decide +kernel)⟩
theorem lw_p84 : lw_okq (⟨"SignalBookModel", "taken", "(I)I"⟩, 84) := ⟨⟨by decide +kernel, by decide +kernel⟩, List.mem_of_getElem? (i := 1197) (by decide +kernel), List.mem_of_getElem? (i := 1576) (by decide +kernel), List.mem_of_getElem? (i := 1577) (by decide +kernel)⟩
theorem lw_p85 : lw_okq (⟨"SignalBookModel", "readReference", "()I"⟩, 84) := ⟨⟨by decide +kernel, by decide +kernel⟩, List.mem_of_getElem? (i := 1197) (by decide +kernel), List.mem_of_getElem? (i := 1580) (by decide +kernel), List.mem_of_getElem? (i := 1581) (by decide +kernel)⟩
theorem lw_p86 : lw_okq (⟨"SignalBookModel", "readAct", "(I)V"⟩, 84) := ⟨⟨by decide +kernel, by decide +kernel⟩, List.mem_of_getElem? (i := 1197) (by decide +kernel), List.mem_of_getElem? (i := 1584) (by decide +kernel), List.mem_of_getElem? (i := 1585) (by decide +kernel)⟩
theorem lw_p87 : lw_okq (⟨"SignalBookModel", "readMember", "()V"⟩, 84) := ⟨⟨by decide +kernel, by decide +kernel⟩, List.mem_of_getElem? (i := 1197) (by decide +kernel), List.mem_of_getElem? (i := 1588) (by decide +kernel), List.mem_of_getElem? (i := 1589) (by decide +kernel)⟩
theorem lw_p88 : lw_okq (⟨"SignalBookModel", "readTable", "()V"⟩, 84) := ⟨⟨by decide +kernel, by decide +kernel⟩, List.mem_of_getElem? (i := 1197) (by decide +kernel), List.mem_of_getElem? (i := 1592) (by decide +kernel), List.mem_of_getElem? (i := 1593) (by decide +kernel)⟩
theorem lw_p89 : lw_okq (⟨"SignalBookModel", "readEntry", "(I)V"⟩, 84) := ⟨⟨by decide +kernel, by decide +kernel⟩, List.mem_of_getElem? (i := 1197) (by decide +kernel), List.mem_of_getElem? (i := 1596) (by decide +kernel), List.mem_of_getElem? (i := 1597) (by decide +kernel)⟩
theorem lw_p90 : lw_okq (⟨"SignalBookModel", "beginsExpr", "()Z"⟩, 84) := ⟨⟨by decide +kernel, by decide +kernel⟩, List.mem_of_getElem? (i := 1197) (by decide +kernel), List.mem_of_getElem? (i := 1600) (by decide +kernel), List.mem_of_getElem? (i := 1601) (by decide +kernel)⟩
theorem lw_p91 : lw_okq (⟨"SignalBookModel", "readSwitch", "()V"⟩, 84) := ⟨⟨by decide +kernel, by decide +kernel⟩, List.mem_of_getElem? (i := 1197) (by decide +kernel), List.mem_of_getElem? (i := 1604) (by decide +kernel), List.mem_of_getElem? (i := 1605) (by decide +kernel)⟩
theorem lw_p92 : lw_okq (⟨"SignalBookModel", "readCase", "(I)V"⟩, 84) := ⟨⟨by decide +kernel, by decide +kernel⟩, List.mem_of_getElem? (i := 1197) (by decide +kernel), List.mem_of_getElem? (i := 1608) (by decide +kernel), List.mem_of_getElem? (i := 1609) (by decide +kernel)⟩
theorem lw_p93 : lw_okq (⟨"SignalBookModel", "settle", "(I)V"⟩, 84) := ⟨⟨by decide +kernel, by decide +kernel⟩, List.mem_of_getElem? (i := 1197) (by decide +kernel), List.mem_of_getElem? (i := 1612) (by decide +kernel), List.mem_of_getElem? (i := 1613) (by decide +kernel)⟩
theorem lw_p94 : lw_okq (⟨"SignalBookModel", "lacks", "(I)V"⟩, 84) := ⟨⟨by decide +kernel, by decide +kernel⟩, List.mem_of_getElem? (i := 1197) (by decide +kernel), List.mem_of_getElem? (i := 1616) (by decide +kernel), List.mem_of_getElem? (i := 1617) (by decide +kernel)⟩
theorem lw_p95 : lw_okq (⟨"SignalBookModel", "among", "([IIII)I"⟩, 84) := ⟨⟨by decide +kernel, by decide +kernel⟩, List.mem_of_getElem? (i := 1197) (by decide +kernel), List.mem_of_getElem? (i := 1620) (by decide +kernel), List.mem_of_getElem? (i := 1621) (by decide +kernel)⟩
def lw_privs_6 : List (MethodName × Nat) := [(⟨"SignalBookModel", "readSum", "()I"⟩, 84), (⟨"SignalBookModel", "readTerm", "()I"⟩, 84), (⟨"SignalBookModel", "readFactor", "()I"⟩, 84), (⟨"SignalBookModel", "expression", "(III)I"⟩, 84), (⟨"SignalBookModel", "taken", "(I)I"⟩, 84), (⟨"SignalBookModel", "readReference", "()I"⟩, 84), (⟨"SignalBookModel", "readAct", "(I)V"⟩, 84), (⟨"SignalBookModel", "readMember", "()V"⟩, 84), (⟨"SignalBookModel", "readTable", "()V"⟩, 84), (⟨"SignalBookModel", "readEntry", "(I)V"⟩, 84), (⟨"SignalBookModel", "beginsExpr", "()Z"⟩, 84), (⟨"SignalBookModel", "readSwitch", "()V"⟩, 84), (⟨"SignalBookModel", "readCase", "(I)V"⟩, 84), (⟨"SignalBookModel", "settle", "(I)V"⟩, 84), (⟨"SignalBookModel", "lacks", "(I)V"⟩, 84), (⟨"SignalBookModel", "among", "([IIII)I"⟩, 84)]
theorem lw_r6 : ∀ q ∈ lw_privs_6, lw_okq q := List.forall_mem_cons.mpr ⟨lw_p80, List.forall_mem_cons.mpr ⟨lw_p81, List.forall_mem_cons.mpr ⟨lw_p82, List.forall_mem_cons.mpr ⟨lw_p83, List.forall_mem_cons.mpr ⟨lw_p84, List.forall_mem_cons.mpr ⟨lw_p85, List.forall_mem_cons.mpr ⟨lw_p86, List.forall_mem_cons.mpr ⟨lw_p87, List.forall_mem_cons.mpr ⟨lw_p88, List.forall_mem_cons.mpr ⟨lw_p89, List.forall_mem_cons.mpr ⟨lw_p90, List.forall_mem_cons.mpr ⟨lw_p91, List.forall_mem_cons.mpr ⟨lw_p92, List.forall_mem_cons.mpr ⟨lw_p93, List.forall_mem_cons.mpr ⟨lw_p94, List.forall_mem_cons.mpr ⟨lw_p95, fun _ h => absurd h List.not_mem_nil⟩⟩⟩⟩⟩⟩⟩⟩⟩⟩⟩⟩⟩⟩⟩⟩
theorem lw_p96 : lw_okq (⟨"SignalBookModel", "asleep", "(I)V"⟩, 84) := ⟨⟨by decide +kernel, by decide +kernel⟩, List.mem_of_getElem? (i := 1197) (by decide +kernel), List.mem_of_getElem? (i := 1624) (by decide +kernel), List.mem_of_getElem? (i := 1625) (by decide +kernel)⟩
theorem lw_p97 : lw_okq (⟨"SignalBookModel", "isEnum", "(II)Z"⟩, 84) := ⟨⟨by decide +kernel, by decide +kernel⟩, List.mem_of_getElem? (i := 1197) (by decide +kernel), List.mem_of_getElem? (i := 1640) (by decide +kernel), List.mem_of_getElem? (i := 1641) (by decide +kernel)⟩
theorem lw_p98 : lw_okq (⟨"SignalBookModel", "isItem", "(II)Z"⟩, 84) := ⟨⟨by decide +kernel, by decide +kernel⟩, List.mem_of_getElem? (i := 1197) (by decide +kernel), List.mem_of_getElem? (i := 1648) (by decide +kernel), List.mem_of_getElem? (i := 1649) (by decide +kernel)⟩
theorem lw_p99 : lw_okq (⟨"SignalBookModel", "isConstant", "(III)Z"⟩, 84) := ⟨⟨by decide +kernel, by decide +kernel⟩, List.mem_of_getElem? (i := 1197) (by decide +kernel), List.mem_of_getElem? (i := 1656) (by decide +kernel), List.mem_of_getElem? (i := 1657) (by decide +kernel)⟩
theorem lw_p100 : lw_okq (⟨"SignalBookModel", "uses", "(II)I"⟩, 84) := ⟨⟨by decide +kernel, by decide +kernel⟩, List.mem_of_getElem? (i := 1197) (by decide +kernel), List.mem_of_getElem? (i := 1668) (by decide +kernel), List.mem_of_getElem? (i := 1669) (by decide +kernel)⟩
theorem lw_p101 : lw_okq (⟨"SignalBookModel", "begin", "(I)V"⟩, 84) := ⟨⟨by decide +kernel, by decide +kernel⟩, List.mem_of_getElem? (i := 1197) (by decide +kernel), List.mem_of_getElem? (i := 1672) (by decide +kernel), List.mem_of_getElem? (i := 1673) (by decide +kernel)⟩
theorem lw_p102 : lw_okq (⟨"SignalBookModel", "use", "(I)V"⟩, 84) := ⟨⟨by decide +kernel, by decide +kernel⟩, List.mem_of_getElem? (i := 1197) (by decide +kernel), List.mem_of_getElem? (i := 1676) (by decide +kernel), List.mem_of_getElem? (i := 1677) (by decide +kernel)⟩
theorem lw_p103 : lw_okq (⟨"SignalBookModel", "failing", "(II)I"⟩, 84) := ⟨⟨by decide +kernel, by decide +kernel⟩, List.mem_of_getElem? (i := 1197) (by decide +kernel), List.mem_of_getElem? (i := 1680) (by decide +kernel), List.mem_of_getElem? (i := 1681) (by decide +kernel)⟩
theorem lw_p104 : lw_okq (⟨"SignalBookModel", "starts", "(I)V"⟩, 84) := ⟨⟨by decide +kernel, by decide +kernel⟩, List.mem_of_getElem? (i := 1197) (by decide +kernel), List.mem_of_getElem? (i := 1684) (by decide +kernel), List.mem_of_getElem? (i := 1685) (by decide +kernel)⟩
theorem lw_p105 : lw_okq (⟨"SignalBookModel", "startsEnum", "(I)V"⟩, 84) := ⟨⟨by decide +kernel, by decide +kernel⟩, List.mem_of_getElem? (i := 1197) (by decide +kernel), List.mem_of_getElem? (i := 1688) (by decide +kernel), List.mem_of_getElem? (i := 1689) (by decide +kernel)⟩
theorem lw_p106 : lw_okq (⟨"SignalBookModel", "value", "(III)I"⟩, 84) := ⟨⟨by decide +kernel, by decide +kernel⟩, List.mem_of_getElem? (i := 1197) (by decide +kernel), List.mem_of_getElem? (i := 1692) (by decide +kernel), List.mem_of_getElem? (i := 1693) (by decide +kernel)⟩
theorem lw_p107 : lw_okq (⟨"SignalBookModel", "sees", "(II)I"⟩, 84) := ⟨⟨by decide +kernel, by decide +kernel⟩, List.mem_of_getElem? (i := 1197) (by decide +kernel), List.mem_of_getElem? (i := 1696) (by decide +kernel), List.mem_of_getElem? (i := 1697) (by decide +kernel)⟩
theorem lw_p108 : lw_okq (⟨"SignalBookModel", "entryOf", "(III)I"⟩, 84) := ⟨⟨by decide +kernel, by decide +kernel⟩, List.mem_of_getElem? (i := 1197) (by decide +kernel), List.mem_of_getElem? (i := 1700) (by decide +kernel), List.mem_of_getElem? (i := 1701) (by decide +kernel)⟩
theorem lw_p109 : lw_okq (⟨"SignalBookModel", "both", "(III)I"⟩, 84) := ⟨⟨by decide +kernel, by decide +kernel⟩, List.mem_of_getElem? (i := 1197) (by decide +kernel), List.mem_of_getElem? (i := 1704) (by decide +kernel), List.mem_of_getElem? (i := 1705) (by decide +kernel)⟩
theorem lw_p110 : lw_okq (⟨"SignalBookModel", "joined", "(III)I"⟩, 84) := ⟨⟨by decide +kernel, by decide +kernel⟩, List.mem_of_getElem? (i := 1197) (by decide +kernel), List.mem_of_getElem? (i := 1708) (by decide +kernel), List.mem_of_getElem? (i := 1709) (by decide +kernel)⟩
theorem lw_p111 : lw_okq (⟨"SignalBookModel", "startsHolder", "(I)V"⟩, 84) := ⟨⟨by decide +kernel, by decide +kernel⟩, List.mem_of_getElem? (i := 1197) (by decide +kernel), List.mem_of_getElem? (i := 1712) (by decide +kernel), List.mem_of_getElem? (i := 1713) (by decide +kernel)⟩
def lw_privs_7 : List (MethodName × Nat) := [(⟨"SignalBookModel", "asleep", "(I)V"⟩, 84), (⟨"SignalBookModel", "isEnum", "(II)Z"⟩, 84), (⟨"SignalBookModel", "isItem", "(II)Z"⟩, 84), (⟨"SignalBookModel", "isConstant", "(III)Z"⟩, 84), (⟨"SignalBookModel", "uses", "(II)I"⟩, 84), (⟨"SignalBookModel", "begin", "(I)V"⟩, 84), (⟨"SignalBookModel", "use", "(I)V"⟩, 84), (⟨"SignalBookModel", "failing", "(II)I"⟩, 84), (⟨"SignalBookModel", "starts", "(I)V"⟩, 84), (⟨"SignalBookModel", "startsEnum", "(I)V"⟩, 84), (⟨"SignalBookModel", "value", "(III)I"⟩, 84), (⟨"SignalBookModel", "sees", "(II)I"⟩, 84), (⟨"SignalBookModel", "entryOf", "(III)I"⟩, 84), (⟨"SignalBookModel", "both", "(III)I"⟩, 84), (⟨"SignalBookModel", "joined", "(III)I"⟩, 84), (⟨"SignalBookModel", "startsHolder", "(I)V"⟩, 84)]
theorem lw_r7 : ∀ q ∈ lw_privs_7, lw_okq q := List.forall_mem_cons.mpr ⟨lw_p96, List.forall_mem_cons.mpr ⟨lw_p97, List.forall_mem_cons.mpr ⟨lw_p98, List.forall_mem_cons.mpr ⟨lw_p99, List.forall_mem_cons.mpr ⟨lw_p100, List.forall_mem_cons.mpr ⟨lw_p101, List.forall_mem_cons.mpr ⟨lw_p102, List.forall_mem_cons.mpr ⟨lw_p103, List.forall_mem_cons.mpr ⟨lw_p104, List.forall_mem_cons.mpr ⟨lw_p105, List.forall_mem_cons.mpr ⟨lw_p106, List.forall_mem_cons.mpr ⟨lw_p107, List.forall_mem_cons.mpr ⟨lw_p108, List.forall_mem_cons.mpr ⟨lw_p109, List.forall_mem_cons.mpr ⟨lw_p110, List.forall_mem_cons.mpr ⟨lw_p111, fun _ h => absurd h List.not_mem_nil⟩⟩⟩⟩⟩⟩⟩⟩⟩⟩⟩⟩⟩⟩⟩⟩
theorem lw_p112 : lw_okq (⟨"SignalBookModel", "ends", "(I)I"⟩, 84) := ⟨⟨by decide +kernel, by decide +kernel⟩, List.mem_of_getElem? (i := 1197) (by decide +kernel), List.mem_of_getElem? (i := 1720) (by decide +kernel), List.mem_of_getElem? (i := 1721) (by decide +kernel)⟩
theorem lw_p113 : lw_okq (⟨"SignalBookModel", "isIn", "(II)Z"⟩, 84) := ⟨⟨by decide +kernel, by decide +kernel⟩, List.mem_of_getElem? (i := 1197) (by decide +kernel), List.mem_of_getElem? (i := 1764) (by decide +kernel), List.mem_of_getElem? (i := 1765) (by decide +kernel)⟩
theorem lw_p114 : lw_okq (⟨"SignalBookModel", "isMapped", "(II)Z"⟩, 84) := ⟨⟨by decide +kernel, by decide +kernel⟩, List.mem_of_getElem? (i := 1197) (by decide +kernel), List.mem_of_getElem? (i := 1788) (by decide +kernel), List.mem_of_getElem? (i := 1789) (by decide +kernel)⟩
theorem lw_p115 : lw_okq (⟨"SignalBookModel", "constantHere", "(I)I"⟩, 84) := ⟨⟨by decide +kernel, by decide +kernel⟩, List.mem_of_getElem? (i := 1197) (by decide +kernel), List.mem_of_getElem? (i := 1800) (by decide +kernel), List.mem_of_getElem? (i := 1801) (by decide +kernel)⟩
theorem lw_p116 : lw_okq (⟨"SignalBookModel", "put", "(I)V"⟩, 84) := ⟨⟨by decide +kernel, by decide +kernel⟩, List.mem_of_getElem? (i := 1197) (by decide +kernel), List.mem_of_getElem? (i := 1812) (by decide +kernel), List.mem_of_getElem? (i := 1813) (by decide +kernel)⟩
def lw_privs_8 : List (MethodName × Nat) := [(⟨"SignalBookModel", "ends", "(I)I"⟩, 84), (⟨"SignalBookModel", "isIn", "(II)Z"⟩, 84), (⟨"SignalBookModel", "isMapped", "(II)Z"⟩, 84), (⟨"SignalBookModel", "constantHere", "(I)I"⟩, 84), (⟨"SignalBookModel", "put", "(I)V"⟩, 84)]
theorem lw_r8 : ∀ q ∈ lw_privs_8, lw_okq q := List.forall_mem_cons.mpr ⟨lw_p112, List.forall_mem_cons.mpr ⟨lw_p113, List.forall_mem_cons.mpr ⟨lw_p114, List.forall_mem_cons.mpr ⟨lw_p115, List.forall_mem_cons.mpr ⟨lw_p116, fun _ h => absurd h List.not_mem_nil⟩⟩⟩⟩⟩
def lw_privs : List (MethodName × Nat) := lw_privs_1 ++ (lw_privs_2 ++ (lw_privs_3 ++ (lw_privs_4 ++ (lw_privs_5 ++ (lw_privs_6 ++ (lw_privs_7 ++ (lw_privs_8)))))))
def lw_tbl : List Cond := k2_sels lw_privs ++ tables_1
theorem lw_privs_ok : ∀ q ∈ lw_privs, lw_okq q := by
  show ∀ q ∈ lw_privs_1 ++ (lw_privs_2 ++ (lw_privs_3 ++ (lw_privs_4 ++ (lw_privs_5 ++ (lw_privs_6 ++ (lw_privs_7 ++ (lw_privs_8))))))), lw_okq q
  exact List.forall_mem_append.mpr ⟨lw_r1, List.forall_mem_append.mpr ⟨lw_r2, List.forall_mem_append.mpr ⟨lw_r3, List.forall_mem_append.mpr ⟨lw_r4, List.forall_mem_append.mpr ⟨lw_r5, List.forall_mem_append.mpr ⟨lw_r6, List.forall_mem_append.mpr ⟨lw_r7, lw_r8⟩⟩⟩⟩⟩⟩⟩
def RX0 : String := "SignalBook$Book"
def TX0 : u_T := fun k => match k with
  | 0 => ("SignalBook$Book", "enums", "[LSignalBook$Enumeration;", true)
  | 1 => ("SignalBook$Book", "enumCount", "I", false)
  | 2 => ("SignalBook$Book", "actCount", "I", false)
  | 3 => ("SignalBook$Book", "code", "LSignalBook$Code;", false)
  | 4 => ("SignalBook$Book", "states", "[I", false)
  | 5 => ("SignalBook$Book", "starts", "[I", false)
  | 6 => ("SignalBook$Book", "startCount", "I", false)
  | 7 => ("SignalBook$Book", "seenBy", "[I", false)
  | 8 => ("SignalBook$Book", "seenOf", "[I", false)
  | _ => ("SignalBook$Book", "seenCount", "I", false)
def tyX0 : Nat → FieldType := fun k => match k with
  | 0 => .array (.object "SignalBook$Enumeration")
  | 1 => .int
  | 2 => .int
  | 3 => .object "SignalBook$Code"
  | 4 => .array .int
  | 5 => .array .int
  | 6 => .int
  | 7 => .array .int
  | 8 => .array .int
  | _ => .int
abbrev wsX00 : List Cond := u_ws RX0 TX0 10
theorem nmX0 : ∀ a, a < 10 → ∀ b, b < 10 → a ≠ b → (TX0 a).2.1 ≠ (TX0 b).2.1 := by decide +kernel
theorem tyX0_ok : ∀ k, k < 10 → parseFieldDescriptor (TX0 k).2.2.1 = some (tyX0 k) := by decide +kernel
abbrev cX0_init : ByteArray := prog_2_method_1_code
def yX0_init : MethodName := ⟨RX0, "<init>", "()V"⟩
abbrev cX0_keepEnum : ByteArray := prog_2_method_2_code
def yX0_keepEnum : MethodName := ⟨RX0, "keepEnum", "(LSignalBook$Enumeration;)V"⟩
abbrev cX0_settle : ByteArray := prog_2_method_3_code
def yX0_settle : MethodName := ⟨RX0, "settle", "(LSignalBook$Code;)V"⟩
abbrev cX0_enumAt : ByteArray := prog_2_method_4_code
def yX0_enumAt : MethodName := ⟨RX0, "enumAt", "(I)LSignalBook$Enumeration;"⟩
abbrev cX0_findEnum : ByteArray := prog_2_method_5_code
def yX0_findEnum : MethodName := ⟨RX0, "findEnum", "(J)I"⟩
abbrev cX0_isHolder : ByteArray := prog_2_method_6_code
def yX0_isHolder : MethodName := ⟨RX0, "isHolder", "(I)Z"⟩
abbrev cX0_enumOfItem : ByteArray := prog_2_method_7_code
def yX0_enumOfItem : MethodName := ⟨RX0, "enumOfItem", "(I)I"⟩
abbrev cX0_holderOfItem : ByteArray := prog_2_method_8_code
def yX0_holderOfItem : MethodName := ⟨RX0, "holderOfItem", "(I)I"⟩
abbrev cX0_hasItem : ByteArray := prog_2_method_9_code
def yX0_hasItem : MethodName := ⟨RX0, "hasItem", "(I)Z"⟩
abbrev cX0_stateOf : ByteArray := prog_2_method_10_code
def yX0_stateOf : MethodName := ⟨RX0, "stateOf", "(I)I"⟩
abbrev cX0_setState : ByteArray := prog_2_method_11_code
def yX0_setState : MethodName := ⟨RX0, "setState", "(II)V"⟩
abbrev cX0_noteStart : ByteArray := prog_2_method_12_code
def yX0_noteStart : MethodName := ⟨RX0, "noteStart", "(I)V"⟩
abbrev cX0_noteSeen : ByteArray := prog_2_method_13_code
def yX0_noteSeen : MethodName := ⟨RX0, "noteSeen", "(II)V"⟩
abbrev cX0_linkNames : ByteArray := prog_2_method_14_code
def yX0_linkNames : MethodName := ⟨RX0, "linkNames", "(LSignalBook$Tokens;)I"⟩
abbrev cX0_linkStep : ByteArray := prog_2_method_15_code
def yX0_linkStep : MethodName := ⟨RX0, "linkStep", "(IILSignalBook$Tokens;)I"⟩
abbrev cX0_linkTo : ByteArray := prog_2_method_16_code
def yX0_linkTo : MethodName := ⟨RX0, "linkTo", "(IIJ)Z"⟩
abbrev cX0_relink : ByteArray := prog_2_method_17_code
def yX0_relink : MethodName := ⟨RX0, "relink", "(III)I"⟩
def RX1 : String := "SignalBook$Code"
def TX1 : u_T := fun k => match k with
  | 0 => ("SignalBook$Code", "ops", "[I", true)
  | 1 => ("SignalBook$Code", "args", "[I", true)
  | _ => ("SignalBook$Code", "length", "I", false)
def tyX1 : Nat → FieldType := fun k => match k with
  | 0 => .array .int
  | 1 => .array .int
  | _ => .int
abbrev wsX10 : List Cond := u_ws RX1 TX1 3
theorem nmX1 : ∀ a, a < 3 → ∀ b, b < 3 → a ≠ b → (TX1 a).2.1 ≠ (TX1 b).2.1 := by decide +kernel
theorem tyX1_ok : ∀ k, k < 3 → parseFieldDescriptor (TX1 k).2.2.1 = some (tyX1 k) := by decide +kernel
abbrev cX1_init : ByteArray := prog_3_method_1_code
def yX1_init : MethodName := ⟨RX1, "<init>", "(I)V"⟩
abbrev cX1_ofSum : ByteArray := prog_3_method_2_code
def yX1_ofSum : MethodName := ⟨RX1, "ofSum", "(I)I"⟩
abbrev cX1_ofProduct : ByteArray := prog_3_method_3_code
def yX1_ofProduct : MethodName := ⟨RX1, "ofProduct", "(I)I"⟩
abbrev cX1_emit : ByteArray := prog_3_method_4_code
def yX1_emit : MethodName := ⟨RX1, "emit", "(II)V"⟩
abbrev cX1_copy : ByteArray := prog_3_method_5_code
def yX1_copy : MethodName := ⟨RX1, "copy", "()LSignalBook$Code;"⟩
def RX2 : String := "SignalBook$Constant"
def TX2 : u_T := fun k => match k with
  | 0 => ("SignalBook$Constant", "name", "J", true)
  | 1 => ("SignalBook$Constant", "argumentCode", "I", false)
  | 2 => ("SignalBook$Constant", "argument", "I", false)
  | _ => ("SignalBook$Constant", "bodies", "[I", true)
def tyX2 : Nat → FieldType := fun k => match k with
  | 0 => .long
  | 1 => .int
  | 2 => .int
  | _ => .array .int
abbrev wsX20 : List Cond := u_ws RX2 TX2 4
theorem nmX2 : ∀ a, a < 4 → ∀ b, b < 4 → a ≠ b → (TX2 a).2.1 ≠ (TX2 b).2.1 := by decide +kernel
theorem tyX2_ok : ∀ k, k < 4 → parseFieldDescriptor (TX2 k).2.2.1 = some (tyX2 k) := by decide +kernel
abbrev cX2_init : ByteArray := prog_4_method_1_code
def yX2_init : MethodName := ⟨RX2, "<init>", "(J)V"⟩
def RX3 : String := "SignalBook$Enumeration"
def TX3 : u_T := fun k => match k with
  | 0 => ("SignalBook$Enumeration", "name", "J", true)
  | 1 => ("SignalBook$Enumeration", "firstCode", "I", false)
  | 2 => ("SignalBook$Enumeration", "endCode", "I", false)
  | 3 => ("SignalBook$Enumeration", "constants", "[LSignalBook$Constant;", true)
  | 4 => ("SignalBook$Enumeration", "constantCount", "I", false)
  | 5 => ("SignalBook$Enumeration", "made", "I", false)
  | 6 => ("SignalBook$Enumeration", "bodies", "[I", true)
  | 7 => ("SignalBook$Enumeration", "tables", "[LSignalBook$Table;", true)
  | 8 => ("SignalBook$Enumeration", "tableCount", "I", false)
  | 9 => ("SignalBook$Enumeration", "checkCodes", "[I", true)
  | 10 => ("SignalBook$Enumeration", "checkCount", "I", false)
  | 11 => ("SignalBook$Enumeration", "holderNames", "[J", true)
  | 12 => ("SignalBook$Enumeration", "holderCodes", "[I", true)
  | 13 => ("SignalBook$Enumeration", "holderValues", "[I", true)
  | 14 => ("SignalBook$Enumeration", "holderCount", "I", false)
  | 15 => ("SignalBook$Enumeration", "switches", "[LSignalBook$Switch;", true)
  | _ => ("SignalBook$Enumeration", "switchCount", "I", false)
def tyX3 : Nat → FieldType := fun k => match k with
  | 0 => .long
  | 1 => .int
  | 2 => .int
  | 3 => .array (.object "SignalBook$Constant")
  | 4 => .int
  | 5 => .int
  | 6 => .array .int
  | 7 => .array (.object "SignalBook$Table")
  | 8 => .int
  | 9 => .array .int
  | 10 => .int
  | 11 => .array .long
  | 12 => .array .int
  | 13 => .array .int
  | 14 => .int
  | 15 => .array (.object "SignalBook$Switch")
  | _ => .int
abbrev wsX30 : List Cond := u_ws RX3 TX3 17
theorem nmX3 : ∀ a, a < 17 → ∀ b, b < 17 → a ≠ b → (TX3 a).2.1 ≠ (TX3 b).2.1 := by decide +kernel
theorem tyX3_ok : ∀ k, k < 17 → parseFieldDescriptor (TX3 k).2.2.1 = some (tyX3 k) := by decide +kernel
abbrev cX3_init : ByteArray := prog_5_method_1_code
def yX3_init : MethodName := ⟨RX3, "<init>", "(J)V"⟩
abbrev cX3_constantAt : ByteArray := prog_5_method_2_code
def yX3_constantAt : MethodName := ⟨RX3, "constantAt", "(I)LSignalBook$Constant;"⟩
abbrev cX3_tableAt : ByteArray := prog_5_method_3_code
def yX3_tableAt : MethodName := ⟨RX3, "tableAt", "(I)LSignalBook$Table;"⟩
abbrev cX3_switchAt : ByteArray := prog_5_method_4_code
def yX3_switchAt : MethodName := ⟨RX3, "switchAt", "(I)LSignalBook$Switch;"⟩
abbrev cX3_findConstant : ByteArray := prog_5_method_5_code
def yX3_findConstant : MethodName := ⟨RX3, "findConstant", "(J)I"⟩
abbrev cX3_findTable : ByteArray := prog_5_method_6_code
def yX3_findTable : MethodName := ⟨RX3, "findTable", "(J)I"⟩
abbrev cX3_findHolder : ByteArray := prog_5_method_7_code
def yX3_findHolder : MethodName := ⟨RX3, "findHolder", "(J)I"⟩
abbrev cX3_findSwitch : ByteArray := prog_5_method_8_code
def yX3_findSwitch : MethodName := ⟨RX3, "findSwitch", "(J)I"⟩
abbrev cX3_knows : ByteArray := prog_5_method_9_code
def yX3_knows : MethodName := ⟨RX3, "knows", "(J)Z"⟩
def RX4 : String := "SignalBook$Message"
def TX4 : u_T := fun k => match k with
  | 0 => ("SignalBook$Message", "book", "I", false)
  | 1 => ("SignalBook$Message", "count", "I", false)
  | 2 => ("SignalBook$Message", "enums", "[I", true)
  | 3 => ("SignalBook$Message", "ordinals", "[I", true)
  | _ => ("SignalBook$Message", "added", "[I", true)
def tyX4 : Nat → FieldType := fun k => match k with
  | 0 => .int
  | 1 => .int
  | 2 => .array .int
  | 3 => .array .int
  | _ => .array .int
abbrev wsX40 : List Cond := u_ws RX4 TX4 5
theorem nmX4 : ∀ a, a < 5 → ∀ b, b < 5 → a ≠ b → (TX4 a).2.1 ≠ (TX4 b).2.1 := by decide +kernel
theorem tyX4_ok : ∀ k, k < 5 → parseFieldDescriptor (TX4 k).2.2.1 = some (tyX4 k) := by decide +kernel
abbrev cX4_init : ByteArray := prog_6_method_1_code
def yX4_init : MethodName := ⟨RX4, "<init>", "()V"⟩
abbrev cX4_readFrom : ByteArray := prog_6_method_2_code
def yX4_readFrom : MethodName := ⟨RX4, "readFrom", "(LSignalBook$Tokens;LSignalBook$Book;)I"⟩
abbrev cX4_keepSignal : ByteArray := prog_6_method_3_code
def yX4_keepSignal : MethodName := ⟨RX4, "keepSignal", "(LSignalBook$Book;J)Z"⟩
def RX5 : String := "SignalBook$Reader"
def TX5 : u_T := fun k => match k with
  | 0 => ("SignalBook$Reader", "tokens", "LSignalBook$Tokens;", true)
  | 1 => ("SignalBook$Reader", "code", "LSignalBook$Code;", true)
  | 2 => ("SignalBook$Reader", "acts", "[J", true)
  | 3 => ("SignalBook$Reader", "book", "LSignalBook$Book;", false)
  | 4 => ("SignalBook$Reader", "current", "LSignalBook$Enumeration;", false)
  | 5 => ("SignalBook$Reader", "setting", "I", false)
  | 6 => ("SignalBook$Reader", "at", "I", false)
  | 7 => ("SignalBook$Reader", "kind", "I", false)
  | 8 => ("SignalBook$Reader", "value", "J", false)
  | 9 => ("SignalBook$Reader", "newName", "J", false)
  | 10 => ("SignalBook$Reader", "fault", "I", false)
  | _ => ("SignalBook$Reader", "faultPlace", "I", false)
def tyX5 : Nat → FieldType := fun k => match k with
  | 0 => .object "SignalBook$Tokens"
  | 1 => .object "SignalBook$Code"
  | 2 => .array .long
  | 3 => .object "SignalBook$Book"
  | 4 => .object "SignalBook$Enumeration"
  | 5 => .int
  | 6 => .int
  | 7 => .int
  | 8 => .long
  | 9 => .long
  | 10 => .int
  | _ => .int
abbrev wsX50 : List Cond := u_ws RX5 TX5 12
theorem nmX5 : ∀ a, a < 12 → ∀ b, b < 12 → a ≠ b → (TX5 a).2.1 ≠ (TX5 b).2.1 := by decide +kernel
theorem tyX5_ok : ∀ k, k < 12 → parseFieldDescriptor (TX5 k).2.2.1 = some (tyX5 k) := by decide +kernel
abbrev cX5_init : ByteArray := prog_7_method_1_code
def yX5_init : MethodName := ⟨RX5, "<init>", "(LSignalBook$Tokens;)V"⟩
abbrev cX5_readBook : ByteArray := prog_7_method_2_code
def yX5_readBook : MethodName := ⟨RX5, "readBook", "()LSignalBook$Book;"⟩
abbrev cX5_readHead : ByteArray := prog_7_method_3_code
def yX5_readHead : MethodName := ⟨RX5, "readHead", "()Z"⟩
abbrev cX5_readConstants : ByteArray := prog_7_method_4_code
def yX5_readConstants : MethodName := ⟨RX5, "readConstants", "()Z"⟩
abbrev cX5_readConstant : ByteArray := prog_7_method_5_code
def yX5_readConstant : MethodName := ⟨RX5, "readConstant", "()Z"⟩
abbrev cX5_readAct : ByteArray := prog_7_method_6_code
def yX5_readAct : MethodName := ⟨RX5, "readAct", "([II)Z"⟩
abbrev cX5_findAct : ByteArray := prog_7_method_7_code
def yX5_findAct : MethodName := ⟨RX5, "findAct", "(J)I"⟩
abbrev cX5_readMembers : ByteArray := prog_7_method_8_code
def yX5_readMembers : MethodName := ⟨RX5, "readMembers", "()Z"⟩
abbrev cX5_readTable : ByteArray := prog_7_method_9_code
def yX5_readTable : MethodName := ⟨RX5, "readTable", "()Z"⟩
abbrev cX5_readEntries : ByteArray := prog_7_method_10_code
def yX5_readEntries : MethodName := ⟨RX5, "readEntries", "(LSignalBook$Table;)Z"⟩
abbrev cX5_beginsPlainExpr : ByteArray := prog_7_method_11_code
def yX5_beginsPlainExpr : MethodName := ⟨RX5, "beginsPlainExpr", "()Z"⟩
abbrev cX5_readCheck : ByteArray := prog_7_method_12_code
def yX5_readCheck : MethodName := ⟨RX5, "readCheck", "()Z"⟩
abbrev cX5_readHolder : ByteArray := prog_7_method_13_code
def yX5_readHolder : MethodName := ⟨RX5, "readHolder", "()Z"⟩
abbrev cX5_readSwitch : ByteArray := prog_7_method_14_code
def yX5_readSwitch : MethodName := ⟨RX5, "readSwitch", "()Z"⟩
abbrev cX5_readCase : ByteArray := prog_7_method_15_code
def yX5_readCase : MethodName := ⟨RX5, "readCase", "(LSignalBook$Switch;)Z"⟩
abbrev cX5_readSum : ByteArray := prog_7_method_16_code
def yX5_readSum : MethodName := ⟨RX5, "readSum", "(I)Z"⟩
abbrev cX5_readFactor : ByteArray := prog_7_method_17_code
def yX5_readFactor : MethodName := ⟨RX5, "readFactor", "(I)Z"⟩
abbrev cX5_readReference : ByteArray := prog_7_method_18_code
def yX5_readReference : MethodName := ⟨RX5, "readReference", "(I)Z"⟩
abbrev cX5_accept : ByteArray := prog_7_method_19_code
def yX5_accept : MethodName := ⟨RX5, "accept", "(I)Z"⟩
abbrev cX5_acceptNew : ByteArray := prog_7_method_20_code
def yX5_acceptNew : MethodName := ⟨RX5, "acceptNew", "(ZZ)Z"⟩
abbrev cX5_acceptMember : ByteArray := prog_7_method_21_code
def yX5_acceptMember : MethodName := ⟨RX5, "acceptMember", "(Z)Z"⟩
abbrev cX5_pass : ByteArray := prog_7_method_22_code
def yX5_pass : MethodName := ⟨RX5, "pass", "(ZI)Z"⟩
def RX6 : String := "SignalBook$Selection"
def TX6 : u_T := fun k => match k with
  | 0 => ("SignalBook$Selection", "book", "I", true)
  | 1 => ("SignalBook$Selection", "enumNumber", "I", true)
  | 2 => ("SignalBook$Selection", "bits", "I", false)
  | _ => ("SignalBook$Selection", "values", "[I", false)
def tyX6 : Nat → FieldType := fun k => match k with
  | 0 => .int
  | 1 => .int
  | 2 => .int
  | _ => .array .int
abbrev wsX60 : List Cond := u_ws RX6 TX6 4
theorem nmX6 : ∀ a, a < 4 → ∀ b, b < 4 → a ≠ b → (TX6 a).2.1 ≠ (TX6 b).2.1 := by decide +kernel
theorem tyX6_ok : ∀ k, k < 4 → parseFieldDescriptor (TX6 k).2.2.1 = some (tyX6 k) := by decide +kernel
abbrev cX6_init : ByteArray := prog_8_method_1_code
def yX6_init : MethodName := ⟨RX6, "<init>", "(III)V"⟩
abbrev cX6_contains : ByteArray := prog_8_method_2_code
def yX6_contains : MethodName := ⟨RX6, "contains", "(I)Z"⟩
abbrev cX6_include : ByteArray := prog_8_method_3_code
def yX6_include : MethodName := ⟨RX6, "include", "(I)Z"⟩
abbrev cX6_exclude : ByteArray := prog_8_method_4_code
def yX6_exclude : MethodName := ⟨RX6, "exclude", "(I)Z"⟩
abbrev cX6_ordinalAt : ByteArray := prog_8_method_5_code
def yX6_ordinalAt : MethodName := ⟨RX6, "ordinalAt", "(I)I"⟩
def RX7 : String := "SignalBook$Switch"
def TX7 : u_T := fun k => match k with
  | 0 => ("SignalBook$Switch", "name", "J", true)
  | 1 => ("SignalBook$Switch", "caseNames", "[J", true)
  | 2 => ("SignalBook$Switch", "caseCodes", "[I", true)
  | 3 => ("SignalBook$Switch", "caseCount", "I", false)
  | _ => ("SignalBook$Switch", "elseCode", "I", false)
def tyX7 : Nat → FieldType := fun k => match k with
  | 0 => .long
  | 1 => .array .long
  | 2 => .array .int
  | 3 => .int
  | _ => .int
abbrev wsX70 : List Cond := u_ws RX7 TX7 5
theorem nmX7 : ∀ a, a < 5 → ∀ b, b < 5 → a ≠ b → (TX7 a).2.1 ≠ (TX7 b).2.1 := by decide +kernel
theorem tyX7_ok : ∀ k, k < 5 → parseFieldDescriptor (TX7 k).2.2.1 = some (tyX7 k) := by decide +kernel
abbrev cX7_init : ByteArray := prog_9_method_1_code
def yX7_init : MethodName := ⟨RX7, "<init>", "(J)V"⟩
abbrev cX7_hasCase : ByteArray := prog_9_method_2_code
def yX7_hasCase : MethodName := ⟨RX7, "hasCase", "(J)Z"⟩
def RX8 : String := "SignalBook$Table"
def TX8 : u_T := fun k => match k with
  | 0 => ("SignalBook$Table", "name", "J", true)
  | 1 => ("SignalBook$Table", "entryCodes", "[I", true)
  | 2 => ("SignalBook$Table", "entries", "[I", true)
  | 3 => ("SignalBook$Table", "entryCount", "I", false)
  | _ => ("SignalBook$Table", "there", "I", false)
def tyX8 : Nat → FieldType := fun k => match k with
  | 0 => .long
  | 1 => .array .int
  | 2 => .array .int
  | 3 => .int
  | _ => .int
abbrev wsX80 : List Cond := u_ws RX8 TX8 5
theorem nmX8 : ∀ a, a < 5 → ∀ b, b < 5 → a ≠ b → (TX8 a).2.1 ≠ (TX8 b).2.1 := by decide +kernel
theorem tyX8_ok : ∀ k, k < 5 → parseFieldDescriptor (TX8 k).2.2.1 = some (tyX8 k) := by decide +kernel
abbrev cX8_init : ByteArray := prog_10_method_1_code
def yX8_init : MethodName := ⟨RX8, "<init>", "(J)V"⟩
def RX9 : String := "SignalBook$Tokens"
def TX9 : u_T := fun k => match k with
  | 0 => ("SignalBook$Tokens", "kinds", "[I", true)
  | 1 => ("SignalBook$Tokens", "places", "[I", true)
  | 2 => ("SignalBook$Tokens", "values", "[J", true)
  | 3 => ("SignalBook$Tokens", "count", "I", false)
  | _ => ("SignalBook$Tokens", "keywords", "[J", true)
def tyX9 : Nat → FieldType := fun k => match k with
  | 0 => .array .int
  | 1 => .array .int
  | 2 => .array .long
  | 3 => .int
  | _ => .array .long
abbrev wsX90 : List Cond := u_ws RX9 TX9 5
theorem nmX9 : ∀ a, a < 5 → ∀ b, b < 5 → a ≠ b → (TX9 a).2.1 ≠ (TX9 b).2.1 := by decide +kernel
theorem tyX9_ok : ∀ k, k < 5 → parseFieldDescriptor (TX9 k).2.2.1 = some (tyX9 k) := by decide +kernel
abbrev cX9_init : ByteArray := prog_11_method_1_code
def yX9_init : MethodName := ⟨RX9, "<init>", "()V"⟩
abbrev cX9_cutUp : ByteArray := prog_11_method_2_code
def yX9_cutUp : MethodName := ⟨RX9, "cutUp", "([BI)V"⟩
abbrev cX9_lengthOfName : ByteArray := prog_11_method_3_code
def yX9_lengthOfName : MethodName := ⟨RX9, "lengthOfName", "(J)I"⟩
abbrev cX9_signOfName : ByteArray := prog_11_method_4_code
def yX9_signOfName : MethodName := ⟨RX9, "signOfName", "(JI)I"⟩
abbrev cX9_rankOf : ByteArray := prog_11_method_5_code
def yX9_rankOf : MethodName := ⟨RX9, "rankOf", "(I)I"⟩
abbrev cX9_isDigit : ByteArray := prog_11_method_6_code
def yX9_isDigit : MethodName := ⟨RX9, "isDigit", "(I)Z"⟩
abbrev cX9_rowEnd : ByteArray := prog_11_method_7_code
def yX9_rowEnd : MethodName := ⟨RX9, "rowEnd", "([BII)I"⟩
abbrev cX9_keepRow : ByteArray := prog_11_method_8_code
def yX9_keepRow : MethodName := ⟨RX9, "keepRow", "([BII)V"⟩
abbrev cX9_keepNumber : ByteArray := prog_11_method_9_code
def yX9_keepNumber : MethodName := ⟨RX9, "keepNumber", "([BII)V"⟩
abbrev cX9_keepWord : ByteArray := prog_11_method_10_code
def yX9_keepWord : MethodName := ⟨RX9, "keepWord", "([BII)V"⟩
abbrev cX9_kindOfWord : ByteArray := prog_11_method_11_code
def yX9_kindOfWord : MethodName := ⟨RX9, "kindOfWord", "(J)I"⟩
abbrev cX9_keep : ByteArray := prog_11_method_12_code
def yX9_keep : MethodName := ⟨RX9, "keep", "(IIJ)V"⟩
def RX10 : String := "SignalBook$Worker"
def TX10 : u_T := fun k => match k with
  | 0 => ("SignalBook$Worker", "book", "LSignalBook$Book;", false)
  | 1 => ("SignalBook$Worker", "failing", "Z", false)
  | 2 => ("SignalBook$Worker", "stack", "[I", true)
  | 3 => ("SignalBook$Worker", "top", "I", false)
  | 4 => ("SignalBook$Worker", "underWay", "[I", true)
  | 5 => ("SignalBook$Worker", "underWayCount", "I", false)
  | 6 => ("SignalBook$Worker", "causeKinds", "[I", true)
  | 7 => ("SignalBook$Worker", "causeItems", "[I", true)
  | 8 => ("SignalBook$Worker", "causeCount", "I", false)
  | 9 => ("SignalBook$Worker", "aboveKnown", "Z", false)
  | _ => ("SignalBook$Worker", "aboveValue", "I", false)
def tyX10 : Nat → FieldType := fun k => match k with
  | 0 => .object "SignalBook$Book"
  | 1 => .boolean
  | 2 => .array .int
  | 3 => .int
  | 4 => .array .int
  | 5 => .int
  | 6 => .array .int
  | 7 => .array .int
  | 8 => .int
  | 9 => .boolean
  | _ => .int
abbrev wsX100 : List Cond := u_ws RX10 TX10 11
theorem nmX10 : ∀ a, a < 11 → ∀ b, b < 11 → a ≠ b → (TX10 a).2.1 ≠ (TX10 b).2.1 := by decide +kernel
theorem tyX10_ok : ∀ k, k < 11 → parseFieldDescriptor (TX10 k).2.2.1 = some (tyX10 k) := by decide +kernel
abbrev cX10_init : ByteArray := prog_12_method_1_code
def yX10_init : MethodName := ⟨RX10, "<init>", "()V"⟩
abbrev cX10_beginWith : ByteArray := prog_12_method_2_code
def yX10_beginWith : MethodName := ⟨RX10, "beginWith", "(LSignalBook$Book;I)Z"⟩
abbrev cX10_causeKind : ByteArray := prog_12_method_3_code
def yX10_causeKind : MethodName := ⟨RX10, "causeKind", "(I)I"⟩
abbrev cX10_causeItem : ByteArray := prog_12_method_4_code
def yX10_causeItem : MethodName := ⟨RX10, "causeItem", "(I)I"⟩
abbrev cX10_useItem : ByteArray := prog_12_method_5_code
def yX10_useItem : MethodName := ⟨RX10, "useItem", "(I)V"⟩
abbrev cX10_perform : ByteArray := prog_12_method_6_code
def yX10_perform : MethodName := ⟨RX10, "perform", "(LSignalBook$Enumeration;II)I"⟩
abbrev cX10_performShared : ByteArray := prog_12_method_7_code
def yX10_performShared : MethodName := ⟨RX10, "performShared", "(LSignalBook$Enumeration;II)I"⟩
abbrev cX10_choose : ByteArray := prog_12_method_8_code
def yX10_choose : MethodName := ⟨RX10, "choose", "(LSignalBook$Enumeration;LSignalBook$Switch;I)I"⟩
abbrev cX10_fail : ByteArray := prog_12_method_9_code
def yX10_fail : MethodName := ⟨RX10, "fail", "(II)V"⟩
abbrev cX10_failAround : ByteArray := prog_12_method_10_code
def yX10_failAround : MethodName := ⟨RX10, "failAround", "(I)V"⟩
abbrev cX10_startItem : ByteArray := prog_12_method_11_code
def yX10_startItem : MethodName := ⟨RX10, "startItem", "(I)V"⟩
abbrev cX10_fillHolder : ByteArray := prog_12_method_12_code
def yX10_fillHolder : MethodName := ⟨RX10, "fillHolder", "(LSignalBook$Enumeration;I)V"⟩
abbrev cX10_makeEnum : ByteArray := prog_12_method_13_code
def yX10_makeEnum : MethodName := ⟨RX10, "makeEnum", "(LSignalBook$Enumeration;)V"⟩
abbrev cX10_makeConstant : ByteArray := prog_12_method_14_code
def yX10_makeConstant : MethodName := ⟨RX10, "makeConstant", "(LSignalBook$Enumeration;I)V"⟩
abbrev cX10_fillTable : ByteArray := prog_12_method_15_code
def yX10_fillTable : MethodName := ⟨RX10, "fillTable", "(LSignalBook$Enumeration;LSignalBook$Table;)V"⟩
abbrev cX10_workOut : ByteArray := prog_12_method_16_code
def yX10_workOut : MethodName := ⟨RX10, "workOut", "(ILSignalBook$Enumeration;II)I"⟩
abbrev cX10_takeStep : ByteArray := prog_12_method_17_code
def yX10_takeStep : MethodName := ⟨RX10, "takeStep", "(IILSignalBook$Enumeration;II)V"⟩
abbrev cX10_combine : ByteArray := prog_12_method_18_code
def yX10_combine : MethodName := ⟨RX10, "combine", "(I)V"⟩
abbrev cX10_argumentOf : ByteArray := prog_12_method_19_code
def yX10_argumentOf : MethodName := ⟨RX10, "argumentOf", "(LSignalBook$Enumeration;I)I"⟩
abbrev cX10_workOutAbove : ByteArray := prog_12_method_20_code
def yX10_workOutAbove : MethodName := ⟨RX10, "workOutAbove", "(LSignalBook$Enumeration;II)I"⟩
abbrev cX10_readConstant : ByteArray := prog_12_method_21_code
def yX10_readConstant : MethodName := ⟨RX10, "readConstant", "(II)I"⟩
abbrev cX10_readHolder : ByteArray := prog_12_method_22_code
def yX10_readHolder : MethodName := ⟨RX10, "readHolder", "(I)I"⟩
abbrev cX10_readEntry : ByteArray := prog_12_method_23_code
def yX10_readEntry : MethodName := ⟨RX10, "readEntry", "(III)I"⟩
abbrev cX10_see : ByteArray := prog_12_method_24_code
def yX10_see : MethodName := ⟨RX10, "see", "(II)I"⟩
abbrev cX10_push : ByteArray := prog_12_method_25_code
def yX10_push : MethodName := ⟨RX10, "push", "(I)V"⟩
abbrev cX10_pop : ByteArray := prog_12_method_26_code
def yX10_pop : MethodName := ⟨RX10, "pop", "()I"⟩
def RX11 : String := "SignalBook"
def TX11 : u_T := fun k => match k with
  | 0 => ("SignalBook", "tape", "[B", true)
  | 1 => ("SignalBook", "tapeLength", "I", false)
  | 2 => ("SignalBook", "tokens", "LSignalBook$Tokens;", true)
  | 3 => ("SignalBook", "reader", "LSignalBook$Reader;", true)
  | 4 => ("SignalBook", "worker", "LSignalBook$Worker;", true)
  | 5 => ("SignalBook", "books", "[LSignalBook$Book;", true)
  | 6 => ("SignalBook", "bookCount", "I", false)
  | 7 => ("SignalBook", "latestFault", "I", false)
  | 8 => ("SignalBook", "latestOut", "I", false)
  | 9 => ("SignalBook", "sets", "[LSignalBook$Selection;", true)
  | 10 => ("SignalBook", "setCount", "I", false)
  | 11 => ("SignalBook", "maps", "[LSignalBook$Selection;", true)
  | 12 => ("SignalBook", "mapCount", "I", false)
  | 13 => ("SignalBook", "messages", "[LSignalBook$Message;", true)
  | 14 => ("SignalBook", "messageCount", "I", false)
  | _ => ("SignalBook", "draft", "LSignalBook$Message;", false)
def tyX11 : Nat → FieldType := fun k => match k with
  | 0 => .array .byte
  | 1 => .int
  | 2 => .object "SignalBook$Tokens"
  | 3 => .object "SignalBook$Reader"
  | 4 => .object "SignalBook$Worker"
  | 5 => .array (.object "SignalBook$Book")
  | 6 => .int
  | 7 => .int
  | 8 => .int
  | 9 => .array (.object "SignalBook$Selection")
  | 10 => .int
  | 11 => .array (.object "SignalBook$Selection")
  | 12 => .int
  | 13 => .array (.object "SignalBook$Message")
  | 14 => .int
  | _ => .object "SignalBook$Message"
abbrev wsX110 : List Cond := u_ws RX11 TX11 16
theorem nmX11 : ∀ a, a < 16 → ∀ b, b < 16 → a ≠ b → (TX11 a).2.1 ≠ (TX11 b).2.1 := by decide +kernel
theorem tyX11_ok : ∀ k, k < 16 → parseFieldDescriptor (TX11 k).2.2.1 = some (tyX11 k) := by decide +kernel
abbrev cX11_init : ByteArray := prog_1_method_1_code
def yX11_init : MethodName := ⟨RX11, "<init>", "()V"⟩
abbrev cX11_feed : ByteArray := prog_1_method_2_code
def yX11_feed : MethodName := ⟨RX11, "feed", "(JI)I"⟩
abbrev cX11_cut : ByteArray := prog_1_method_3_code
def yX11_cut : MethodName := ⟨RX11, "cut", "(I)I"⟩
abbrev cX11_book : ByteArray := prog_1_method_4_code
def yX11_book : MethodName := ⟨RX11, "book", "()I"⟩
abbrev cX11_wrong : ByteArray := prog_1_method_5_code
def yX11_wrong : MethodName := ⟨RX11, "wrong", "()I"⟩
abbrev cX11_told : ByteArray := prog_1_method_6_code
def yX11_told : MethodName := ⟨RX11, "told", "(II)I"⟩
abbrev cX11_about : ByteArray := prog_1_method_7_code
def yX11_about : MethodName := ⟨RX11, "about", "(III)I"⟩
abbrev cX11_state : ByteArray := prog_1_method_8_code
def yX11_state : MethodName := ⟨RX11, "state", "(II)I"⟩
abbrev cX11_letter : ByteArray := prog_1_method_9_code
def yX11_letter : MethodName := ⟨RX11, "letter", "(IIII)I"⟩
abbrev cX11_body : ByteArray := prog_1_method_10_code
def yX11_body : MethodName := ⟨RX11, "body", "(IIII)I"⟩
abbrev cX11_use : ByteArray := prog_1_method_11_code
def yX11_use : MethodName := ⟨RX11, "use", "(II)I"⟩
abbrev cX11_argument : ByteArray := prog_1_method_12_code
def yX11_argument : MethodName := ⟨RX11, "argument", "(III)I"⟩
abbrev cX11_act : ByteArray := prog_1_method_13_code
def yX11_act : MethodName := ⟨RX11, "act", "(IIII)I"⟩
abbrev cX11_entry : ByteArray := prog_1_method_14_code
def yX11_entry : MethodName := ⟨RX11, "entry", "(IIII)I"⟩
abbrev cX11_holder : ByteArray := prog_1_method_15_code
def yX11_holder : MethodName := ⟨RX11, "holder", "(III)I"⟩
abbrev cX11_branch : ByteArray := prog_1_method_16_code
def yX11_branch : MethodName := ⟨RX11, "branch", "(IIII)I"⟩
abbrev cX11_out : ByteArray := prog_1_method_17_code
def yX11_out : MethodName := ⟨RX11, "out", "()I"⟩
abbrev cX11_cause : ByteArray := prog_1_method_18_code
def yX11_cause : MethodName := ⟨RX11, "cause", "(II)I"⟩
abbrev cX11_start : ByteArray := prog_1_method_19_code
def yX11_start : MethodName := ⟨RX11, "start", "(II)I"⟩
abbrev cX11_seen : ByteArray := prog_1_method_20_code
def yX11_seen : MethodName := ⟨RX11, "seen", "(III)I"⟩
abbrev cX11_set : ByteArray := prog_1_method_21_code
def yX11_set : MethodName := ⟨RX11, "set", "(II)I"⟩
abbrev cX11_add : ByteArray := prog_1_method_22_code
def yX11_add : MethodName := ⟨RX11, "add", "(II)I"⟩
abbrev cX11_take : ByteArray := prog_1_method_23_code
def yX11_take : MethodName := ⟨RX11, "take", "(II)I"⟩
abbrev cX11_join : ByteArray := prog_1_method_24_code
def yX11_join : MethodName := ⟨RX11, "join", "(III)I"⟩
abbrev cX11_member : ByteArray := prog_1_method_25_code
def yX11_member : MethodName := ⟨RX11, "member", "(II)I"⟩
abbrev cX11_map : ByteArray := prog_1_method_26_code
def yX11_map : MethodName := ⟨RX11, "map", "(II)I"⟩
abbrev cX11_put : ByteArray := prog_1_method_27_code
def yX11_put : MethodName := ⟨RX11, "put", "(III)I"⟩
abbrev cX11_get : ByteArray := prog_1_method_28_code
def yX11_get : MethodName := ⟨RX11, "get", "(II)I"⟩
abbrev cX11_encode : ByteArray := prog_1_method_29_code
def yX11_encode : MethodName := ⟨RX11, "encode", "(I)I"⟩
abbrev cX11_signal : ByteArray := prog_1_method_30_code
def yX11_signal : MethodName := ⟨RX11, "signal", "(III)I"⟩
abbrev cX11_decode : ByteArray := prog_1_method_31_code
def yX11_decode : MethodName := ⟨RX11, "decode", "(I)I"⟩
abbrev cX11_putByte : ByteArray := prog_1_method_32_code
def yX11_putByte : MethodName := ⟨RX11, "putByte", "(I)V"⟩
abbrev cX11_putName : ByteArray := prog_1_method_33_code
def yX11_putName : MethodName := ⟨RX11, "putName", "(J)V"⟩
abbrev cX11_putNumber : ByteArray := prog_1_method_34_code
def yX11_putNumber : MethodName := ⟨RX11, "putNumber", "(I)V"⟩
abbrev cX11_nameOf : ByteArray := prog_1_method_35_code
def yX11_nameOf : MethodName := ⟨RX11, "nameOf", "(LSignalBook$Message;I)J"⟩
abbrev cX11_letterOf : ByteArray := prog_1_method_36_code
def yX11_letterOf : MethodName := ⟨RX11, "letterOf", "(JI)I"⟩
abbrev cX11_bookAt : ByteArray := prog_1_method_37_code
def yX11_bookAt : MethodName := ⟨RX11, "bookAt", "(I)LSignalBook$Book;"⟩
abbrev cX11_enumOf : ByteArray := prog_1_method_38_code
def yX11_enumOf : MethodName := ⟨RX11, "enumOf", "(II)LSignalBook$Enumeration;"⟩
abbrev cX11_hasAct : ByteArray := prog_1_method_39_code
def yX11_hasAct : MethodName := ⟨RX11, "hasAct", "(II)Z"⟩
abbrev cX11_setAt : ByteArray := prog_1_method_40_code
def yX11_setAt : MethodName := ⟨RX11, "setAt", "(I)LSignalBook$Selection;"⟩
abbrev cX11_mapAt : ByteArray := prog_1_method_41_code
def yX11_mapAt : MethodName := ⟨RX11, "mapAt", "(I)LSignalBook$Selection;"⟩
abbrev cX11_messageAt : ByteArray := prog_1_method_42_code
def yX11_messageAt : MethodName := ⟨RX11, "messageAt", "(I)LSignalBook$Message;"⟩
abbrev cX11_isConstant : ByteArray := prog_1_method_43_code
def yX11_isConstant : MethodName := ⟨RX11, "isConstant", "(LSignalBook$Selection;I)Z"⟩
abbrev cX11_keepSet : ByteArray := prog_1_method_44_code
def yX11_keepSet : MethodName := ⟨RX11, "keepSet", "(LSignalBook$Selection;)I"⟩
abbrev cX11_joined : ByteArray := prog_1_method_45_code
def yX11_joined : MethodName := ⟨RX11, "joined", "(III)I"⟩
abbrev cX11_usedWell : ByteArray := prog_1_method_46_code
def yX11_usedWell : MethodName := ⟨RX11, "usedWell", "(II)Z"⟩
abbrev cX11_giveOut : ByteArray := prog_1_method_47_code
def yX11_giveOut : MethodName := ⟨RX11, "giveOut", "(I)I"⟩
def RX12 : String := "SignalBookModel"
def TX12 : u_T := fun k => match k with
  | 0 => ("SignalBookModel", "thrown", "I", false)
  | 1 => ("SignalBookModel", "tape", "[B", true)
  | 2 => ("SignalBookModel", "taped", "I", false)
  | 3 => ("SignalBookModel", "kind", "I", false)
  | 4 => ("SignalBookModel", "from", "I", false)
  | 5 => ("SignalBookModel", "behind", "I", false)
  | 6 => ("SignalBookModel", "numeral", "I", false)
  | 7 => ("SignalBookModel", "texts", "[B", true)
  | 8 => ("SignalBookModel", "books", "I", false)
  | 9 => ("SignalBookModel", "now", "I", false)
  | 10 => ("SignalBookModel", "enums", "[I", true)
  | 11 => ("SignalBookModel", "acts", "[I", true)
  | 12 => ("SignalBookModel", "actName", "[I", true)
  | 13 => ("SignalBookModel", "enumName", "[I", true)
  | 14 => ("SignalBookModel", "constants", "[I", true)
  | 15 => ("SignalBookModel", "tables", "[I", true)
  | 16 => ("SignalBookModel", "checks", "[I", true)
  | 17 => ("SignalBookModel", "holders", "[I", true)
  | 18 => ("SignalBookModel", "switches", "[I", true)
  | 19 => ("SignalBookModel", "enumBody", "[I", true)
  | 20 => ("SignalBookModel", "constantName", "[I", true)
  | 21 => ("SignalBookModel", "argument", "[I", true)
  | 22 => ("SignalBookModel", "constantBody", "[I", true)
  | 23 => ("SignalBookModel", "tableName", "[I", true)
  | 24 => ("SignalBookModel", "tableSize", "[I", true)
  | 25 => ("SignalBookModel", "entry", "[I", true)
  | 26 => ("SignalBookModel", "check", "[I", true)
  | 27 => ("SignalBookModel", "holderName", "[I", true)
  | 28 => ("SignalBookModel", "holder", "[I", true)
  | 29 => ("SignalBookModel", "switchName", "[I", true)
  | 30 => ("SignalBookModel", "cases", "[I", true)
  | 31 => ("SignalBookModel", "caseName", "[I", true)
  | 32 => ("SignalBookModel", "caseOf", "[I", true)
  | 33 => ("SignalBookModel", "caseExpr", "[I", true)
  | 34 => ("SignalBookModel", "otherwise", "[I", true)
  | 35 => ("SignalBookModel", "xKind", "[I", true)
  | 36 => ("SignalBookModel", "xA", "[I", true)
  | 37 => ("SignalBookModel", "xB", "[I", true)
  | 38 => ("SignalBookModel", "xUp", "[I", true)
  | 39 => ("SignalBookModel", "xEnum", "[I", true)
  | 40 => ("SignalBookModel", "expressions", "I", false)
  | 41 => ("SignalBookModel", "g", "I", false)
  | 42 => ("SignalBookModel", "nest", "I", false)
  | 43 => ("SignalBookModel", "mayValue", "Z", false)
  | 44 => ("SignalBookModel", "mayOrd", "Z", false)
  | 45 => ("SignalBookModel", "mayAbove", "Z", false)
  | 46 => ("SignalBookModel", "wrong", "I", false)
  | 47 => ("SignalBookModel", "wrongAt", "I", false)
  | 48 => ("SignalBookModel", "refNode", "[I", true)
  | 49 => ("SignalBookModel", "refEnum", "[I", true)
  | 50 => ("SignalBookModel", "refName", "[I", true)
  | 51 => ("SignalBookModel", "refs", "I", false)
  | 52 => ("SignalBookModel", "states", "[I", true)
  | 53 => ("SignalBookModel", "constantsMade", "[I", true)
  | 54 => ("SignalBookModel", "worth", "[I", true)
  | 55 => ("SignalBookModel", "entriesMade", "[I", true)
  | 56 => ("SignalBookModel", "entryWorth", "[I", true)
  | 57 => ("SignalBookModel", "holderWorth", "[I", true)
  | 58 => ("SignalBookModel", "starts", "[I", true)
  | 59 => ("SignalBookModel", "started", "[I", true)
  | 60 => ("SignalBookModel", "seenBy", "[I", true)
  | 61 => ("SignalBookModel", "seenOf", "[I", true)
  | 62 => ("SignalBookModel", "seens", "[I", true)
  | 63 => ("SignalBookModel", "underWay", "[I", true)
  | 64 => ("SignalBookModel", "deep", "I", false)
  | 65 => ("SignalBookModel", "failed", "Z", false)
  | 66 => ("SignalBookModel", "causes", "[I", true)
  | 67 => ("SignalBookModel", "causeBy", "[I", true)
  | 68 => ("SignalBookModel", "causeCount", "I", false)
  | 69 => ("SignalBookModel", "out", "I", false)
  | 70 => ("SignalBookModel", "setEnum", "[I", true)
  | 71 => ("SignalBookModel", "setBits", "[I", true)
  | 72 => ("SignalBookModel", "sets", "I", false)
  | 73 => ("SignalBookModel", "mapEnum", "[I", true)
  | 74 => ("SignalBookModel", "mapBits", "[I", true)
  | 75 => ("SignalBookModel", "mapValue", "[I", true)
  | 76 => ("SignalBookModel", "maps", "I", false)
  | 77 => ("SignalBookModel", "messageBook", "[I", true)
  | 78 => ("SignalBookModel", "messageSize", "[I", true)
  | 79 => ("SignalBookModel", "signals", "[I", true)
  | 80 => ("SignalBookModel", "added", "[I", true)
  | 81 => ("SignalBookModel", "messages", "I", false)
  | 82 => ("SignalBookModel", "line", "[B", true)
  | _ => ("SignalBookModel", "lined", "I", false)
def tyX12 : Nat → FieldType := fun k => match k with
  | 0 => .int
  | 1 => .array .byte
  | 2 => .int
  | 3 => .int
  | 4 => .int
  | 5 => .int
  | 6 => .int
  | 7 => .array .byte
  | 8 => .int
  | 9 => .int
  | 10 => .array .int
  | 11 => .array .int
  | 12 => .array .int
  | 13 => .array .int
  | 14 => .array .int
  | 15 => .array .int
  | 16 => .array .int
  | 17 => .array .int
  | 18 => .array .int
  | 19 => .array .int
  | 20 => .array .int
  | 21 => .array .int
  | 22 => .array .int
  | 23 => .array .int
  | 24 => .array .int
  | 25 => .array .int
  | 26 => .array .int
  | 27 => .array .int
  | 28 => .array .int
  | 29 => .array .int
  | 30 => .array .int
  | 31 => .array .int
  | 32 => .array .int
  | 33 => .array .int
  | 34 => .array .int
  | 35 => .array .int
  | 36 => .array .int
  | 37 => .array .int
  | 38 => .array .int
  | 39 => .array .int
  | 40 => .int
  | 41 => .int
  | 42 => .int
  | 43 => .boolean
  | 44 => .boolean
  | 45 => .boolean
  | 46 => .int
  | 47 => .int
  | 48 => .array .int
  | 49 => .array .int
  | 50 => .array .int
  | 51 => .int
  | 52 => .array .int
  | 53 => .array .int
  | 54 => .array .int
  | 55 => .array .int
  | 56 => .array .int
  | 57 => .array .int
  | 58 => .array .int
  | 59 => .array .int
  | 60 => .array .int
  | 61 => .array .int
  | 62 => .array .int
  | 63 => .array .int
  | 64 => .int
  | 65 => .boolean
  | 66 => .array .int
  | 67 => .array .int
  | 68 => .int
  | 69 => .int
  | 70 => .array .int
  | 71 => .array .int
  | 72 => .int
  | 73 => .array .int
  | 74 => .array .int
  | 75 => .array .int
  | 76 => .int
  | 77 => .array .int
  | 78 => .array .int
  | 79 => .array .int
  | 80 => .array .int
  | 81 => .int
  | 82 => .array .byte
  | _ => .int
abbrev wsX120 : List Cond := u_ws RX12 TX12 84
theorem nmX12 : ∀ a, a < 84 → ∀ b, b < 84 → a ≠ b → (TX12 a).2.1 ≠ (TX12 b).2.1 := by decide +kernel
theorem tyX12_ok : ∀ k, k < 84 → parseFieldDescriptor (TX12 k).2.2.1 = some (tyX12 k) := by decide +kernel
abbrev cX12_init : ByteArray := prog_14_method_1_code
def yX12_init : MethodName := ⟨RX12, "<init>", "()V"⟩
abbrev cX12_feed : ByteArray := prog_14_method_3_code
def yX12_feed : MethodName := ⟨RX12, "feed", "(JI)I"⟩
abbrev cX12_cut : ByteArray := prog_14_method_4_code
def yX12_cut : MethodName := ⟨RX12, "cut", "(I)I"⟩
abbrev cX12_isLetter : ByteArray := prog_14_method_5_code
def yX12_isLetter : MethodName := ⟨RX12, "isLetter", "(I)Z"⟩
abbrev cX12_isDigit : ByteArray := prog_14_method_6_code
def yX12_isDigit : MethodName := ⟨RX12, "isDigit", "(I)Z"⟩
abbrev cX12_at : ByteArray := prog_14_method_7_code
def yX12_at : MethodName := ⟨RX12, "at", "(I)I"⟩
abbrev cX12_next : ByteArray := prog_14_method_8_code
def yX12_next : MethodName := ⟨RX12, "next", "()V"⟩
abbrev cX12_isSign : ByteArray := prog_14_method_9_code
def yX12_isSign : MethodName := ⟨RX12, "isSign", "(C)Z"⟩
abbrev cX12_isWord : ByteArray := prog_14_method_10_code
def yX12_isWord : MethodName := ⟨RX12, "isWord", "(Ljava/lang/String;)Z"⟩
abbrev cX12_isKeyword : ByteArray := prog_14_method_11_code
def yX12_isKeyword : MethodName := ⟨RX12, "isKeyword", "()Z"⟩
abbrev cX12_isName : ByteArray := prog_14_method_12_code
def yX12_isName : MethodName := ⟨RX12, "isName", "()Z"⟩
abbrev cX12_nameHere : ByteArray := prog_14_method_13_code
def yX12_nameHere : MethodName := ⟨RX12, "nameHere", "()I"⟩
abbrev cX12_isSame : ByteArray := prog_14_method_14_code
def yX12_isSame : MethodName := ⟨RX12, "isSame", "(II)Z"⟩
abbrev cX12_isTwo : ByteArray := prog_14_method_15_code
def yX12_isTwo : MethodName := ⟨RX12, "isTwo", "(I)Z"⟩
abbrev cX12_expression : ByteArray := prog_14_method_16_code
def yX12_expression : MethodName := ⟨RX12, "expression", "(III)I"⟩
abbrev cX12_fault : ByteArray := prog_14_method_17_code
def yX12_fault : MethodName := ⟨RX12, "fault", "(I)I"⟩
abbrev cX12_sign : ByteArray := prog_14_method_18_code
def yX12_sign : MethodName := ⟨RX12, "sign", "(C)V"⟩
abbrev cX12_newName : ByteArray := prog_14_method_19_code
def yX12_newName : MethodName := ⟨RX12, "newName", "(Z)I"⟩
abbrev cX12_tells : ByteArray := prog_14_method_20_code
def yX12_tells : MethodName := ⟨RX12, "tells", "()Z"⟩
abbrev cX12_enumOf : ByteArray := prog_14_method_21_code
def yX12_enumOf : MethodName := ⟨RX12, "enumOf", "(I)I"⟩
abbrev cX12_readBook : ByteArray := prog_14_method_22_code
def yX12_readBook : MethodName := ⟨RX12, "readBook", "()V"⟩
abbrev cX12_readEnum : ByteArray := prog_14_method_23_code
def yX12_readEnum : MethodName := ⟨RX12, "readEnum", "()V"⟩
abbrev cX12_readConstant : ByteArray := prog_14_method_24_code
def yX12_readConstant : MethodName := ⟨RX12, "readConstant", "()V"⟩
abbrev cX12_readAct : ByteArray := prog_14_method_25_code
def yX12_readAct : MethodName := ⟨RX12, "readAct", "(I)V"⟩
abbrev cX12_readMember : ByteArray := prog_14_method_26_code
def yX12_readMember : MethodName := ⟨RX12, "readMember", "()V"⟩
abbrev cX12_readTable : ByteArray := prog_14_method_27_code
def yX12_readTable : MethodName := ⟨RX12, "readTable", "()V"⟩
abbrev cX12_readEntry : ByteArray := prog_14_method_28_code
def yX12_readEntry : MethodName := ⟨RX12, "readEntry", "(I)V"⟩
abbrev cX12_beginsExpr : ByteArray := prog_14_method_29_code
def yX12_beginsExpr : MethodName := ⟨RX12, "beginsExpr", "()Z"⟩
abbrev cX12_readSwitch : ByteArray := prog_14_method_30_code
def yX12_readSwitch : MethodName := ⟨RX12, "readSwitch", "()V"⟩
abbrev cX12_readCase : ByteArray := prog_14_method_31_code
def yX12_readCase : MethodName := ⟨RX12, "readCase", "(I)V"⟩
abbrev cX12_readExpr : ByteArray := prog_14_method_32_code
def yX12_readExpr : MethodName := ⟨RX12, "readExpr", "(ZZZ)I"⟩
abbrev cX12_readSum : ByteArray := prog_14_method_33_code
def yX12_readSum : MethodName := ⟨RX12, "readSum", "()I"⟩
abbrev cX12_readTerm : ByteArray := prog_14_method_34_code
def yX12_readTerm : MethodName := ⟨RX12, "readTerm", "()I"⟩
abbrev cX12_readFactor : ByteArray := prog_14_method_35_code
def yX12_readFactor : MethodName := ⟨RX12, "readFactor", "()I"⟩
abbrev cX12_taken : ByteArray := prog_14_method_36_code
def yX12_taken : MethodName := ⟨RX12, "taken", "(I)I"⟩
abbrev cX12_readReference : ByteArray := prog_14_method_37_code
def yX12_readReference : MethodName := ⟨RX12, "readReference", "()I"⟩
abbrev cX12_settle : ByteArray := prog_14_method_38_code
def yX12_settle : MethodName := ⟨RX12, "settle", "(I)V"⟩
abbrev cX12_lacks : ByteArray := prog_14_method_39_code
def yX12_lacks : MethodName := ⟨RX12, "lacks", "(I)V"⟩
abbrev cX12_among : ByteArray := prog_14_method_40_code
def yX12_among : MethodName := ⟨RX12, "among", "([IIII)I"⟩
abbrev cX12_book : ByteArray := prog_14_method_41_code
def yX12_book : MethodName := ⟨RX12, "book", "()I"⟩
abbrev cX12_wrong : ByteArray := prog_14_method_42_code
def yX12_wrong : MethodName := ⟨RX12, "wrong", "()I"⟩
abbrev cX12_asleep : ByteArray := prog_14_method_43_code
def yX12_asleep : MethodName := ⟨RX12, "asleep", "(I)V"⟩
abbrev cX12_failing : ByteArray := prog_14_method_44_code
def yX12_failing : MethodName := ⟨RX12, "failing", "(II)I"⟩
abbrev cX12_use : ByteArray := prog_14_method_45_code
def yX12_use : MethodName := ⟨RX12, "use", "(I)V"⟩
abbrev cX12_starts : ByteArray := prog_14_method_46_code
def yX12_starts : MethodName := ⟨RX12, "starts", "(I)V"⟩
abbrev cX12_startsHolder : ByteArray := prog_14_method_47_code
def yX12_startsHolder : MethodName := ⟨RX12, "startsHolder", "(I)V"⟩
abbrev cX12_startsEnum : ByteArray := prog_14_method_48_code
def yX12_startsEnum : MethodName := ⟨RX12, "startsEnum", "(I)V"⟩
abbrev cX12_sees : ByteArray := prog_14_method_49_code
def yX12_sees : MethodName := ⟨RX12, "sees", "(II)I"⟩
abbrev cX12_value : ByteArray := prog_14_method_50_code
def yX12_value : MethodName := ⟨RX12, "value", "(III)I"⟩
abbrev cX12_entryOf : ByteArray := prog_14_method_51_code
def yX12_entryOf : MethodName := ⟨RX12, "entryOf", "(III)I"⟩
abbrev cX12_both : ByteArray := prog_14_method_52_code
def yX12_both : MethodName := ⟨RX12, "both", "(III)I"⟩
abbrev cX12_joined : ByteArray := prog_14_method_53_code
def yX12_joined : MethodName := ⟨RX12, "joined", "(III)I"⟩
abbrev cX12_isEnum : ByteArray := prog_14_method_54_code
def yX12_isEnum : MethodName := ⟨RX12, "isEnum", "(II)Z"⟩
abbrev cX12_isConstant : ByteArray := prog_14_method_55_code
def yX12_isConstant : MethodName := ⟨RX12, "isConstant", "(III)Z"⟩
abbrev cX12_begin : ByteArray := prog_14_method_56_code
def yX12_begin : MethodName := ⟨RX12, "begin", "(I)V"⟩
abbrev cX12_ends : ByteArray := prog_14_method_57_code
def yX12_ends : MethodName := ⟨RX12, "ends", "(I)I"⟩
abbrev cX12_uses : ByteArray := prog_14_method_58_code
def yX12_uses : MethodName := ⟨RX12, "uses", "(II)I"⟩
abbrev cX12_told : ByteArray := prog_14_method_59_code
def yX12_told : MethodName := ⟨RX12, "told", "(II)I"⟩
abbrev cX12_about : ByteArray := prog_14_method_60_code
def yX12_about : MethodName := ⟨RX12, "about", "(III)I"⟩
abbrev cX12_isItem : ByteArray := prog_14_method_61_code
def yX12_isItem : MethodName := ⟨RX12, "isItem", "(II)Z"⟩
abbrev cX12_state : ByteArray := prog_14_method_62_code
def yX12_state : MethodName := ⟨RX12, "state", "(II)I"⟩
abbrev cX12_letter : ByteArray := prog_14_method_63_code
def yX12_letter : MethodName := ⟨RX12, "letter", "(IIII)I"⟩
abbrev cX12_body : ByteArray := prog_14_method_64_code
def yX12_body : MethodName := ⟨RX12, "body", "(IIII)I"⟩
abbrev cX12_use_ : ByteArray := prog_14_method_65_code
def yX12_use_ : MethodName := ⟨RX12, "use", "(II)I"⟩
abbrev cX12_argument : ByteArray := prog_14_method_66_code
def yX12_argument : MethodName := ⟨RX12, "argument", "(III)I"⟩
abbrev cX12_act : ByteArray := prog_14_method_67_code
def yX12_act : MethodName := ⟨RX12, "act", "(IIII)I"⟩
abbrev cX12_entry : ByteArray := prog_14_method_68_code
def yX12_entry : MethodName := ⟨RX12, "entry", "(IIII)I"⟩
abbrev cX12_holder : ByteArray := prog_14_method_69_code
def yX12_holder : MethodName := ⟨RX12, "holder", "(III)I"⟩
abbrev cX12_branch : ByteArray := prog_14_method_70_code
def yX12_branch : MethodName := ⟨RX12, "branch", "(IIII)I"⟩
abbrev cX12_out : ByteArray := prog_14_method_71_code
def yX12_out : MethodName := ⟨RX12, "out", "()I"⟩
abbrev cX12_cause : ByteArray := prog_14_method_72_code
def yX12_cause : MethodName := ⟨RX12, "cause", "(II)I"⟩
abbrev cX12_start : ByteArray := prog_14_method_73_code
def yX12_start : MethodName := ⟨RX12, "start", "(II)I"⟩
abbrev cX12_seen : ByteArray := prog_14_method_74_code
def yX12_seen : MethodName := ⟨RX12, "seen", "(III)I"⟩
abbrev cX12_set : ByteArray := prog_14_method_75_code
def yX12_set : MethodName := ⟨RX12, "set", "(II)I"⟩
abbrev cX12_isIn : ByteArray := prog_14_method_76_code
def yX12_isIn : MethodName := ⟨RX12, "isIn", "(II)Z"⟩
abbrev cX12_add : ByteArray := prog_14_method_77_code
def yX12_add : MethodName := ⟨RX12, "add", "(II)I"⟩
abbrev cX12_take : ByteArray := prog_14_method_78_code
def yX12_take : MethodName := ⟨RX12, "take", "(II)I"⟩
abbrev cX12_join : ByteArray := prog_14_method_79_code
def yX12_join : MethodName := ⟨RX12, "join", "(III)I"⟩
abbrev cX12_member : ByteArray := prog_14_method_80_code
def yX12_member : MethodName := ⟨RX12, "member", "(II)I"⟩
abbrev cX12_map : ByteArray := prog_14_method_81_code
def yX12_map : MethodName := ⟨RX12, "map", "(II)I"⟩
abbrev cX12_isMapped : ByteArray := prog_14_method_82_code
def yX12_isMapped : MethodName := ⟨RX12, "isMapped", "(II)Z"⟩
abbrev cX12_put : ByteArray := prog_14_method_83_code
def yX12_put : MethodName := ⟨RX12, "put", "(III)I"⟩
abbrev cX12_get : ByteArray := prog_14_method_84_code
def yX12_get : MethodName := ⟨RX12, "get", "(II)I"⟩
abbrev cX12_constantHere : ByteArray := prog_14_method_85_code
def yX12_constantHere : MethodName := ⟨RX12, "constantHere", "(I)I"⟩
abbrev cX12_encode : ByteArray := prog_14_method_86_code
def yX12_encode : MethodName := ⟨RX12, "encode", "(I)I"⟩
abbrev cX12_signal : ByteArray := prog_14_method_87_code
def yX12_signal : MethodName := ⟨RX12, "signal", "(III)I"⟩
abbrev cX12_put_ : ByteArray := prog_14_method_88_code
def yX12_put_ : MethodName := ⟨RX12, "put", "(I)V"⟩
abbrev cX12_decode : ByteArray := prog_14_method_89_code
def yX12_decode : MethodName := ⟨RX12, "decode", "(I)I"⟩
def RJx145de : String := "java/io/Serializable"
def TJx145de : u_T := fun k => match k with
  | _ => ("", "", "", false)
def tyJx145de : Nat → FieldType := fun k => match k with
  | _ => .int
theorem nmJx145de : ∀ a, a < 0 → ∀ b, b < 0 → a ≠ b → (TJx145de a).2.1 ≠ (TJx145de b).2.1 := by decide +kernel
theorem tyJx145de_ok : ∀ k, k < 0 → parseFieldDescriptor (TJx145de k).2.2.1 = some (tyJx145de k) := by decide +kernel
def RJx9f9b0 : String := "java/lang/CharSequence"
def TJx9f9b0 : u_T := fun k => match k with
  | _ => ("", "", "", false)
def tyJx9f9b0 : Nat → FieldType := fun k => match k with
  | _ => .int
theorem nmJx9f9b0 : ∀ a, a < 0 → ∀ b, b < 0 → a ≠ b → (TJx9f9b0 a).2.1 ≠ (TJx9f9b0 b).2.1 := by decide +kernel
theorem tyJx9f9b0_ok : ∀ k, k < 0 → parseFieldDescriptor (TJx9f9b0 k).2.2.1 = some (tyJx9f9b0 k) := by decide +kernel
def RJ11 : String := "java/lang/Character"
def TJ11 : u_T := fun k => match k with
  | _ => ("", "", "", false)
def tyJ11 : Nat → FieldType := fun k => match k with
  | _ => .int
abbrev wsJ110 : List Cond := u_ws RJ11 TJ11 0
theorem nmJ11 : ∀ a, a < 0 → ∀ b, b < 0 → a ≠ b → (TJ11 a).2.1 ≠ (TJ11 b).2.1 := by decide +kernel
theorem tyJ11_ok : ∀ k, k < 0 → parseFieldDescriptor (TJ11 k).2.2.1 = some (tyJ11 k) := by decide +kernel
abbrev cJ11_isValidCodePoint_9a6ad : ByteArray := prog_15_method_11_code
def yJ11_isValidCodePoint_9a6ad : MethodName := ⟨RJ11, "isValidCodePoint", "(I)Z"⟩
abbrev cJ11_highSurrogate_5068e : ByteArray := prog_15_method_28_code
def yJ11_highSurrogate_5068e : MethodName := ⟨RJ11, "highSurrogate", "(I)C"⟩
abbrev cJ11_lowSurrogate_5068e : ByteArray := prog_15_method_29_code
def yJ11_lowSurrogate_5068e : MethodName := ⟨RJ11, "lowSurrogate", "(I)C"⟩
def RJxb160c : String := "java/lang/Comparable"
def TJxb160c : u_T := fun k => match k with
  | _ => ("", "", "", false)
def tyJxb160c : Nat → FieldType := fun k => match k with
  | _ => .int
theorem nmJxb160c : ∀ a, a < 0 → ∀ b, b < 0 → a ≠ b → (TJxb160c a).2.1 ≠ (TJxb160c b).2.1 := by decide +kernel
theorem tyJxb160c_ok : ∀ k, k < 0 → parseFieldDescriptor (TJxb160c k).2.2.1 = some (tyJxb160c k) := by decide +kernel
def RJ6 : String := "java/lang/Integer"
def TJ6 : u_T := fun k => match k with
  | _ => ("", "", "", false)
def tyJ6 : Nat → FieldType := fun k => match k with
  | _ => .int
abbrev wsJ60 : List Cond := u_ws RJ6 TJ6 0
theorem nmJ6 : ∀ a, a < 0 → ∀ b, b < 0 → a ≠ b → (TJ6 a).2.1 ≠ (TJ6 b).2.1 := by decide +kernel
theorem tyJ6_ok : ∀ k, k < 0 → parseFieldDescriptor (TJ6 k).2.2.1 = some (tyJ6 k) := by decide +kernel
abbrev cJ6_bitCount_0f7a4 : ByteArray := prog_16_method_49_code
def yJ6_bitCount_0f7a4 : MethodName := ⟨RJ6, "bitCount", "(I)I"⟩
def RJ9 : String := "java/lang/Math"
def TJ9 : u_T := fun k => match k with
  | _ => ("", "", "", false)
def tyJ9 : Nat → FieldType := fun k => match k with
  | _ => .int
abbrev wsJ90 : List Cond := u_ws RJ9 TJ9 0
theorem nmJ9 : ∀ a, a < 0 → ∀ b, b < 0 → a ≠ b → (TJ9 a).2.1 ≠ (TJ9 b).2.1 := by decide +kernel
theorem tyJ9_ok : ∀ k, k < 0 → parseFieldDescriptor (TJ9 k).2.2.1 = some (tyJ9 k) := by decide +kernel
abbrev cJ9_max_7cf53 : ByteArray := prog_17_method_65_code
def yJ9_max_7cf53 : MethodName := ⟨RJ9, "max", "(II)I"⟩
abbrev cJ9_min_7cf53 : ByteArray := prog_17_method_69_code
def yJ9_min_7cf53 : MethodName := ⟨RJ9, "min", "(II)I"⟩
def RJ0 : String := "java/lang/String"
def TJ0 : u_T := fun k => match k with
  | _ => ("", "", "", false)
def tyJ0 : Nat → FieldType := fun k => match k with
  | _ => .int
abbrev wsJ00 : List Cond := u_ws RJ0 TJ0 0
theorem nmJ0 : ∀ a, a < 0 → ∀ b, b < 0 → a ≠ b → (TJ0 a).2.1 ≠ (TJ0 b).2.1 := by decide +kernel
theorem tyJ0_ok : ∀ k, k < 0 → parseFieldDescriptor (TJ0 k).2.2.1 = some (tyJ0 k) := by decide +kernel
abbrev cJ0_length_8abf5 : ByteArray := prog_18_method_54_code
def yJ0_length_8abf5 : MethodName := ⟨RJ0, "length", "()I"⟩
abbrev cJ0_charAt_5068e : ByteArray := prog_18_method_56_code
def yJ0_charAt_5068e : MethodName := ⟨RJ0, "charAt", "(I)C"⟩
abbrev cJ0_indexOf_0f7a4 : ByteArray := prog_18_method_79_code
def yJ0_indexOf_0f7a4 : MethodName := ⟨RJ0, "indexOf", "(I)I"⟩
abbrev cJ0_indexOf_7cf53 : ByteArray := prog_18_method_80_code
def yJ0_indexOf_7cf53 : MethodName := ⟨RJ0, "indexOf", "(II)I"⟩
abbrev cJ0_coder_7d493 : ByteArray := prog_18_method_152_code
def yJ0_coder_7d493 : MethodName := ⟨RJ0, "coder", "()B"⟩
abbrev cJ0_isLatin1_aae02 : ByteArray := prog_18_method_154_code
def yJ0_isLatin1_aae02 : MethodName := ⟨RJ0, "isLatin1", "()Z"⟩
abbrev cJ0_checkIndex_df160 : ByteArray := prog_18_method_155_code
def yJ0_checkIndex_df160 : MethodName := ⟨RJ0, "checkIndex", "(II)V"⟩
abbrev cJ0_checkBoundsBeginEnd_23922 : ByteArray := prog_18_method_158_code
def yJ0_checkBoundsBeginEnd_23922 : MethodName := ⟨RJ0, "checkBoundsBeginEnd", "(III)V"⟩
def RJ1 : String := "java/lang/StringLatin1"
def TJ1 : u_T := fun k => match k with
  | _ => ("", "", "", false)
def tyJ1 : Nat → FieldType := fun k => match k with
  | _ => .int
abbrev wsJ10 : List Cond := u_ws RJ1 TJ1 0
theorem nmJ1 : ∀ a, a < 0 → ∀ b, b < 0 → a ≠ b → (TJ1 a).2.1 ≠ (TJ1 b).2.1 := by decide +kernel
theorem tyJ1_ok : ∀ k, k < 0 → parseFieldDescriptor (TJ1 k).2.2.1 = some (tyJ1 k) := by decide +kernel
abbrev cJ1_charAt_3b067 : ByteArray := prog_19_method_2_code
def yJ1_charAt_3b067 : MethodName := ⟨RJ1, "charAt", "([BI)C"⟩
abbrev cJ1_canEncode_9a6ad : ByteArray := prog_19_method_4_code
def yJ1_canEncode_9a6ad : MethodName := ⟨RJ1, "canEncode", "(I)Z"⟩
abbrev cJ1_indexOf_4cfef : ByteArray := prog_19_method_22_code
def yJ1_indexOf_4cfef : MethodName := ⟨RJ1, "indexOf", "([BIII)I"⟩
abbrev cJ1_indexOfChar_4cfef : ByteArray := prog_19_method_23_code
def yJ1_indexOfChar_4cfef : MethodName := ⟨RJ1, "indexOfChar", "([BIII)I"⟩
def RJ2 : String := "java/lang/StringUTF16"
def TJ2 : u_T := fun k => match k with
  | _ => ("", "", "", false)
def tyJ2 : Nat → FieldType := fun k => match k with
  | _ => .int
abbrev wsJ20 : List Cond := u_ws RJ2 TJ2 0
theorem nmJ2 : ∀ a, a < 0 → ∀ b, b < 0 → a ≠ b → (TJ2 a).2.1 ≠ (TJ2 b).2.1 := by decide +kernel
theorem tyJ2_ok : ∀ k, k < 0 → parseFieldDescriptor (TJ2 k).2.2.1 = some (tyJ2 k) := by decide +kernel
abbrev cJ2_getChar_3b067 : ByteArray := prog_20_method_5_code
def yJ2_getChar_3b067 : MethodName := ⟨RJ2, "getChar", "([BI)C"⟩
abbrev cJ2_length_9d52b : ByteArray := prog_20_method_6_code
def yJ2_length_9d52b : MethodName := ⟨RJ2, "length", "([B)I"⟩
abbrev cJ2_indexOf_4cfef : ByteArray := prog_20_method_40_code
def yJ2_indexOf_4cfef : MethodName := ⟨RJ2, "indexOf", "([BIII)I"⟩
abbrev cJ2_indexOfChar_4cfef : ByteArray := prog_20_method_47_code
def yJ2_indexOfChar_4cfef : MethodName := ⟨RJ2, "indexOfChar", "([BIII)I"⟩
abbrev cJ2_indexOfCharUnsafe_4cfef : ByteArray := prog_20_method_48_code
def yJ2_indexOfCharUnsafe_4cfef : MethodName := ⟨RJ2, "indexOfCharUnsafe", "([BIII)I"⟩
abbrev cJ2_indexOfSupplementary_4cfef : ByteArray := prog_20_method_49_code
def yJ2_indexOfSupplementary_4cfef : MethodName := ⟨RJ2, "indexOfSupplementary", "([BIII)I"⟩
abbrev cJ2_charAt_3b067 : ByteArray := prog_20_method_83_code
def yJ2_charAt_3b067 : MethodName := ⟨RJ2, "charAt", "([BI)C"⟩
abbrev cJ2_checkIndex_2214a : ByteArray := prog_20_method_91_code
def yJ2_checkIndex_2214a : MethodName := ⟨RJ2, "checkIndex", "(I[B)V"⟩
abbrev cJ2_checkBoundsBeginEnd_d044e : ByteArray := prog_20_method_93_code
def yJ2_checkBoundsBeginEnd_d044e : MethodName := ⟨RJ2, "checkBoundsBeginEnd", "(II[B)V"⟩
def RJ10 : String := "java/lang/System"
def TJ10 : u_T := fun k => match k with
  | _ => ("", "", "", false)
def tyJ10 : Nat → FieldType := fun k => match k with
  | _ => .int
abbrev wsJ100 : List Cond := u_ws RJ10 TJ10 0
theorem nmJ10 : ∀ a, a < 0 → ∀ b, b < 0 → a ≠ b → (TJ10 a).2.1 ≠ (TJ10 b).2.1 := by decide +kernel
theorem tyJ10_ok : ∀ k, k < 0 → parseFieldDescriptor (TJ10 k).2.2.1 = some (tyJ10 k) := by decide +kernel
def RJxfd54e : String := "java/lang/constant/Constable"
def TJxfd54e : u_T := fun k => match k with
  | _ => ("", "", "", false)
def tyJxfd54e : Nat → FieldType := fun k => match k with
  | _ => .int
theorem nmJxfd54e : ∀ a, a < 0 → ∀ b, b < 0 → a ≠ b → (TJxfd54e a).2.1 ≠ (TJxfd54e b).2.1 := by decide +kernel
theorem tyJxfd54e_ok : ∀ k, k < 0 → parseFieldDescriptor (TJxfd54e k).2.2.1 = some (tyJxfd54e k) := by decide +kernel
def RJx3cf43 : String := "java/lang/constant/ConstantDesc"
def TJx3cf43 : u_T := fun k => match k with
  | _ => ("", "", "", false)
def tyJx3cf43 : Nat → FieldType := fun k => match k with
  | _ => .int
theorem nmJx3cf43 : ∀ a, a < 0 → ∀ b, b < 0 → a ≠ b → (TJx3cf43 a).2.1 ≠ (TJx3cf43 b).2.1 := by decide +kernel
theorem tyJx3cf43_ok : ∀ k, k < 0 → parseFieldDescriptor (TJx3cf43 k).2.2.1 = some (tyJx3cf43 k) := by decide +kernel
def RJ7 : String := "java/util/Arrays"
def TJ7 : u_T := fun k => match k with
  | _ => ("", "", "", false)
def tyJ7 : Nat → FieldType := fun k => match k with
  | _ => .int
abbrev wsJ70 : List Cond := u_ws RJ7 TJ7 0
theorem nmJ7 : ∀ a, a < 0 → ∀ b, b < 0 → a ≠ b → (TJ7 a).2.1 ≠ (TJ7 b).2.1 := by decide +kernel
theorem tyJ7_ok : ∀ k, k < 0 → parseFieldDescriptor (TJ7 k).2.2.1 = some (tyJ7 k) := by decide +kernel
abbrev cJ7_fill_53178 : ByteArray := prog_22_method_103_code
def yJ7_fill_53178 : MethodName := ⟨RJ7, "fill", "([II)V"⟩
def RJ3 : String := "jdk/internal/util/Preconditions"
def TJ3 : u_T := fun k => match k with
  | _ => ("", "", "", false)
def tyJ3 : Nat → FieldType := fun k => match k with
  | _ => .int
abbrev wsJ30 : List Cond := u_ws RJ3 TJ3 0
theorem nmJ3 : ∀ a, a < 0 → ∀ b, b < 0 → a ≠ b → (TJ3 a).2.1 ≠ (TJ3 b).2.1 := by decide +kernel
theorem tyJ3_ok : ∀ k, k < 0 → parseFieldDescriptor (TJ3 k).2.2.1 = some (tyJ3 k) := by decide +kernel
abbrev cJ3_checkIndex_8e157 : ByteArray := prog_23_method_11_code
def yJ3_checkIndex_8e157 : MethodName := ⟨RJ3, "checkIndex", "(IILjava/util/function/BiFunction;)I"⟩
abbrev cJ3_checkFromToIndex_8c36e : ByteArray := prog_23_method_12_code
def yJ3_checkFromToIndex_8c36e : MethodName := ⟨RJ3, "checkFromToIndex", "(IIILjava/util/function/BiFunction;)I"⟩
def RL : String := "SignalBookLaw"
abbrev cL_law : ByteArray := code
theorem in_wsX00 : ∀ w ∈ wsX00, w ∈ lw_tbl := by decide +kernel
theorem in_wsX10 : ∀ w ∈ wsX10, w ∈ lw_tbl := by decide +kernel
theorem in_wsX20 : ∀ w ∈ wsX20, w ∈ lw_tbl := by decide +kernel
theorem in_wsX30 : ∀ w ∈ wsX30, w ∈ lw_tbl := by decide +kernel
theorem in_wsX40 : ∀ w ∈ wsX40, w ∈ lw_tbl := by decide +kernel
theorem in_wsX50 : ∀ w ∈ wsX50, w ∈ lw_tbl := by decide +kernel
theorem in_wsX60 : ∀ w ∈ wsX60, w ∈ lw_tbl := by decide +kernel
theorem in_wsX70 : ∀ w ∈ wsX70, w ∈ lw_tbl := by decide +kernel
theorem in_wsX80 : ∀ w ∈ wsX80, w ∈ lw_tbl := by decide +kernel
theorem in_wsX90 : ∀ w ∈ wsX90, w ∈ lw_tbl := by decide +kernel
theorem in_wsX100 : ∀ w ∈ wsX100, w ∈ lw_tbl := by decide +kernel
theorem in_wsX110 : ∀ w ∈ wsX110, w ∈ lw_tbl := by decide +kernel
theorem in_wsX120 : ∀ w ∈ wsX120, w ∈ lw_tbl := by decide +kernel
theorem in_wsJ110 : ∀ w ∈ wsJ110, w ∈ lw_tbl := by decide +kernel
theorem in_wsJ60 : ∀ w ∈ wsJ60, w ∈ lw_tbl := by decide +kernel
theorem in_wsJ90 : ∀ w ∈ wsJ90, w ∈ lw_tbl := by decide +kernel
theorem in_wsJ00 : ∀ w ∈ wsJ00, w ∈ lw_tbl := by decide +kernel
theorem in_wsJ10 : ∀ w ∈ wsJ10, w ∈ lw_tbl := by decide +kernel
theorem in_wsJ20 : ∀ w ∈ wsJ20, w ∈ lw_tbl := by decide +kernel
theorem in_wsJ100 : ∀ w ∈ wsJ100, w ∈ lw_tbl := by decide +kernel
theorem in_wsJ70 : ∀ w ∈ wsJ70, w ∈ lw_tbl := by decide +kernel
theorem in_wsJ30 : ∀ w ∈ wsJ30, w ∈ lw_tbl := by decide +kernel
