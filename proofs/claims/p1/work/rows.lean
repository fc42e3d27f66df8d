section
-- ===== PART A: goes FIRST, ahead of the names: the tables' words, and 'selects' of the private methods out of them =====
/-- a private method of a class that the tables say can be made, by its rows of tables_1 -/
def lw_okq (q : MethodName × Nat) : Prop := (q.1.cls ≠ "java/lang/invoke/MethodHandle" ∧ q.1.cls ≠ "java/lang/invoke/VarHandle") ∧ Cond.instantiable q.1.cls q.2 ∈ tables_1 ∧ Cond.privateMethod q.1 ∈ tables_1 ∧ Cond.instanceMethod q.1 ∈ tables_1
theorem lw_p0 : lw_okq (⟨"CellCycler$Settings", "clear", "()V"⟩, 12) := ⟨⟨by decide +kernel, by decide +kernel⟩, List.mem_of_getElem? (i := 40) (by decide +kernel), List.mem_of_getElem? (i := 46) (by decide +kernel), List.mem_of_getElem? (i := 47) (by decide +kernel)⟩
theorem lw_p1 : lw_okq (⟨"CellCycler$World", "clear", "()V"⟩, 8) := ⟨⟨by decide +kernel, by decide +kernel⟩, List.mem_of_getElem? (i := 34) (by decide +kernel), List.mem_of_getElem? (i := 481) (by decide +kernel), List.mem_of_getElem? (i := 482) (by decide +kernel)⟩
theorem lw_p2 : lw_okq (⟨"CellCycler$Table", "clear", "()V"⟩, 5) := ⟨⟨by decide +kernel, by decide +kernel⟩, List.mem_of_getElem? (i := 379) (by decide +kernel), List.mem_of_getElem? (i := 486) (by decide +kernel), List.mem_of_getElem? (i := 487) (by decide +kernel)⟩
theorem lw_p3 : lw_okq (⟨"CellCycler$Reader", "readText", "()V"⟩, 7) := ⟨⟨by decide +kernel, by decide +kernel⟩, List.mem_of_getElem? (i := 490) (by decide +kernel), List.mem_of_getElem? (i := 520) (by decide +kernel), List.mem_of_getElem? (i := 521) (by decide +kernel)⟩
theorem lw_p4 : lw_okq (⟨"CellCycler$Reader", "readWord", "()V"⟩, 7) := ⟨⟨by decide +kernel, by decide +kernel⟩, List.mem_of_getElem? (i := 490) (by decide +kernel), List.mem_of_getElem? (i := 524) (by decide +kernel), List.mem_of_getElem? (i := 525) (by decide +kernel)⟩
theorem lw_p5 : lw_okq (⟨"CellCycler$Reader", "skipSpaces", "()V"⟩, 7) := ⟨⟨by decide +kernel, by decide +kernel⟩, List.mem_of_getElem? (i := 490) (by decide +kernel), List.mem_of_getElem? (i := 528) (by decide +kernel), List.mem_of_getElem? (i := 529) (by decide +kernel)⟩
theorem lw_p6 : lw_okq (⟨"CellCycler$Reader", "next", "()I"⟩, 7) := ⟨⟨by decide +kernel, by decide +kernel⟩, List.mem_of_getElem? (i := 490) (by decide +kernel), List.mem_of_getElem? (i := 532) (by decide +kernel), List.mem_of_getElem? (i := 533) (by decide +kernel)⟩
theorem lw_p7 : lw_okq (⟨"CellCycler$Reader", "fail", "(II)V"⟩, 7) := ⟨⟨by decide +kernel, by decide +kernel⟩, List.mem_of_getElem? (i := 490) (by decide +kernel), List.mem_of_getElem? (i := 539) (by decide +kernel), List.mem_of_getElem? (i := 540) (by decide +kernel)⟩
theorem lw_p8 : lw_okq (⟨"CellCycler$Reader", "wordIs", "(Ljava/lang/String;)Z"⟩, 7) := ⟨⟨by decide +kernel, by decide +kernel⟩, List.mem_of_getElem? (i := 490) (by decide +kernel), List.mem_of_getElem? (i := 544) (by decide +kernel), List.mem_of_getElem? (i := 545) (by decide +kernel)⟩
theorem lw_p9 : lw_okq (⟨"CellCycler$Reader", "readCurve", "()V"⟩, 7) := ⟨⟨by decide +kernel, by decide +kernel⟩, List.mem_of_getElem? (i := 490) (by decide +kernel), List.mem_of_getElem? (i := 599) (by decide +kernel), List.mem_of_getElem? (i := 600) (by decide +kernel)⟩
theorem lw_p10 : lw_okq (⟨"CellCycler$Curves", "find", "(J)I"⟩, 4) := ⟨⟨by decide +kernel, by decide +kernel⟩, List.mem_of_getElem? (i := 123) (by decide +kernel), List.mem_of_getElem? (i := 608) (by decide +kernel), List.mem_of_getElem? (i := 609) (by decide +kernel)⟩
theorem lw_p11 : lw_okq (⟨"CellCycler$Curves", "add", "(J)V"⟩, 4) := ⟨⟨by decide +kernel, by decide +kernel⟩, List.mem_of_getElem? (i := 123) (by decide +kernel), List.mem_of_getElem? (i := 612) (by decide +kernel), List.mem_of_getElem? (i := 613) (by decide +kernel)⟩
theorem lw_p12 : lw_okq (⟨"CellCycler$Reader", "readNumber", "(II)I"⟩, 7) := ⟨⟨by decide +kernel, by decide +kernel⟩, List.mem_of_getElem? (i := 490) (by decide +kernel), List.mem_of_getElem? (i := 620) (by decide +kernel), List.mem_of_getElem? (i := 621) (by decide +kernel)⟩
theorem lw_p13 : lw_okq (⟨"CellCycler$Curves", "addVoltageToLast", "(I)V"⟩, 4) := ⟨⟨by decide +kernel, by decide +kernel⟩, List.mem_of_getElem? (i := 123) (by decide +kernel), List.mem_of_getElem? (i := 628) (by decide +kernel), List.mem_of_getElem? (i := 629) (by decide +kernel)⟩
theorem lw_p14 : lw_okq (⟨"CellCycler$Reader", "readCell", "()V"⟩, 7) := ⟨⟨by decide +kernel, by decide +kernel⟩, List.mem_of_getElem? (i := 490) (by decide +kernel), List.mem_of_getElem? (i := 634) (by decide +kernel), List.mem_of_getElem? (i := 635) (by decide +kernel)⟩
theorem lw_p15 : lw_okq (⟨"CellCycler$World", "channelAt", "(I)LCellCycler$Channel;"⟩, 8) := ⟨⟨by decide +kernel, by decide +kernel⟩, List.mem_of_getElem? (i := 34) (by decide +kernel), List.mem_of_getElem? (i := 638) (by decide +kernel), List.mem_of_getElem? (i := 639) (by decide +kernel)⟩
def lw_privs_1 : List (MethodName × Nat) := [(⟨"CellCycler$Settings", "clear", "()V"⟩, 12), (⟨"CellCycler$World", "clear", "()V"⟩, 8), (⟨"CellCycler$Table", "clear", "()V"⟩, 5), (⟨"CellCycler$Reader", "readText", "()V"⟩, 7), (⟨"CellCycler$Reader", "readWord", "()V"⟩, 7), (⟨"CellCycler$Reader", "skipSpaces", "()V"⟩, 7), (⟨"CellCycler$Reader", "next", "()I"⟩, 7), (⟨"CellCycler$Reader", "fail", "(II)V"⟩, 7), (⟨"CellCycler$Reader", "wordIs", "(Ljava/lang/String;)Z"⟩, 7), (⟨"CellCycler$Reader", "readCurve", "()V"⟩, 7), (⟨"CellCycler$Curves", "find", "(J)I"⟩, 4), (⟨"CellCycler$Curves", "add", "(J)V"⟩, 4), (⟨"CellCycler$Reader", "readNumber", "(II)I"⟩, 7), (⟨"CellCycler$Curves", "addVoltageToLast", "(I)V"⟩, 4), (⟨"CellCycler$Reader", "readCell", "()V"⟩, 7), (⟨"CellCycler$World", "channelAt", "(I)LCellCycler$Channel;"⟩, 8)]
theorem lw_r1 : ∀ q ∈ lw_privs_1, lw_okq q := List.forall_mem_cons.mpr ⟨lw_p0, List.forall_mem_cons.mpr ⟨lw_p1, List.forall_mem_cons.mpr ⟨lw_p2, List.forall_mem_cons.mpr ⟨lw_p3, List.forall_mem_cons.mpr ⟨lw_p4, List.forall_mem_cons.mpr ⟨lw_p5, List.forall_mem_cons.mpr ⟨lw_p6, List.forall_mem_cons.mpr ⟨lw_p7, List.forall_mem_cons.mpr ⟨lw_p8, List.forall_mem_cons.mpr ⟨lw_p9, List.forall_mem_cons.mpr ⟨lw_p10, List.forall_mem_cons.mpr ⟨lw_p11, List.forall_mem_cons.mpr ⟨lw_p12, List.forall_mem_cons.mpr ⟨lw_p13, List.forall_mem_cons.mpr ⟨lw_p14, List.forall_mem_cons.mpr ⟨lw_p15, fun _ h => absurd h List.not_mem_nil⟩⟩⟩⟩⟩⟩⟩⟩⟩⟩⟩⟩⟩⟩⟩⟩
theorem lw_p16 : lw_okq (⟨"CellCycler$Cell", "takeCurve", "(LCellCycler$Curves;I)V"⟩, 16) := ⟨⟨by decide +kernel, by decide +kernel⟩, List.mem_of_getElem? (i := 180) (by decide +kernel), List.mem_of_getElem? (i := 642) (by decide +kernel), List.mem_of_getElem? (i := 643) (by decide +kernel)⟩
theorem lw_p17 : lw_okq (⟨"CellCycler$Curves", "voltageOf", "(II)I"⟩, 4) := ⟨⟨by decide +kernel, by decide +kernel⟩, List.mem_of_getElem? (i := 123) (by decide +kernel), List.mem_of_getElem? (i := 647) (by decide +kernel), List.mem_of_getElem? (i := 648) (by decide +kernel)⟩
theorem lw_p18 : lw_okq (⟨"CellCycler$Reader", "readProgram", "()V"⟩, 7) := ⟨⟨by decide +kernel, by decide +kernel⟩, List.mem_of_getElem? (i := 490) (by decide +kernel), List.mem_of_getElem? (i := 654) (by decide +kernel), List.mem_of_getElem? (i := 655) (by decide +kernel)⟩
theorem lw_p19 : lw_okq (⟨"CellCycler$Programs", "add", "()V"⟩, 5) := ⟨⟨by decide +kernel, by decide +kernel⟩, List.mem_of_getElem? (i := 148) (by decide +kernel), List.mem_of_getElem? (i := 658) (by decide +kernel), List.mem_of_getElem? (i := 659) (by decide +kernel)⟩
theorem lw_p20 : lw_okq (⟨"CellCycler$Reader", "readStep", "(LCellCycler$Programs;I)V"⟩, 7) := ⟨⟨by decide +kernel, by decide +kernel⟩, List.mem_of_getElem? (i := 490) (by decide +kernel), List.mem_of_getElem? (i := 663) (by decide +kernel), List.mem_of_getElem? (i := 664) (by decide +kernel)⟩
theorem lw_p21 : lw_okq (⟨"CellCycler$Programs", "addStepToLast", "(III)V"⟩, 5) := ⟨⟨by decide +kernel, by decide +kernel⟩, List.mem_of_getElem? (i := 148) (by decide +kernel), List.mem_of_getElem? (i := 668) (by decide +kernel), List.mem_of_getElem? (i := 669) (by decide +kernel)⟩
theorem lw_p22 : lw_okq (⟨"CellCycler$Reader", "readSetting", "(LCellCycler$Settings;)V"⟩, 7) := ⟨⟨by decide +kernel, by decide +kernel⟩, List.mem_of_getElem? (i := 490) (by decide +kernel), List.mem_of_getElem? (i := 677) (by decide +kernel), List.mem_of_getElem? (i := 678) (by decide +kernel)⟩
theorem lw_p23 : lw_okq (⟨"CellCycler$World", "insertCells", "()V"⟩, 8) := ⟨⟨by decide +kernel, by decide +kernel⟩, List.mem_of_getElem? (i := 34) (by decide +kernel), List.mem_of_getElem? (i := 689) (by decide +kernel), List.mem_of_getElem? (i := 690) (by decide +kernel)⟩
theorem lw_p24 : lw_okq (⟨"CellCycler$Channel", "insertCell", "(II)V"⟩, 14) := ⟨⟨by decide +kernel, by decide +kernel⟩, List.mem_of_getElem? (i := 174) (by decide +kernel), List.mem_of_getElem? (i := 694) (by decide +kernel), List.mem_of_getElem? (i := 695) (by decide +kernel)⟩
theorem lw_p25 : lw_okq (⟨"CellCycler$Cell", "renew", "(II)V"⟩, 16) := ⟨⟨by decide +kernel, by decide +kernel⟩, List.mem_of_getElem? (i := 180) (by decide +kernel), List.mem_of_getElem? (i := 698) (by decide +kernel), List.mem_of_getElem? (i := 699) (by decide +kernel)⟩
theorem lw_p26 : lw_okq (⟨"CellCycler$Ledger", "clear", "()V"⟩, 4) := ⟨⟨by decide +kernel, by decide +kernel⟩, List.mem_of_getElem? (i := 186) (by decide +kernel), List.mem_of_getElem? (i := 702) (by decide +kernel), List.mem_of_getElem? (i := 703) (by decide +kernel)⟩
theorem lw_p27 : lw_okq (⟨"CellCycler$Meter", "clear", "()V"⟩, 7) := ⟨⟨by decide +kernel, by decide +kernel⟩, List.mem_of_getElem? (i := 285) (by decide +kernel), List.mem_of_getElem? (i := 706) (by decide +kernel), List.mem_of_getElem? (i := 707) (by decide +kernel)⟩
theorem lw_p28 : lw_okq (⟨"CellCycler$World", "copyFrom", "(LCellCycler$World;)V"⟩, 8) := ⟨⟨by decide +kernel, by decide +kernel⟩, List.mem_of_getElem? (i := 34) (by decide +kernel), List.mem_of_getElem? (i := 714) (by decide +kernel), List.mem_of_getElem? (i := 715) (by decide +kernel)⟩
theorem lw_p29 : lw_okq (⟨"CellCycler$Settings", "copyFrom", "(LCellCycler$Settings;)V"⟩, 12) := ⟨⟨by decide +kernel, by decide +kernel⟩, List.mem_of_getElem? (i := 40) (by decide +kernel), List.mem_of_getElem? (i := 718) (by decide +kernel), List.mem_of_getElem? (i := 719) (by decide +kernel)⟩
theorem lw_p30 : lw_okq (⟨"CellCycler$Curves", "copyFrom", "(LCellCycler$Curves;)V"⟩, 4) := ⟨⟨by decide +kernel, by decide +kernel⟩, List.mem_of_getElem? (i := 123) (by decide +kernel), List.mem_of_getElem? (i := 722) (by decide +kernel), List.mem_of_getElem? (i := 723) (by decide +kernel)⟩
theorem lw_p31 : lw_okq (⟨"CellCycler$Programs", "copyFrom", "(LCellCycler$Programs;)V"⟩, 5) := ⟨⟨by decide +kernel, by decide +kernel⟩, List.mem_of_getElem? (i := 148) (by decide +kernel), List.mem_of_getElem? (i := 735) (by decide +kernel), List.mem_of_getElem? (i := 736) (by decide +kernel)⟩
def lw_privs_2 : List (MethodName × Nat) := [(⟨"CellCycler$Cell", "takeCurve", "(LCellCycler$Curves;I)V"⟩, 16), (⟨"CellCycler$Curves", "voltageOf", "(II)I"⟩, 4), (⟨"CellCycler$Reader", "readProgram", "()V"⟩, 7), (⟨"CellCycler$Programs", "add", "()V"⟩, 5), (⟨"CellCycler$Reader", "readStep", "(LCellCycler$Programs;I)V"⟩, 7), (⟨"CellCycler$Programs", "addStepToLast", "(III)V"⟩, 5), (⟨"CellCycler$Reader", "readSetting", "(LCellCycler$Settings;)V"⟩, 7), (⟨"CellCycler$World", "insertCells", "()V"⟩, 8), (⟨"CellCycler$Channel", "insertCell", "(II)V"⟩, 14), (⟨"CellCycler$Cell", "renew", "(II)V"⟩, 16), (⟨"CellCycler$Ledger", "clear", "()V"⟩, 4), (⟨"CellCycler$Meter", "clear", "()V"⟩, 7), (⟨"CellCycler$World", "copyFrom", "(LCellCycler$World;)V"⟩, 8), (⟨"CellCycler$Settings", "copyFrom", "(LCellCycler$Settings;)V"⟩, 12), (⟨"CellCycler$Curves", "copyFrom", "(LCellCycler$Curves;)V"⟩, 4), (⟨"CellCycler$Programs", "copyFrom", "(LCellCycler$Programs;)V"⟩, 5)]
theorem lw_r2 : ∀ q ∈ lw_privs_2, lw_okq q := List.forall_mem_cons.mpr ⟨lw_p16, List.forall_mem_cons.mpr ⟨lw_p17, List.forall_mem_cons.mpr ⟨lw_p18, List.forall_mem_cons.mpr ⟨lw_p19, List.forall_mem_cons.mpr ⟨lw_p20, List.forall_mem_cons.mpr ⟨lw_p21, List.forall_mem_cons.mpr ⟨lw_p22, List.forall_mem_cons.mpr ⟨lw_p23, List.forall_mem_cons.mpr ⟨lw_p24, List.forall_mem_cons.mpr ⟨lw_p25, List.forall_mem_cons.mpr ⟨lw_p26, List.forall_mem_cons.mpr ⟨lw_p27, List.forall_mem_cons.mpr ⟨lw_p28, List.forall_mem_cons.mpr ⟨lw_p29, List.forall_mem_cons.mpr ⟨lw_p30, List.forall_mem_cons.mpr ⟨lw_p31, fun _ h => absurd h List.not_mem_nil⟩⟩⟩⟩⟩⟩⟩⟩⟩⟩⟩⟩⟩⟩⟩⟩
theorem lw_p32 : lw_okq (⟨"CellCycler$Channel", "copyFrom", "(LCellCycler$Channel;)V"⟩, 14) := ⟨⟨by decide +kernel, by decide +kernel⟩, List.mem_of_getElem? (i := 174) (by decide +kernel), List.mem_of_getElem? (i := 740) (by decide +kernel), List.mem_of_getElem? (i := 741) (by decide +kernel)⟩
theorem lw_p33 : lw_okq (⟨"CellCycler$Cell", "copyFrom", "(LCellCycler$Cell;)V"⟩, 16) := ⟨⟨by decide +kernel, by decide +kernel⟩, List.mem_of_getElem? (i := 180) (by decide +kernel), List.mem_of_getElem? (i := 744) (by decide +kernel), List.mem_of_getElem? (i := 745) (by decide +kernel)⟩
theorem lw_p34 : lw_okq (⟨"CellCycler$Ledger", "copyFrom", "(LCellCycler$Ledger;)V"⟩, 4) := ⟨⟨by decide +kernel, by decide +kernel⟩, List.mem_of_getElem? (i := 186) (by decide +kernel), List.mem_of_getElem? (i := 749) (by decide +kernel), List.mem_of_getElem? (i := 750) (by decide +kernel)⟩
theorem lw_p35 : lw_okq (⟨"CellCycler$Meter", "copyFrom", "(LCellCycler$Meter;)V"⟩, 7) := ⟨⟨by decide +kernel, by decide +kernel⟩, List.mem_of_getElem? (i := 285) (by decide +kernel), List.mem_of_getElem? (i := 753) (by decide +kernel), List.mem_of_getElem? (i := 754) (by decide +kernel)⟩
theorem lw_p36 : lw_okq (⟨"CellCycler$Table", "copyFrom", "(LCellCycler$Table;)V"⟩, 5) := ⟨⟨by decide +kernel, by decide +kernel⟩, List.mem_of_getElem? (i := 379) (by decide +kernel), List.mem_of_getElem? (i := 759) (by decide +kernel), List.mem_of_getElem? (i := 760) (by decide +kernel)⟩
theorem lw_p37 : lw_okq (⟨"java/lang/Throwable", "fillInStackTrace", "(I)Ljava/lang/Throwable;"⟩, 6) := ⟨⟨by decide +kernel, by decide +kernel⟩, List.mem_of_getElem? (i := 848) (by decide +kernel), List.mem_of_getElem? (i := 846) (by decide +kernel), List.mem_of_getElem? (i := 847) (by decide +kernel)⟩
theorem lw_p38 : lw_okq (⟨"CellCycler", "needProgram", "(I)V"⟩, 6) := ⟨⟨by decide +kernel, by decide +kernel⟩, List.mem_of_getElem? (i := 26) (by decide +kernel), List.mem_of_getElem? (i := 909) (by decide +kernel), List.mem_of_getElem? (i := 910) (by decide +kernel)⟩
theorem lw_p39 : lw_okq (⟨"CellCycler$Programs", "stepsOf", "(I)I"⟩, 5) := ⟨⟨by decide +kernel, by decide +kernel⟩, List.mem_of_getElem? (i := 148) (by decide +kernel), List.mem_of_getElem? (i := 928) (by decide +kernel), List.mem_of_getElem? (i := 929) (by decide +kernel)⟩
theorem lw_p40 : lw_okq (⟨"CellCycler$Programs", "kindOf", "(II)I"⟩, 5) := ⟨⟨by decide +kernel, by decide +kernel⟩, List.mem_of_getElem? (i := 148) (by decide +kernel), List.mem_of_getElem? (i := 932) (by decide +kernel), List.mem_of_getElem? (i := 933) (by decide +kernel)⟩
theorem lw_p41 : lw_okq (⟨"CellCycler$Programs", "firstOf", "(II)I"⟩, 5) := ⟨⟨by decide +kernel, by decide +kernel⟩, List.mem_of_getElem? (i := 148) (by decide +kernel), List.mem_of_getElem? (i := 936) (by decide +kernel), List.mem_of_getElem? (i := 937) (by decide +kernel)⟩
theorem lw_p42 : lw_okq (⟨"CellCycler$Programs", "secondOf", "(II)I"⟩, 5) := ⟨⟨by decide +kernel, by decide +kernel⟩, List.mem_of_getElem? (i := 148) (by decide +kernel), List.mem_of_getElem? (i := 940) (by decide +kernel), List.mem_of_getElem? (i := 941) (by decide +kernel)⟩
theorem lw_p43 : lw_okq (⟨"CellCycler$Channel", "passTick", "(LCellCycler$World;)Z"⟩, 14) := ⟨⟨by decide +kernel, by decide +kernel⟩, List.mem_of_getElem? (i := 174) (by decide +kernel), List.mem_of_getElem? (i := 952) (by decide +kernel), List.mem_of_getElem? (i := 953) (by decide +kernel)⟩
theorem lw_p44 : lw_okq (⟨"CellCycler$Channel", "wantedCurrent", "(LCellCycler$World;)I"⟩, 14) := ⟨⟨by decide +kernel, by decide +kernel⟩, List.mem_of_getElem? (i := 174) (by decide +kernel), List.mem_of_getElem? (i := 956) (by decide +kernel), List.mem_of_getElem? (i := 957) (by decide +kernel)⟩
theorem lw_p45 : lw_okq (⟨"CellCycler$Cell", "holding", "(I)I"⟩, 16) := ⟨⟨by decide +kernel, by decide +kernel⟩, List.mem_of_getElem? (i := 180) (by decide +kernel), List.mem_of_getElem? (i := 962) (by decide +kernel), List.mem_of_getElem? (i := 963) (by decide +kernel)⟩
theorem lw_p46 : lw_okq (⟨"CellCycler$Cell", "restVoltageAt", "(I)I"⟩, 16) := ⟨⟨by decide +kernel, by decide +kernel⟩, List.mem_of_getElem? (i := 180) (by decide +kernel), List.mem_of_getElem? (i := 966) (by decide +kernel), List.mem_of_getElem? (i := 967) (by decide +kernel)⟩
theorem lw_p47 : lw_okq (⟨"CellCycler$Cell", "allowed", "(ILCellCycler$Settings;)I"⟩, 16) := ⟨⟨by decide +kernel, by decide +kernel⟩, List.mem_of_getElem? (i := 180) (by decide +kernel), List.mem_of_getElem? (i := 979) (by decide +kernel), List.mem_of_getElem? (i := 980) (by decide +kernel)⟩
def lw_privs_3 : List (MethodName × Nat) := [(⟨"CellCycler$Channel", "copyFrom", "(LCellCycler$Channel;)V"⟩, 14), (⟨"CellCycler$Cell", "copyFrom", "(LCellCycler$Cell;)V"⟩, 16), (⟨"CellCycler$Ledger", "copyFrom", "(LCellCycler$Ledger;)V"⟩, 4), (⟨"CellCycler$Meter", "copyFrom", "(LCellCycler$Meter;)V"⟩, 7), (⟨"CellCycler$Table", "copyFrom", "(LCellCycler$Table;)V"⟩, 5), (⟨"java/lang/Throwable", "fillInStackTrace", "(I)Ljava/lang/Throwable;"⟩, 6), (⟨"CellCycler", "needProgram", "(I)V"⟩, 6), (⟨"CellCycler$Programs", "stepsOf", "(I)I"⟩, 5), (⟨"CellCycler$Programs", "kindOf", "(II)I"⟩, 5), (⟨"CellCycler$Programs", "firstOf", "(II)I"⟩, 5), (⟨"CellCycler$Programs", "secondOf", "(II)I"⟩, 5), (⟨"CellCycler$Channel", "passTick", "(LCellCycler$World;)Z"⟩, 14), (⟨"CellCycler$Channel", "wantedCurrent", "(LCellCycler$World;)I"⟩, 14), (⟨"CellCycler$Cell", "holding", "(I)I"⟩, 16), (⟨"CellCycler$Cell", "restVoltageAt", "(I)I"⟩, 16), (⟨"CellCycler$Cell", "allowed", "(ILCellCycler$Settings;)I"⟩, 16)]
theorem lw_r3 : ∀ q ∈ lw_privs_3, lw_okq q := List.forall_mem_cons.mpr ⟨lw_p32, List.forall_mem_cons.mpr ⟨lw_p33, List.forall_mem_cons.mpr ⟨lw_p34, List.forall_mem_cons.mpr ⟨lw_p35, List.forall_mem_cons.mpr ⟨lw_p36, List.forall_mem_cons.mpr ⟨lw_p37, List.forall_mem_cons.mpr ⟨lw_p38, List.forall_mem_cons.mpr ⟨lw_p39, List.forall_mem_cons.mpr ⟨lw_p40, List.forall_mem_cons.mpr ⟨lw_p41, List.forall_mem_cons.mpr ⟨lw_p42, List.forall_mem_cons.mpr ⟨lw_p43, List.forall_mem_cons.mpr ⟨lw_p44, List.forall_mem_cons.mpr ⟨lw_p45, List.forall_mem_cons.mpr ⟨lw_p46, List.forall_mem_cons.mpr ⟨lw_p47, fun _ h => absurd h List.not_mem_nil⟩⟩⟩⟩⟩⟩⟩⟩⟩⟩⟩⟩⟩⟩⟩⟩
theorem lw_p48 : lw_okq (⟨"CellCycler$Cell", "passCurrent", "(ILCellCycler$Settings;)V"⟩, 16) := ⟨⟨by decide +kernel, by decide +kernel⟩, List.mem_of_getElem? (i := 180) (by decide +kernel), List.mem_of_getElem? (i := 984) (by decide +kernel), List.mem_of_getElem? (i := 985) (by decide +kernel)⟩
theorem lw_p49 : lw_okq (⟨"CellCycler$Cell", "polarize", "(I)V"⟩, 16) := ⟨⟨by decide +kernel, by decide +kernel⟩, List.mem_of_getElem? (i := 180) (by decide +kernel), List.mem_of_getElem? (i := 988) (by decide +kernel), List.mem_of_getElem? (i := 989) (by decide +kernel)⟩
theorem lw_p50 : lw_okq (⟨"CellCycler$Cell", "moveCharge", "(ILCellCycler$Settings;)V"⟩, 16) := ⟨⟨by decide +kernel, by decide +kernel⟩, List.mem_of_getElem? (i := 180) (by decide +kernel), List.mem_of_getElem? (i := 995) (by decide +kernel), List.mem_of_getElem? (i := 996) (by decide +kernel)⟩
theorem lw_p51 : lw_okq (⟨"CellCycler$Cell", "wear", "(ILCellCycler$Settings;)V"⟩, 16) := ⟨⟨by decide +kernel, by decide +kernel⟩, List.mem_of_getElem? (i := 180) (by decide +kernel), List.mem_of_getElem? (i := 1000) (by decide +kernel), List.mem_of_getElem? (i := 1001) (by decide +kernel)⟩
theorem lw_p52 : lw_okq (⟨"CellCycler$Cell", "warm", "(ILCellCycler$Settings;)V"⟩, 16) := ⟨⟨by decide +kernel, by decide +kernel⟩, List.mem_of_getElem? (i := 180) (by decide +kernel), List.mem_of_getElem? (i := 1007) (by decide +kernel), List.mem_of_getElem? (i := 1008) (by decide +kernel)⟩
theorem lw_p53 : lw_okq (⟨"CellCycler$Cell", "thousandths", "()I"⟩, 16) := ⟨⟨by decide +kernel, by decide +kernel⟩, List.mem_of_getElem? (i := 180) (by decide +kernel), List.mem_of_getElem? (i := 1011) (by decide +kernel), List.mem_of_getElem? (i := 1012) (by decide +kernel)⟩
theorem lw_p54 : lw_okq (⟨"CellCycler$Meter", "countFilling", "(I)V"⟩, 7) := ⟨⟨by decide +kernel, by decide +kernel⟩, List.mem_of_getElem? (i := 285) (by decide +kernel), List.mem_of_getElem? (i := 1015) (by decide +kernel), List.mem_of_getElem? (i := 1016) (by decide +kernel)⟩
theorem lw_p55 : lw_okq (⟨"CellCycler$Channel", "warn", "(LCellCycler$World;)V"⟩, 14) := ⟨⟨by decide +kernel, by decide +kernel⟩, List.mem_of_getElem? (i := 174) (by decide +kernel), List.mem_of_getElem? (i := 1024) (by decide +kernel), List.mem_of_getElem? (i := 1025) (by decide +kernel)⟩
theorem lw_p56 : lw_okq (⟨"CellCycler$World", "note", "(III)V"⟩, 8) := ⟨⟨by decide +kernel, by decide +kernel⟩, List.mem_of_getElem? (i := 34) (by decide +kernel), List.mem_of_getElem? (i := 1028) (by decide +kernel), List.mem_of_getElem? (i := 1029) (by decide +kernel)⟩
theorem lw_p57 : lw_okq (⟨"CellCycler$Table", "addRow", "()V"⟩, 5) := ⟨⟨by decide +kernel, by decide +kernel⟩, List.mem_of_getElem? (i := 379) (by decide +kernel), List.mem_of_getElem? (i := 1032) (by decide +kernel), List.mem_of_getElem? (i := 1033) (by decide +kernel)⟩
theorem lw_p58 : lw_okq (⟨"CellCycler$Table", "placeOf", "(I)I"⟩, 5) := ⟨⟨by decide +kernel, by decide +kernel⟩, List.mem_of_getElem? (i := 379) (by decide +kernel), List.mem_of_getElem? (i := 1036) (by decide +kernel), List.mem_of_getElem? (i := 1037) (by decide +kernel)⟩
theorem lw_p59 : lw_okq (⟨"CellCycler$Channel", "stepEnds", "(LCellCycler$Programs;)Z"⟩, 14) := ⟨⟨by decide +kernel, by decide +kernel⟩, List.mem_of_getElem? (i := 174) (by decide +kernel), List.mem_of_getElem? (i := 1041) (by decide +kernel), List.mem_of_getElem? (i := 1042) (by decide +kernel)⟩
theorem lw_p60 : lw_okq (⟨"CellCycler$Channel", "tripReason", "(LCellCycler$Settings;Z)I"⟩, 14) := ⟨⟨by decide +kernel, by decide +kernel⟩, List.mem_of_getElem? (i := 174) (by decide +kernel), List.mem_of_getElem? (i := 1046) (by decide +kernel), List.mem_of_getElem? (i := 1047) (by decide +kernel)⟩
theorem lw_p61 : lw_okq (⟨"CellCycler$Channel", "trip", "(ILCellCycler$World;)V"⟩, 14) := ⟨⟨by decide +kernel, by decide +kernel⟩, List.mem_of_getElem? (i := 174) (by decide +kernel), List.mem_of_getElem? (i := 1050) (by decide +kernel), List.mem_of_getElem? (i := 1051) (by decide +kernel)⟩
theorem lw_p62 : lw_okq (⟨"CellCycler$Channel", "measureEnd", "(LCellCycler$World;)V"⟩, 14) := ⟨⟨by decide +kernel, by decide +kernel⟩, List.mem_of_getElem? (i := 174) (by decide +kernel), List.mem_of_getElem? (i := 1054) (by decide +kernel), List.mem_of_getElem? (i := 1055) (by decide +kernel)⟩
theorem lw_p63 : lw_okq (⟨"CellCycler$Channel", "makeRecord", "(LCellCycler$World;)V"⟩, 14) := ⟨⟨by decide +kernel, by decide +kernel⟩, List.mem_of_getElem? (i := 174) (by decide +kernel), List.mem_of_getElem? (i := 1058) (by decide +kernel), List.mem_of_getElem? (i := 1059) (by decide +kernel)⟩
def lw_privs_4 : List (MethodName × Nat) := [(⟨"CellCycler$Cell", "passCurrent", "(ILCellCycler$Settings;)V"⟩, 16), (⟨"CellCycler$Cell", "polarize", "(I)V"⟩, 16), (⟨"CellCycler$Cell", "moveCharge", "(ILCellCycler$Settings;)V"⟩, 16), (⟨"CellCycler$Cell", "wear", "(ILCellCycler$Settings;)V"⟩, 16), (⟨"CellCycler$Cell", "warm", "(ILCellCycler$Settings;)V"⟩, 16), (⟨"CellCycler$Cell", "thousandths", "()I"⟩, 16), (⟨"CellCycler$Meter", "countFilling", "(I)V"⟩, 7), (⟨"CellCycler$Channel", "warn", "(LCellCycler$World;)V"⟩, 14), (⟨"CellCycler$World", "note", "(III)V"⟩, 8), (⟨"CellCycler$Table", "addRow", "()V"⟩, 5), (⟨"CellCycler$Table", "placeOf", "(I)I"⟩, 5), (⟨"CellCycler$Channel", "stepEnds", "(LCellCycler$Programs;)Z"⟩, 14), (⟨"CellCycler$Channel", "tripReason", "(LCellCycler$Settings;Z)I"⟩, 14), (⟨"CellCycler$Channel", "trip", "(ILCellCycler$World;)V"⟩, 14), (⟨"CellCycler$Channel", "measureEnd", "(LCellCycler$World;)V"⟩, 14), (⟨"CellCycler$Channel", "makeRecord", "(LCellCycler$World;)V"⟩, 14)]
theorem lw_r4 : ∀ q ∈ lw_privs_4, lw_okq q := List.forall_mem_cons.mpr ⟨lw_p48, List.forall_mem_cons.mpr ⟨lw_p49, List.forall_mem_cons.mpr ⟨lw_p50, List.forall_mem_cons.mpr ⟨lw_p51, List.forall_mem_cons.mpr ⟨lw_p52, List.forall_mem_cons.mpr ⟨lw_p53, List.forall_mem_cons.mpr ⟨lw_p54, List.forall_mem_cons.mpr ⟨lw_p55, List.forall_mem_cons.mpr ⟨lw_p56, List.forall_mem_cons.mpr ⟨lw_p57, List.forall_mem_cons.mpr ⟨lw_p58, List.forall_mem_cons.mpr ⟨lw_p59, List.forall_mem_cons.mpr ⟨lw_p60, List.forall_mem_cons.mpr ⟨lw_p61, List.forall_mem_cons.mpr ⟨lw_p62, List.forall_mem_cons.mpr ⟨lw_p63, fun _ h => absurd h List.not_mem_nil⟩⟩⟩⟩⟩⟩⟩⟩⟩⟩⟩⟩⟩⟩⟩⟩
theorem lw_p64 : lw_okq (⟨"CellCycler$Channel", "countFromHere", "()V"⟩, 14) := ⟨⟨by decide +kernel, by decide +kernel⟩, List.mem_of_getElem? (i := 174) (by decide +kernel), List.mem_of_getElem? (i := 1065) (by decide +kernel), List.mem_of_getElem? (i := 1066) (by decide +kernel)⟩
theorem lw_p65 : lw_okq (⟨"CellCycler$Channel", "leaveStep", "(LCellCycler$World;)V"⟩, 14) := ⟨⟨by decide +kernel, by decide +kernel⟩, List.mem_of_getElem? (i := 174) (by decide +kernel), List.mem_of_getElem? (i := 1069) (by decide +kernel), List.mem_of_getElem? (i := 1070) (by decide +kernel)⟩
theorem lw_p66 : lw_okq (⟨"CellCycler$Channel", "stepBehind", "(LCellCycler$Programs;)I"⟩, 14) := ⟨⟨by decide +kernel, by decide +kernel⟩, List.mem_of_getElem? (i := 174) (by decide +kernel), List.mem_of_getElem? (i := 1073) (by decide +kernel), List.mem_of_getElem? (i := 1074) (by decide +kernel)⟩
theorem lw_p67 : lw_okq (⟨"CellCycler$Channel", "enterStep", "(I)V"⟩, 14) := ⟨⟨by decide +kernel, by decide +kernel⟩, List.mem_of_getElem? (i := 174) (by decide +kernel), List.mem_of_getElem? (i := 1079) (by decide +kernel), List.mem_of_getElem? (i := 1080) (by decide +kernel)⟩
theorem lw_p68 : lw_okq (⟨"CellCycler$Channel", "takeWaiting", "()I"⟩, 14) := ⟨⟨by decide +kernel, by decide +kernel⟩, List.mem_of_getElem? (i := 174) (by decide +kernel), List.mem_of_getElem? (i := 1083) (by decide +kernel), List.mem_of_getElem? (i := 1084) (by decide +kernel)⟩
theorem lw_p69 : lw_okq (⟨"CellCycler$Channel", "begin", "(ILCellCycler$World;)V"⟩, 14) := ⟨⟨by decide +kernel, by decide +kernel⟩, List.mem_of_getElem? (i := 174) (by decide +kernel), List.mem_of_getElem? (i := 1088) (by decide +kernel), List.mem_of_getElem? (i := 1089) (by decide +kernel)⟩
theorem lw_p70 : lw_okq (⟨"CellCycler", "needChannel", "(I)LCellCycler$Channel;"⟩, 6) := ⟨⟨by decide +kernel, by decide +kernel⟩, List.mem_of_getElem? (i := 26) (by decide +kernel), List.mem_of_getElem? (i := 1099) (by decide +kernel), List.mem_of_getElem? (i := 1100) (by decide +kernel)⟩
theorem lw_p71 : lw_okq (⟨"CellCycler$Channel", "isFree", "()Z"⟩, 14) := ⟨⟨by decide +kernel, by decide +kernel⟩, List.mem_of_getElem? (i := 174) (by decide +kernel), List.mem_of_getElem? (i := 1103) (by decide +kernel), List.mem_of_getElem? (i := 1104) (by decide +kernel)⟩
theorem lw_p72 : lw_okq (⟨"CellCycler$World", "channelsIn", "(I)I"⟩, 8) := ⟨⟨by decide +kernel, by decide +kernel⟩, List.mem_of_getElem? (i := 34) (by decide +kernel), List.mem_of_getElem? (i := 1108) (by decide +kernel), List.mem_of_getElem? (i := 1109) (by decide +kernel)⟩
theorem lw_p73 : lw_okq (⟨"CellCycler$Channel", "number", "(I)I"⟩, 14) := ⟨⟨by decide +kernel, by decide +kernel⟩, List.mem_of_getElem? (i := 174) (by decide +kernel), List.mem_of_getElem? (i := 1199) (by decide +kernel), List.mem_of_getElem? (i := 1200) (by decide +kernel)⟩
theorem lw_p74 : lw_okq (⟨"CellCycler$Cell", "smallestChargeFor", "(I)I"⟩, 16) := ⟨⟨by decide +kernel, by decide +kernel⟩, List.mem_of_getElem? (i := 180) (by decide +kernel), List.mem_of_getElem? (i := 1219) (by decide +kernel), List.mem_of_getElem? (i := 1220) (by decide +kernel)⟩
theorem lw_p75 : lw_okq (⟨"CellCycler$Table", "get", "(II)I"⟩, 5) := ⟨⟨by decide +kernel, by decide +kernel⟩, List.mem_of_getElem? (i := 379) (by decide +kernel), List.mem_of_getElem? (i := 1322) (by decide +kernel), List.mem_of_getElem? (i := 1323) (by decide +kernel)⟩
theorem lw_p76 : lw_okq (⟨"CellCycler$World", "recordCounts", "(II)Z"⟩, 8) := ⟨⟨by decide +kernel, by decide +kernel⟩, List.mem_of_getElem? (i := 34) (by decide +kernel), List.mem_of_getElem? (i := 1335) (by decide +kernel), List.mem_of_getElem? (i := 1336) (by decide +kernel)⟩
theorem lw_p77 : lw_okq (⟨"CellCycler", "needTrial", "(I)LCellCycler$Channel;"⟩, 6) := ⟨⟨by decide +kernel, by decide +kernel⟩, List.mem_of_getElem? (i := 26) (by decide +kernel), List.mem_of_getElem? (i := 1368) (by decide +kernel), List.mem_of_getElem? (i := 1369) (by decide +kernel)⟩
theorem lw_p78 : lw_okq (⟨"CellCycler", "ticksUntil", "(LCellCycler$Channel;I)I"⟩, 6) := ⟨⟨by decide +kernel, by decide +kernel⟩, List.mem_of_getElem? (i := 26) (by decide +kernel), List.mem_of_getElem? (i := 1379) (by decide +kernel), List.mem_of_getElem? (i := 1380) (by decide +kernel)⟩
theorem lw_p79 : lw_okq (⟨"CellCycler", "needTrialOf", "(II)LCellCycler$Channel;"⟩, 6) := ⟨⟨by decide +kernel, by decide +kernel⟩, List.mem_of_getElem? (i := 26) (by decide +kernel), List.mem_of_getElem? (i := 1419) (by decide +kernel), List.mem_of_getElem? (i := 1420) (by decide +kernel)⟩
def lw_privs_5 : List (MethodName × Nat) := [(⟨"CellCycler$Channel", "countFromHere", "()V"⟩, 14), (⟨"CellCycler$Channel", "leaveStep", "(LCellCycler$World;)V"⟩, 14), (⟨"CellCycler$Channel", "stepBehind", "(LCellCycler$Programs;)I"⟩, 14), (⟨"CellCycler$Channel", "enterStep", "(I)V"⟩, 14), (⟨"CellCycler$Channel", "takeWaiting", "()I"⟩, 14), (⟨"CellCycler$Channel", "begin", "(ILCellCycler$World;)V"⟩, 14), (⟨"CellCycler", "needChannel", "(I)LCellCycler$Channel;"⟩, 6), (⟨"CellCycler$Channel", "isFree", "()Z"⟩, 14), (⟨"CellCycler$World", "channelsIn", "(I)I"⟩, 8), (⟨"CellCycler$Channel", "number", "(I)I"⟩, 14), (⟨"CellCycler$Cell", "smallestChargeFor", "(I)I"⟩, 16), (⟨"CellCycler$Table", "get", "(II)I"⟩, 5), (⟨"CellCycler$World", "recordCounts", "(II)Z"⟩, 8), (⟨"CellCycler", "needTrial", "(I)LCellCycler$Channel;"⟩, 6), (⟨"CellCycler", "ticksUntil", "(LCellCycler$Channel;I)I"⟩, 6), (⟨"CellCycler", "needTrialOf", "(II)LCellCycler$Channel;"⟩, 6)]
theorem lw_r5 : ∀ q ∈ lw_privs_5, lw_okq q := List.forall_mem_cons.mpr ⟨lw_p64, List.forall_mem_cons.mpr ⟨lw_p65, List.forall_mem_cons.mpr ⟨lw_p66, List.forall_mem_cons.mpr ⟨lw_p67, List.forall_mem_cons.mpr ⟨lw_p68, List.forall_mem_cons.mpr ⟨lw_p69, List.forall_mem_cons.mpr ⟨lw_p70, List.forall_mem_cons.mpr ⟨lw_p71, List.forall_mem_cons.mpr ⟨lw_p72, List.forall_mem_cons.mpr ⟨lw_p73, List.forall_mem_cons.mpr ⟨lw_p74, List.forall_mem_cons.mpr ⟨lw_p75, List.forall_mem_cons.mpr ⟨lw_p76, List.forall_mem_cons.mpr ⟨lw_p77, List.forall_mem_cons.mpr ⟨lw_p78, List.forall_mem_cons.mpr ⟨lw_p79, fun _ h => absurd h List.not_mem_nil⟩⟩⟩⟩⟩⟩⟩⟩⟩⟩⟩⟩⟩⟩⟩⟩
theorem lw_p80 : lw_okq (⟨"CellCycler", "isSafe", "(LCellCycler$Cell;II)Z"⟩, 6) := ⟨⟨by decide +kernel, by decide +kernel⟩, List.mem_of_getElem? (i := 26) (by decide +kernel), List.mem_of_getElem? (i := 1444) (by decide +kernel), List.mem_of_getElem? (i := 1445) (by decide +kernel)⟩
theorem lw_p81 : lw_okq (⟨"CellCycler", "savedAt", "(I)LCellCycler$World;"⟩, 6) := ⟨⟨by decide +kernel, by decide +kernel⟩, List.mem_of_getElem? (i := 26) (by decide +kernel), List.mem_of_getElem? (i := 1458) (by decide +kernel), List.mem_of_getElem? (i := 1459) (by decide +kernel)⟩
theorem lw_p82 : lw_okq (⟨"CellCycler", "keepAt", "(ILCellCycler$World;)V"⟩, 6) := ⟨⟨by decide +kernel, by decide +kernel⟩, List.mem_of_getElem? (i := 26) (by decide +kernel), List.mem_of_getElem? (i := 1462) (by decide +kernel), List.mem_of_getElem? (i := 1463) (by decide +kernel)⟩
theorem lw_p83 : lw_okq (⟨"CellCyclerModel", "readsAll", "()Z"⟩, 19) := ⟨⟨by decide +kernel, by decide +kernel⟩, List.mem_of_getElem? (i := 1473) (by decide +kernel), List.mem_of_getElem? (i := 1559) (by decide +kernel), List.mem_of_getElem? (i := 1560) (by decide +kernel)⟩
theorem lw_p84 : lw_okq (⟨"CellCyclerModel", "readStatement", "()Z"⟩, 19) := ⟨⟨by decide +kernel, by decide +kernel⟩, List.mem_of_getElem? (i := 1473) (by decide +kernel), List.mem_of_getElem? (i := 1563) (by decide +kernel), List.mem_of_getElem? (i := 1564) (by decide +kernel)⟩
theorem lw_p85 : lw_okq (⟨"CellCyclerModel", "see", "()I"⟩, 19) := ⟨⟨by decide +kernel, by decide +kernel⟩, List.mem_of_getElem? (i := 1473) (by decide +kernel), List.mem_of_getElem? (i := 1567) (by decide +kernel), List.mem_of_getElem? (i := 1568) (by decide +kernel)⟩
theorem lw_p86 : lw_okq (⟨"CellCyclerModel", "byteAt", "(I)I"⟩, 19) := ⟨⟨by decide +kernel, by decide +kernel⟩, List.mem_of_getElem? (i := 1473) (by decide +kernel), List.mem_of_getElem? (i := 1571) (by decide +kernel), List.mem_of_getElem? (i := 1572) (by decide +kernel)⟩
theorem lw_p87 : lw_okq (⟨"CellCyclerModel", "isWord", "(Ljava/lang/String;)Z"⟩, 19) := ⟨⟨by decide +kernel, by decide +kernel⟩, List.mem_of_getElem? (i := 1473) (by decide +kernel), List.mem_of_getElem? (i := 1576) (by decide +kernel), List.mem_of_getElem? (i := 1577) (by decide +kernel)⟩
theorem lw_p88 : lw_okq (⟨"CellCyclerModel", "wordEnd", "()I"⟩, 19) := ⟨⟨by decide +kernel, by decide +kernel⟩, List.mem_of_getElem? (i := 1473) (by decide +kernel), List.mem_of_getElem? (i := 1580) (by decide +kernel), List.mem_of_getElem? (i := 1581) (by decide +kernel)⟩
theorem lw_p89 : lw_okq (⟨"CellCyclerModel", "isLetter", "(I)Z"⟩, 19) := ⟨⟨by decide +kernel, by decide +kernel⟩, List.mem_of_getElem? (i := 1473) (by decide +kernel), List.mem_of_getElem? (i := 1584) (by decide +kernel), List.mem_of_getElem? (i := 1585) (by decide +kernel)⟩
theorem lw_p90 : lw_okq (⟨"CellCyclerModel", "readCurve", "()Z"⟩, 19) := ⟨⟨by decide +kernel, by decide +kernel⟩, List.mem_of_getElem? (i := 1473) (by decide +kernel), List.mem_of_getElem? (i := 1595) (by decide +kernel), List.mem_of_getElem? (i := 1596) (by decide +kernel)⟩
theorem lw_p91 : lw_okq (⟨"CellCyclerModel", "fails", "(I)Z"⟩, 19) := ⟨⟨by decide +kernel, by decide +kernel⟩, List.mem_of_getElem? (i := 1473) (by decide +kernel), List.mem_of_getElem? (i := 1599) (by decide +kernel), List.mem_of_getElem? (i := 1600) (by decide +kernel)⟩
theorem lw_p92 : lw_okq (⟨"CellCyclerModel", "passes", "()Z"⟩, 19) := ⟨⟨by decide +kernel, by decide +kernel⟩, List.mem_of_getElem? (i := 1473) (by decide +kernel), List.mem_of_getElem? (i := 1603) (by decide +kernel), List.mem_of_getElem? (i := 1604) (by decide +kernel)⟩
theorem lw_p93 : lw_okq (⟨"CellCyclerModel", "readName", "(I)Z"⟩, 19) := ⟨⟨by decide +kernel, by decide +kernel⟩, List.mem_of_getElem? (i := 1473) (by decide +kernel), List.mem_of_getElem? (i := 1607) (by decide +kernel), List.mem_of_getElem? (i := 1608) (by decide +kernel)⟩
theorem lw_p94 : lw_okq (⟨"CellCyclerModel", "named", "([III)I"⟩, 19) := ⟨⟨by decide +kernel, by decide +kernel⟩, List.mem_of_getElem? (i := 1473) (by decide +kernel), List.mem_of_getElem? (i := 1611) (by decide +kernel), List.mem_of_getElem? (i := 1612) (by decide +kernel)⟩
theorem lw_p95 : lw_okq (⟨"CellCyclerModel", "isNamed", "([IIII)Z"⟩, 19) := ⟨⟨by decide +kernel, by decide +kernel⟩, List.mem_of_getElem? (i := 1473) (by decide +kernel), List.mem_of_getElem? (i := 1615) (by decide +kernel), List.mem_of_getElem? (i := 1616) (by decide +kernel)⟩
def lw_privs_6 : List (MethodName × Nat) := [(⟨"CellCycler", "isSafe", "(LCellCycler$Cell;II)Z"⟩, 6), (⟨"CellCycler", "savedAt", "(I)LCellCycler$World;"⟩, 6), (⟨"CellCycler", "keepAt", "(ILCellCycler$World;)V"⟩, 6), (⟨"CellCyclerModel", "readsAll", "()Z"⟩, 19), (⟨"CellCyclerModel", "readStatement", "()Z"⟩, 19), (⟨"CellCyclerModel", "see", "()I"⟩, 19), (⟨"CellCyclerModel", "byteAt", "(I)I"⟩, 19), (⟨"CellCyclerModel", "isWord", "(Ljava/lang/String;)Z"⟩, 19), (⟨"CellCyclerModel", "wordEnd", "()I"⟩, 19), (⟨"CellCyclerModel", "isLetter", "(I)Z"⟩, 19), (⟨"CellCyclerModel", "readCurve", "()Z"⟩, 19), (⟨"CellCyclerModel", "fails", "(I)Z"⟩, 19), (⟨"CellCyclerModel", "passes", "()Z"⟩, 19), (⟨"CellCyclerModel", "readName", "(I)Z"⟩, 19), (⟨"CellCyclerModel", "named", "([III)I"⟩, 19), (⟨"CellCyclerModel", "isNamed", "([IIII)Z"⟩, 19)]
theorem lw_r6 : ∀ q ∈ lw_privs_6, lw_okq q := List.forall_mem_cons.mpr ⟨lw_p80, List.forall_mem_cons.mpr ⟨lw_p81, List.forall_mem_cons.mpr ⟨lw_p82, List.forall_mem_cons.mpr ⟨lw_p83, List.forall_mem_cons.mpr ⟨lw_p84, List.forall_mem_cons.mpr ⟨lw_p85, List.forall_mem_cons.mpr ⟨lw_p86, List.forall_mem_cons.mpr ⟨lw_p87, List.forall_mem_cons.mpr ⟨lw_p88, List.forall_mem_cons.mpr ⟨lw_p89, List.forall_mem_cons.mpr ⟨lw_p90, List.forall_mem_cons.mpr ⟨lw_p91, List.forall_mem_cons.mpr ⟨lw_p92, List.forall_mem_cons.mpr ⟨lw_p93, List.forall_mem_cons.mpr ⟨lw_p94, List.forall_mem_cons.mpr ⟨lw_p95, fun _ h => absurd h List.not_mem_nil⟩⟩⟩⟩⟩⟩⟩⟩⟩⟩⟩⟩⟩⟩⟩⟩
theorem lw_p96 : lw_okq (⟨"CellCyclerModel", "reads", "(III)Z"⟩, 19) := ⟨⟨by decide +kernel, by decide +kernel⟩, List.mem_of_getElem? (i := 1473) (by decide +kernel), List.mem_of_getElem? (i := 1621) (by decide +kernel), List.mem_of_getElem? (i := 1622) (by decide +kernel)⟩
theorem lw_p97 : lw_okq (⟨"CellCyclerModel", "isDigit", "(I)Z"⟩, 19) := ⟨⟨by decide +kernel, by decide +kernel⟩, List.mem_of_getElem? (i := 1473) (by decide +kernel), List.mem_of_getElem? (i := 1625) (by decide +kernel), List.mem_of_getElem? (i := 1626) (by decide +kernel)⟩
theorem lw_p98 : lw_okq (⟨"CellCyclerModel", "readCell", "()Z"⟩, 19) := ⟨⟨by decide +kernel, by decide +kernel⟩, List.mem_of_getElem? (i := 1473) (by decide +kernel), List.mem_of_getElem? (i := 1633) (by decide +kernel), List.mem_of_getElem? (i := 1634) (by decide +kernel)⟩
theorem lw_p99 : lw_okq (⟨"CellCyclerModel", "readProgram", "()Z"⟩, 19) := ⟨⟨by decide +kernel, by decide +kernel⟩, List.mem_of_getElem? (i := 1473) (by decide +kernel), List.mem_of_getElem? (i := 1638) (by decide +kernel), List.mem_of_getElem? (i := 1639) (by decide +kernel)⟩
theorem lw_p100 : lw_okq (⟨"CellCyclerModel", "readStep", "(II)Z"⟩, 19) := ⟨⟨by decide +kernel, by decide +kernel⟩, List.mem_of_getElem? (i := 1473) (by decide +kernel), List.mem_of_getElem? (i := 1642) (by decide +kernel), List.mem_of_getElem? (i := 1643) (by decide +kernel)⟩
theorem lw_p101 : lw_okq (⟨"CellCyclerModel", "throwsIf", "(ZI)Z"⟩, 19) := ⟨⟨by decide +kernel, by decide +kernel⟩, List.mem_of_getElem? (i := 1473) (by decide +kernel), List.mem_of_getElem? (i := 1675) (by decide +kernel), List.mem_of_getElem? (i := 1676) (by decide +kernel)⟩
theorem lw_p102 : lw_okq (⟨"CellCyclerModel", "of", "(II)I"⟩, 19) := ⟨⟨by decide +kernel, by decide +kernel⟩, List.mem_of_getElem? (i := 1473) (by decide +kernel), List.mem_of_getElem? (i := 1699) (by decide +kernel), List.mem_of_getElem? (i := 1700) (by decide +kernel)⟩
theorem lw_p103 : lw_okq (⟨"CellCyclerModel", "stepsOf", "(I)I"⟩, 19) := ⟨⟨by decide +kernel, by decide +kernel⟩, List.mem_of_getElem? (i := 1473) (by decide +kernel), List.mem_of_getElem? (i := 1707) (by decide +kernel), List.mem_of_getElem? (i := 1708) (by decide +kernel)⟩
theorem lw_p104 : lw_okq (⟨"CellCyclerModel", "stepOf", "(III)I"⟩, 19) := ⟨⟨by decide +kernel, by decide +kernel⟩, List.mem_of_getElem? (i := 1473) (by decide +kernel), List.mem_of_getElem? (i := 1711) (by decide +kernel), List.mem_of_getElem? (i := 1712) (by decide +kernel)⟩
theorem lw_p105 : lw_okq (⟨"CellCyclerModel", "ticks", "()V"⟩, 19) := ⟨⟨by decide +kernel, by decide +kernel⟩, List.mem_of_getElem? (i := 1473) (by decide +kernel), List.mem_of_getElem? (i := 1724) (by decide +kernel), List.mem_of_getElem? (i := 1725) (by decide +kernel)⟩
theorem lw_p106 : lw_okq (⟨"CellCyclerModel", "goes", "(I)V"⟩, 19) := ⟨⟨by decide +kernel, by decide +kernel⟩, List.mem_of_getElem? (i := 1473) (by decide +kernel), List.mem_of_getElem? (i := 1728) (by decide +kernel), List.mem_of_getElem? (i := 1729) (by decide +kernel)⟩
theorem lw_p107 : lw_okq (⟨"CellCyclerModel", "currentOf", "(I)I"⟩, 19) := ⟨⟨by decide +kernel, by decide +kernel⟩, List.mem_of_getElem? (i := 1473) (by decide +kernel), List.mem_of_getElem? (i := 1732) (by decide +kernel), List.mem_of_getElem? (i := 1733) (by decide +kernel)⟩
theorem lw_p108 : lw_okq (⟨"CellCyclerModel", "wantedOf", "(I)I"⟩, 19) := ⟨⟨by decide +kernel, by decide +kernel⟩, List.mem_of_getElem? (i := 1473) (by decide +kernel), List.mem_of_getElem? (i := 1736) (by decide +kernel), List.mem_of_getElem? (i := 1737) (by decide +kernel)⟩
theorem lw_p109 : lw_okq (⟨"CellCyclerModel", "step", "(II)I"⟩, 19) := ⟨⟨by decide +kernel, by decide +kernel⟩, List.mem_of_getElem? (i := 1473) (by decide +kernel), List.mem_of_getElem? (i := 1740) (by decide +kernel), List.mem_of_getElem? (i := 1741) (by decide +kernel)⟩
theorem lw_p110 : lw_okq (⟨"CellCyclerModel", "restAt", "(II)I"⟩, 19) := ⟨⟨by decide +kernel, by decide +kernel⟩, List.mem_of_getElem? (i := 1473) (by decide +kernel), List.mem_of_getElem? (i := 1744) (by decide +kernel), List.mem_of_getElem? (i := 1745) (by decide +kernel)⟩
theorem lw_p111 : lw_okq (⟨"CellCyclerModel", "voltsMany", "(I)I"⟩, 19) := ⟨⟨by decide +kernel, by decide +kernel⟩, List.mem_of_getElem? (i := 1473) (by decide +kernel), List.mem_of_getElem? (i := 1748) (by decide +kernel), List.mem_of_getElem? (i := 1749) (by decide +kernel)⟩
def lw_privs_7 : List (MethodName × Nat) := [(⟨"CellCyclerModel", "reads", "(III)Z"⟩, 19), (⟨"CellCyclerModel", "isDigit", "(I)Z"⟩, 19), (⟨"CellCyclerModel", "readCell", "()Z"⟩, 19), (⟨"CellCyclerModel", "readProgram", "()Z"⟩, 19), (⟨"CellCyclerModel", "readStep", "(II)Z"⟩, 19), (⟨"CellCyclerModel", "throwsIf", "(ZI)Z"⟩, 19), (⟨"CellCyclerModel", "of", "(II)I"⟩, 19), (⟨"CellCyclerModel", "stepsOf", "(I)I"⟩, 19), (⟨"CellCyclerModel", "stepOf", "(III)I"⟩, 19), (⟨"CellCyclerModel", "ticks", "()V"⟩, 19), (⟨"CellCyclerModel", "goes", "(I)V"⟩, 19), (⟨"CellCyclerModel", "currentOf", "(I)I"⟩, 19), (⟨"CellCyclerModel", "wantedOf", "(I)I"⟩, 19), (⟨"CellCyclerModel", "step", "(II)I"⟩, 19), (⟨"CellCyclerModel", "restAt", "(II)I"⟩, 19), (⟨"CellCyclerModel", "voltsMany", "(I)I"⟩, 19)]
theorem lw_r7 : ∀ q ∈ lw_privs_7, lw_okq q := List.forall_mem_cons.mpr ⟨lw_p96, List.forall_mem_cons.mpr ⟨lw_p97, List.forall_mem_cons.mpr ⟨lw_p98, List.forall_mem_cons.mpr ⟨lw_p99, List.forall_mem_cons.mpr ⟨lw_p100, List.forall_mem_cons.mpr ⟨lw_p101, List.forall_mem_cons.mpr ⟨lw_p102, List.forall_mem_cons.mpr ⟨lw_p103, List.forall_mem_cons.mpr ⟨lw_p104, List.forall_mem_cons.mpr ⟨lw_p105, List.forall_mem_cons.mpr ⟨lw_p106, List.forall_mem_cons.mpr ⟨lw_p107, List.forall_mem_cons.mpr ⟨lw_p108, List.forall_mem_cons.mpr ⟨lw_p109, List.forall_mem_cons.mpr ⟨lw_p110, List.forall_mem_cons.mpr ⟨lw_p111, fun _ h => absurd h List.not_mem_nil⟩⟩⟩⟩⟩⟩⟩⟩⟩⟩⟩⟩⟩⟩⟩⟩
theorem lw_p112 : lw_okq (⟨"CellCyclerModel", "volts", "(II)I"⟩, 19) := ⟨⟨by decide +kernel, by decide +kernel⟩, List.mem_of_getElem? (i := 1473) (by decide +kernel), List.mem_of_getElem? (i := 1752) (by decide +kernel), List.mem_of_getElem? (i := 1753) (by decide +kernel)⟩
theorem lw_p113 : lw_okq (⟨"CellCyclerModel", "flows", "(II)V"⟩, 19) := ⟨⟨by decide +kernel, by decide +kernel⟩, List.mem_of_getElem? (i := 1473) (by decide +kernel), List.mem_of_getElem? (i := 1757) (by decide +kernel), List.mem_of_getElem? (i := 1758) (by decide +kernel)⟩
theorem lw_p114 : lw_okq (⟨"CellCyclerModel", "polarizes", "(II)V"⟩, 19) := ⟨⟨by decide +kernel, by decide +kernel⟩, List.mem_of_getElem? (i := 1473) (by decide +kernel), List.mem_of_getElem? (i := 1761) (by decide +kernel), List.mem_of_getElem? (i := 1762) (by decide +kernel)⟩
theorem lw_p115 : lw_okq (⟨"CellCyclerModel", "put", "(III)V"⟩, 19) := ⟨⟨by decide +kernel, by decide +kernel⟩, List.mem_of_getElem? (i := 1473) (by decide +kernel), List.mem_of_getElem? (i := 1765) (by decide +kernel), List.mem_of_getElem? (i := 1766) (by decide +kernel)⟩
theorem lw_p116 : lw_okq (⟨"CellCyclerModel", "moves", "(II)V"⟩, 19) := ⟨⟨by decide +kernel, by decide +kernel⟩, List.mem_of_getElem? (i := 1473) (by decide +kernel), List.mem_of_getElem? (i := 1769) (by decide +kernel), List.mem_of_getElem? (i := 1770) (by decide +kernel)⟩
theorem lw_p117 : lw_okq (⟨"CellCyclerModel", "adds", "(IIJ)V"⟩, 19) := ⟨⟨by decide +kernel, by decide +kernel⟩, List.mem_of_getElem? (i := 1473) (by decide +kernel), List.mem_of_getElem? (i := 1773) (by decide +kernel), List.mem_of_getElem? (i := 1774) (by decide +kernel)⟩
theorem lw_p118 : lw_okq (⟨"CellCyclerModel", "fades", "(II)V"⟩, 19) := ⟨⟨by decide +kernel, by decide +kernel⟩, List.mem_of_getElem? (i := 1473) (by decide +kernel), List.mem_of_getElem? (i := 1777) (by decide +kernel), List.mem_of_getElem? (i := 1778) (by decide +kernel)⟩
theorem lw_p119 : lw_okq (⟨"CellCyclerModel", "warms", "(II)V"⟩, 19) := ⟨⟨by decide +kernel, by decide +kernel⟩, List.mem_of_getElem? (i := 1473) (by decide +kernel), List.mem_of_getElem? (i := 1784) (by decide +kernel), List.mem_of_getElem? (i := 1785) (by decide +kernel)⟩
theorem lw_p120 : lw_okq (⟨"CellCyclerModel", "filled", "(I)I"⟩, 19) := ⟨⟨by decide +kernel, by decide +kernel⟩, List.mem_of_getElem? (i := 1473) (by decide +kernel), List.mem_of_getElem? (i := 1788) (by decide +kernel), List.mem_of_getElem? (i := 1789) (by decide +kernel)⟩
theorem lw_p121 : lw_okq (⟨"CellCyclerModel", "warns", "(I)V"⟩, 19) := ⟨⟨by decide +kernel, by decide +kernel⟩, List.mem_of_getElem? (i := 1473) (by decide +kernel), List.mem_of_getElem? (i := 1793) (by decide +kernel), List.mem_of_getElem? (i := 1794) (by decide +kernel)⟩
theorem lw_p122 : lw_okq (⟨"CellCyclerModel", "warningNow", "(I)I"⟩, 19) := ⟨⟨by decide +kernel, by decide +kernel⟩, List.mem_of_getElem? (i := 1473) (by decide +kernel), List.mem_of_getElem? (i := 1797) (by decide +kernel), List.mem_of_getElem? (i := 1798) (by decide +kernel)⟩
theorem lw_p123 : lw_okq (⟨"CellCyclerModel", "notes", "(III)V"⟩, 19) := ⟨⟨by decide +kernel, by decide +kernel⟩, List.mem_of_getElem? (i := 1473) (by decide +kernel), List.mem_of_getElem? (i := 1801) (by decide +kernel), List.mem_of_getElem? (i := 1802) (by decide +kernel)⟩
theorem lw_p124 : lw_okq (⟨"CellCyclerModel", "watches", "(I)V"⟩, 19) := ⟨⟨by decide +kernel, by decide +kernel⟩, List.mem_of_getElem? (i := 1473) (by decide +kernel), List.mem_of_getElem? (i := 1805) (by decide +kernel), List.mem_of_getElem? (i := 1806) (by decide +kernel)⟩
theorem lw_p125 : lw_okq (⟨"CellCyclerModel", "reasonNow", "(I)I"⟩, 19) := ⟨⟨by decide +kernel, by decide +kernel⟩, List.mem_of_getElem? (i := 1473) (by decide +kernel), List.mem_of_getElem? (i := 1809) (by decide +kernel), List.mem_of_getElem? (i := 1810) (by decide +kernel)⟩
theorem lw_p126 : lw_okq (⟨"CellCyclerModel", "isOver", "(I)Z"⟩, 19) := ⟨⟨by decide +kernel, by decide +kernel⟩, List.mem_of_getElem? (i := 1473) (by decide +kernel), List.mem_of_getElem? (i := 1813) (by decide +kernel), List.mem_of_getElem? (i := 1814) (by decide +kernel)⟩
theorem lw_p127 : lw_okq (⟨"CellCyclerModel", "ends", "(I)V"⟩, 19) := ⟨⟨by decide +kernel, by decide +kernel⟩, List.mem_of_getElem? (i := 1473) (by decide +kernel), List.mem_of_getElem? (i := 1817) (by decide +kernel), List.mem_of_getElem? (i := 1818) (by decide +kernel)⟩
def lw_privs_8 : List (MethodName × Nat) := [(⟨"CellCyclerModel", "volts", "(II)I"⟩, 19), (⟨"CellCyclerModel", "flows", "(II)V"⟩, 19), (⟨"CellCyclerModel", "polarizes", "(II)V"⟩, 19), (⟨"CellCyclerModel", "put", "(III)V"⟩, 19), (⟨"CellCyclerModel", "moves", "(II)V"⟩, 19), (⟨"CellCyclerModel", "adds", "(IIJ)V"⟩, 19), (⟨"CellCyclerModel", "fades", "(II)V"⟩, 19), (⟨"CellCyclerModel", "warms", "(II)V"⟩, 19), (⟨"CellCyclerModel", "filled", "(I)I"⟩, 19), (⟨"CellCyclerModel", "warns", "(I)V"⟩, 19), (⟨"CellCyclerModel", "warningNow", "(I)I"⟩, 19), (⟨"CellCyclerModel", "notes", "(III)V"⟩, 19), (⟨"CellCyclerModel", "watches", "(I)V"⟩, 19), (⟨"CellCyclerModel", "reasonNow", "(I)I"⟩, 19), (⟨"CellCyclerModel", "isOver", "(I)Z"⟩, 19), (⟨"CellCyclerModel", "ends", "(I)V"⟩, 19)]
theorem lw_r8 : ∀ q ∈ lw_privs_8, lw_okq q := List.forall_mem_cons.mpr ⟨lw_p112, List.forall_mem_cons.mpr ⟨lw_p113, List.forall_mem_cons.mpr ⟨lw_p114, List.forall_mem_cons.mpr ⟨lw_p115, List.forall_mem_cons.mpr ⟨lw_p116, List.forall_mem_cons.mpr ⟨lw_p117, List.forall_mem_cons.mpr ⟨lw_p118, List.forall_mem_cons.mpr ⟨lw_p119, List.forall_mem_cons.mpr ⟨lw_p120, List.forall_mem_cons.mpr ⟨lw_p121, List.forall_mem_cons.mpr ⟨lw_p122, List.forall_mem_cons.mpr ⟨lw_p123, List.forall_mem_cons.mpr ⟨lw_p124, List.forall_mem_cons.mpr ⟨lw_p125, List.forall_mem_cons.mpr ⟨lw_p126, List.forall_mem_cons.mpr ⟨lw_p127, fun _ h => absurd h List.not_mem_nil⟩⟩⟩⟩⟩⟩⟩⟩⟩⟩⟩⟩⟩⟩⟩⟩
theorem lw_p128 : lw_okq (⟨"CellCyclerModel", "records", "(IZ)V"⟩, 19) := ⟨⟨by decide +kernel, by decide +kernel⟩, List.mem_of_getElem? (i := 1473) (by decide +kernel), List.mem_of_getElem? (i := 1821) (by decide +kernel), List.mem_of_getElem? (i := 1822) (by decide +kernel)⟩
theorem lw_p129 : lw_okq (⟨"CellCyclerModel", "sum", "(II)J"⟩, 19) := ⟨⟨by decide +kernel, by decide +kernel⟩, List.mem_of_getElem? (i := 1473) (by decide +kernel), List.mem_of_getElem? (i := 1825) (by decide +kernel), List.mem_of_getElem? (i := 1826) (by decide +kernel)⟩
theorem lw_p130 : lw_okq (⟨"CellCyclerModel", "clears", "(I)V"⟩, 19) := ⟨⟨by decide +kernel, by decide +kernel⟩, List.mem_of_getElem? (i := 1473) (by decide +kernel), List.mem_of_getElem? (i := 1829) (by decide +kernel), List.mem_of_getElem? (i := 1830) (by decide +kernel)⟩
theorem lw_p131 : lw_okq (⟨"CellCyclerModel", "putSum", "(IIJ)V"⟩, 19) := ⟨⟨by decide +kernel, by decide +kernel⟩, List.mem_of_getElem? (i := 1473) (by decide +kernel), List.mem_of_getElem? (i := 1833) (by decide +kernel), List.mem_of_getElem? (i := 1834) (by decide +kernel)⟩
theorem lw_p132 : lw_okq (⟨"CellCyclerModel", "comes", "(II)V"⟩, 19) := ⟨⟨by decide +kernel, by decide +kernel⟩, List.mem_of_getElem? (i := 1473) (by decide +kernel), List.mem_of_getElem? (i := 1837) (by decide +kernel), List.mem_of_getElem? (i := 1838) (by decide +kernel)⟩
theorem lw_p133 : lw_okq (⟨"CellCyclerModel", "comesToEnd", "(I)V"⟩, 19) := ⟨⟨by decide +kernel, by decide +kernel⟩, List.mem_of_getElem? (i := 1473) (by decide +kernel), List.mem_of_getElem? (i := 1841) (by decide +kernel), List.mem_of_getElem? (i := 1842) (by decide +kernel)⟩
theorem lw_p134 : lw_okq (⟨"CellCyclerModel", "leavesQueue", "(I)I"⟩, 19) := ⟨⟨by decide +kernel, by decide +kernel⟩, List.mem_of_getElem? (i := 1473) (by decide +kernel), List.mem_of_getElem? (i := 1845) (by decide +kernel), List.mem_of_getElem? (i := 1846) (by decide +kernel)⟩
theorem lw_p135 : lw_okq (⟨"CellCyclerModel", "startsOn", "(II)V"⟩, 19) := ⟨⟨by decide +kernel, by decide +kernel⟩, List.mem_of_getElem? (i := 1473) (by decide +kernel), List.mem_of_getElem? (i := 1849) (by decide +kernel), List.mem_of_getElem? (i := 1850) (by decide +kernel)⟩
theorem lw_p136 : lw_okq (⟨"CellCyclerModel", "noProgram", "(II)Z"⟩, 19) := ⟨⟨by decide +kernel, by decide +kernel⟩, List.mem_of_getElem? (i := 1473) (by decide +kernel), List.mem_of_getElem? (i := 1857) (by decide +kernel), List.mem_of_getElem? (i := 1858) (by decide +kernel)⟩
theorem lw_p137 : lw_okq (⟨"CellCyclerModel", "noChannel", "(I)Z"⟩, 19) := ⟨⟨by decide +kernel, by decide +kernel⟩, List.mem_of_getElem? (i := 1473) (by decide +kernel), List.mem_of_getElem? (i := 1861) (by decide +kernel), List.mem_of_getElem? (i := 1862) (by decide +kernel)⟩
theorem lw_p138 : lw_okq (⟨"CellCyclerModel", "isIn", "(II)Z"⟩, 19) := ⟨⟨by decide +kernel, by decide +kernel⟩, List.mem_of_getElem? (i := 1473) (by decide +kernel), List.mem_of_getElem? (i := 1865) (by decide +kernel), List.mem_of_getElem? (i := 1866) (by decide +kernel)⟩
theorem lw_p139 : lw_okq (⟨"CellCyclerModel", "turns", "(III)I"⟩, 19) := ⟨⟨by decide +kernel, by decide +kernel⟩, List.mem_of_getElem? (i := 1473) (by decide +kernel), List.mem_of_getElem? (i := 1873) (by decide +kernel), List.mem_of_getElem? (i := 1874) (by decide +kernel)⟩
theorem lw_p140 : lw_okq (⟨"CellCyclerModel", "share", "(I)I"⟩, 19) := ⟨⟨by decide +kernel, by decide +kernel⟩, List.mem_of_getElem? (i := 1473) (by decide +kernel), List.mem_of_getElem? (i := 1998) (by decide +kernel), List.mem_of_getElem? (i := 1999) (by decide +kernel)⟩
theorem lw_p141 : lw_okq (⟨"CellCyclerModel", "recorded", "(II)I"⟩, 19) := ⟨⟨by decide +kernel, by decide +kernel⟩, List.mem_of_getElem? (i := 1473) (by decide +kernel), List.mem_of_getElem? (i := 2014) (by decide +kernel), List.mem_of_getElem? (i := 2015) (by decide +kernel)⟩
theorem lw_p142 : lw_okq (⟨"CellCyclerModel", "isCounting", "(II)Z"⟩, 19) := ⟨⟨by decide +kernel, by decide +kernel⟩, List.mem_of_getElem? (i := 1473) (by decide +kernel), List.mem_of_getElem? (i := 2022) (by decide +kernel), List.mem_of_getElem? (i := 2023) (by decide +kernel)⟩
theorem lw_p143 : lw_okq (⟨"CellCyclerModel", "goesAside", "()V"⟩, 19) := ⟨⟨by decide +kernel, by decide +kernel⟩, List.mem_of_getElem? (i := 1473) (by decide +kernel), List.mem_of_getElem? (i := 2034) (by decide +kernel), List.mem_of_getElem? (i := 2035) (by decide +kernel)⟩
def lw_privs_9 : List (MethodName × Nat) := [(⟨"CellCyclerModel", "records", "(IZ)V"⟩, 19), (⟨"CellCyclerModel", "sum", "(II)J"⟩, 19), (⟨"CellCyclerModel", "clears", "(I)V"⟩, 19), (⟨"CellCyclerModel", "putSum", "(IIJ)V"⟩, 19), (⟨"CellCyclerModel", "comes", "(II)V"⟩, 19), (⟨"CellCyclerModel", "comesToEnd", "(I)V"⟩, 19), (⟨"CellCyclerModel", "leavesQueue", "(I)I"⟩, 19), (⟨"CellCyclerModel", "startsOn", "(II)V"⟩, 19), (⟨"CellCyclerModel", "noProgram", "(II)Z"⟩, 19), (⟨"CellCyclerModel", "noChannel", "(I)Z"⟩, 19), (⟨"CellCyclerModel", "isIn", "(II)Z"⟩, 19), (⟨"CellCyclerModel", "turns", "(III)I"⟩, 19), (⟨"CellCyclerModel", "share", "(I)I"⟩, 19), (⟨"CellCyclerModel", "recorded", "(II)I"⟩, 19), (⟨"CellCyclerModel", "isCounting", "(II)Z"⟩, 19), (⟨"CellCyclerModel", "goesAside", "()V"⟩, 19)]
theorem lw_r9 : ∀ q ∈ lw_privs_9, lw_okq q := List.forall_mem_cons.mpr ⟨lw_p128, List.forall_mem_cons.mpr ⟨lw_p129, List.forall_mem_cons.mpr ⟨lw_p130, List.forall_mem_cons.mpr ⟨lw_p131, List.forall_mem_cons.mpr ⟨lw_p132, List.forall_mem_cons.mpr ⟨lw_p133, List.forall_mem_cons.mpr ⟨lw_p134, List.forall_mem_cons.mpr ⟨lw_p135, List.forall_mem_cons.mpr ⟨lw_p136, List.forall_mem_cons.mpr ⟨lw_p137, List.forall_mem_cons.mpr ⟨lw_p138, List.forall_mem_cons.mpr ⟨lw_p139, List.forall_mem_cons.mpr ⟨lw_p140, List.forall_mem_cons.mpr ⟨lw_p141, List.forall_mem_cons.mpr ⟨lw_p142, List.forall_mem_cons.mpr ⟨lw_p143, fun _ h => absurd h List.not_mem_nil⟩⟩⟩⟩⟩⟩⟩⟩⟩⟩⟩⟩⟩⟩⟩⟩
theorem lw_p144 : lw_okq (⟨"CellCyclerModel", "alone", "(I)V"⟩, 19) := ⟨⟨by decide +kernel, by decide +kernel⟩, List.mem_of_getElem? (i := 1473) (by decide +kernel), List.mem_of_getElem? (i := 2041) (by decide +kernel), List.mem_of_getElem? (i := 2042) (by decide +kernel)⟩
theorem lw_p145 : lw_okq (⟨"CellCyclerModel", "comesBack", "()V"⟩, 19) := ⟨⟨by decide +kernel, by decide +kernel⟩, List.mem_of_getElem? (i := 1473) (by decide +kernel), List.mem_of_getElem? (i := 2045) (by decide +kernel), List.mem_of_getElem? (i := 2046) (by decide +kernel)⟩
theorem lw_p146 : lw_okq (⟨"CellCyclerModel", "untilAside", "(II)I"⟩, 19) := ⟨⟨by decide +kernel, by decide +kernel⟩, List.mem_of_getElem? (i := 1473) (by decide +kernel), List.mem_of_getElem? (i := 2053) (by decide +kernel), List.mem_of_getElem? (i := 2054) (by decide +kernel)⟩
theorem lw_p147 : lw_okq (⟨"CellCyclerModel", "until", "(II)I"⟩, 19) := ⟨⟨by decide +kernel, by decide +kernel⟩, List.mem_of_getElem? (i := 1473) (by decide +kernel), List.mem_of_getElem? (i := 2057) (by decide +kernel), List.mem_of_getElem? (i := 2058) (by decide +kernel)⟩
theorem lw_p148 : lw_okq (⟨"CellCyclerModel", "durationOf", "(II)I"⟩, 19) := ⟨⟨by decide +kernel, by decide +kernel⟩, List.mem_of_getElem? (i := 1473) (by decide +kernel), List.mem_of_getElem? (i := 2082) (by decide +kernel), List.mem_of_getElem? (i := 2083) (by decide +kernel)⟩
theorem lw_p149 : lw_okq (⟨"CellCyclerModel", "isSafe", "(III)Z"⟩, 19) := ⟨⟨by decide +kernel, by decide +kernel⟩, List.mem_of_getElem? (i := 1473) (by decide +kernel), List.mem_of_getElem? (i := 2098) (by decide +kernel), List.mem_of_getElem? (i := 2099) (by decide +kernel)⟩
theorem lw_p150 : lw_okq (⟨"CellCyclerModel", "noSlot", "(I)Z"⟩, 19) := ⟨⟨by decide +kernel, by decide +kernel⟩, List.mem_of_getElem? (i := 1473) (by decide +kernel), List.mem_of_getElem? (i := 2106) (by decide +kernel), List.mem_of_getElem? (i := 2107) (by decide +kernel)⟩
def lw_privs_10 : List (MethodName × Nat) := [(⟨"CellCyclerModel", "alone", "(I)V"⟩, 19), (⟨"CellCyclerModel", "comesBack", "()V"⟩, 19), (⟨"CellCyclerModel", "untilAside", "(II)I"⟩, 19), (⟨"CellCyclerModel", "until", "(II)I"⟩, 19), (⟨"CellCyclerModel", "durationOf", "(II)I"⟩, 19), (⟨"CellCyclerModel", "isSafe", "(III)Z"⟩, 19), (⟨"CellCyclerModel", "noSlot", "(I)Z"⟩, 19)]
theorem lw_r10 : ∀ q ∈ lw_privs_10, lw_okq q := List.forall_mem_cons.mpr ⟨lw_p144, List.forall_mem_cons.mpr ⟨lw_p145, List.forall_mem_cons.mpr ⟨lw_p146, List.forall_mem_cons.mpr ⟨lw_p147, List.forall_mem_cons.mpr ⟨lw_p148, List.forall_mem_cons.mpr ⟨lw_p149, List.forall_mem_cons.mpr ⟨lw_p150, fun _ h => absurd h List.not_mem_nil⟩⟩⟩⟩⟩⟩⟩
def lw_privs : List (MethodName × Nat) := lw_privs_1 ++ (lw_privs_2 ++ (lw_privs_3 ++ (lw_privs_4 ++ (lw_privs_5 ++ (lw_privs_6 ++ (lw_privs_7 ++ (lw_privs_8 ++ (lw_privs_9 ++ (lw_privs_10)))))))))
def lw_tbl : List Cond := k2_sels lw_privs ++ tables_1
theorem lw_privs_ok : ∀ q ∈ lw_privs, lw_okq q := by
  show ∀ q ∈ lw_privs_1 ++ (lw_privs_2 ++ (lw_privs_3 ++ (lw_privs_4 ++ (lw_privs_5 ++ (lw_privs_6 ++ (lw_privs_7 ++ (lw_privs_8 ++ (lw_privs_9 ++ (lw_privs_10))))))))), lw_okq q
  exact List.forall_mem_append.mpr ⟨lw_r1, List.forall_mem_append.mpr ⟨lw_r2, List.forall_mem_append.mpr ⟨lw_r3, List.forall_mem_append.mpr ⟨lw_r4, List.forall_mem_append.mpr ⟨lw_r5, List.forall_mem_append.mpr ⟨lw_r6, List.forall_mem_append.mpr ⟨lw_r7, List.forall_mem_append.mpr ⟨lw_r8, List.forall_mem_append.mpr ⟨lw_r9, lw_r10⟩⟩⟩⟩⟩⟩⟩⟩⟩
/-- the streams that the claim lets the run draw from -/
abbrev lw_cs : List Choice := [Jvm.Choice.named "NaN.bits"]
theorem lw_bits : nanBits ∈ lw_cs := by first | decide | exact List.mem_cons_self | simp [lw_cs, nanBits]
-- ===== end of PART A; then your names; then what follows =====
end
section
/-! ===== BEGIN words of one list among another's, by their places ===== -/
theorem goodIn_r {big : List Cond} (ws : List Cond) (ps : List Nat) (hp : ws = ps.filterMap (fun i => big[i]?)) (h : ws.all goodWord = true) : GoodIn big ws := by
  intro w hw
  have h1 := List.all_eq_true.mp h w hw
  rw [hp] at hw
  obtain ⟨i, -, hi⟩ := List.mem_filterMap.mp hw
  have hm : w ∈ big := by first | exact List.mem_of_getElem? hi | exact List.getElem?_mem hi
  exact ⟨hm, good_of_word h1⟩
theorem goodIn_app {big a b : List Cond} (ha : GoodIn big a) (hb : GoodIn big b) : GoodIn big (a ++ b) := fun w h => (List.mem_append.mp h).elim (ha w) (hb w)
theorem goodIn_ca {big a b : List Cond} {c : Cond} (ha : GoodIn big (c :: a)) (hb : GoodIn big b) : GoodIn big (c :: (a ++ b)) := fun w h => (List.mem_cons.mp h).elim (fun e => ha w (List.mem_cons.mpr (Or.inl e))) (fun h => (List.mem_append.mp h).elim (fun h => ha w (List.mem_cons.mpr (Or.inr h))) (hb w))
theorem goodIn_sub {big ws : List Cond} (hm : ∀ w ∈ ws, w ∈ big) (h : ws.all goodWord = true) : GoodIn big ws := fun w hw => ⟨hm w hw, good_of_word (List.all_eq_true.mp h w hw)⟩
/-! ===== END ===== -/

/-! ===== BEGIN exceptions that leave a method, and their catching by the caller (launches without stack traces) ===== -/
section VXA
/-! The laws vx_back, vx_callV, vx_callS, vx_callSW, vx_throw0, vx_throwS follow proofs of the library, with one case more: JvmDerived/Free/Laws.lean (Back.of_free), Shelf42/LK1.lean (callV, callS), Shelf/KitTraced.lean (throwNew0V, throwNewS). -/
/-- where a method has thrown q: the class by its name, the cell, what was written, the world -/
def vx_T (XC : String → State → State → Prop) (st : State) (q : Addr) (t : State) (mc ms : Nat) (free : Addr → Prop) : Prop :=
  ∃ (E : String) (ce : Cell) (L : List Loc), XC E st t ∧ t.heap[q]? = some ce ∧ ce.vm = .none ∧ st.vm.findClass E = some ce.cls ∧ st.WarmedH t.vm ∧ st.sameButNew ({ t with vm := st.vm } : State) L mc ms ∧ ∀ z ∈ L, free z.base
def vx_Q (Qc : Array Value → State → Outcome → State → Prop) (XC : String → State → State → Prop) (mc ms : Nat) (free : Addr → Prop) : Array Value → State → Outcome → State → Prop := fun a st o t =>
  (Qc a st o t ∧ ∃ L, FrameEnd st o t L mc ms ∧ ∀ q ∈ L, free q.base) ∨ ∃ q, o = .threw q ∧ vx_T XC st q t mc ms free
/-- a callee that returns or throws -/
def vx_Met (l : Launch) (y : MethodName) (ws : List Cond) (rm : Room) (Pc : Array Value → State → Prop) (Qc : Array Value → State → Outcome → State → Prop) (XC : String → State → State → Prop) (mc ms : Nat) (free : Addr → Prop) : Prop :=
  MetFree l y (headSpec ws rm) Pc (fun _ _ _ _ _ => True) (vx_Q Qc XC mc ms free)
def vx_Post (XC : String → State → State → Prop) (mc ms : Nat) (free : Addr → Prop) : Pt → Array Value → Addr → Pt → Prop := fun A a q B =>
  ∃ (g : JFrame) (mk : MethodId) (t : State) (L : List Loc) (E : String) (ce : Cell), B.U.heap = t.heap ∧ B.U.vm = t.vm ∧ XC E (A.U.calling g mk a) t ∧ t.heap[q]? = some ce ∧ ce.vm = .none ∧ A.U.vm.findClass E = some ce.cls ∧ B.locs = A.locs ++ L ∧ (∀ z ∈ L, free z.base) ∧ B.cells = A.cells + mc ∧ B.slots = A.slots + ms
def vx_Back (l : Launch) (R : Room) (p : Program) (e : Env) (below : List Frame) (s : State) (sargs : Array Value) (y : MethodName) (len W9 : Nat)
    (Pre : Pt → Array Value → Prop) (Post : Pt → Array Value → Option Value → Pt → Prop) (PostX : Pt → Array Value → Addr → Pt → Prop) : Prop :=
  ∀ (m : MethodId) (meth : Method) (c : Code) (A : Pt) (g : JFrame) (ig : Instr) (mk : MethodId) (a : Array Value),
    Stand p l e R s m sargs below meth c A.U A.locs A.cells A.slots → g.method = m → g.locals.size = c.maxLocals → decode c.code g.pc = .ok (ig, len) →
    2 * g.monitorRoom + (g.stack.map fun v => v.category).sum ≤ W9 → A.U.methodNamed? y = some mk → Pre A a →
    (∃ (v : Option Value) (B : Pt), Stand p l e R s m sargs below meth c B.U B.locs B.cells B.slots ∧ Post A a v B ∧
      Steps p.tables e below (doInvoke e (A.U.setTop g) [] mk a).1 (B.U.setTop { g with pc := g.pc + len, stack := v.toList ++ g.stack })) ∨
    (∃ (q : Addr) (B : Pt), Stand p l e R s m sargs below meth c B.U B.locs B.cells B.slots ∧ PostX A a q B ∧
      Steps p.tables e below (doInvoke e (A.U.setTop g) [] mk a).1 ((B.U.setTop g).pushFrame (.throwing q)))
section Payer
variable {l : Launch} {R : Room} {p : Program} {e : Env} {below : List Frame} {s : State} {sargs : Array Value} {y : MethodName} {len W9 : Nat}
theorem vx_back {ws : List Cond} {rm : Room} {Pc : Array Value → State → Prop} {Qc : Array Value → State → Outcome → State → Prop} {XC : String → State → State → Prop} {mc ms : Nat} {free : Addr → Prop} {bytes : ByteArray} {maxL : Nat} {ret : Option FieldType}
    (hM : vx_Met l y ws rm Pc Qc XC mc ms free) (hblind : FrameBlind Pc) (hrc : rm.cells = mc) (hrs : rm.slots = ms)
    (hframes : rm.frames + 1 ≤ R.frames) (hlocals : W9 + (maxL + 11) + rm.locals ≤ R.locals)
    (hws : ∀ w ∈ ws, ∀ a' U, s.WarmedH U.vm → w.before a' U = true) (hcode : Cond.code y bytes maxL ret ∈ ws) (hinit : ∀ a' U, s.WarmedH U.vm → (Cond.initialized y.cls).before a' U = true) :
    vx_Back l R p e below s sargs y len W9 (PreOf R mc ms Pc) (PostOf Qc mc ms free) (vx_Post XC mc ms free) := by
  intro m meth c A g ig mk a X hg hsize hdg hW hn hp
  have h1 : (headSpec ws rm).pre.before a A.U = true := atoms_intro fun w hw => hws w hw _ _ X.warmed
  have h2 : (Cond.code y bytes maxL ret).before a A.U = true := hws _ hcode _ _ X.warmed
  have h3 : (Cond.initialized y.cls).before a A.U = true := hinit _ _ X.warmed
  have h4 : A.cells + (headSpec ws rm).room.cells ≤ R.cells := by rw [show (headSpec ws rm).room.cells = mc from hrc]; exact hp.1
  have h5 : A.slots + (headSpec ws rm).room.slots ≤ R.slots := by rw [show (headSpec ws rm).room.slots = ms from hrs]; exact hp.2.1
  have hPc : Pc a (A.U.calling g mk a) := hblind _ _ _ _ hp.2.2
  obtain ⟨U, Ls, c0, s0⟩ := A
  dsimp only [Pt.U, Pt.locs, Pt.cells, Pt.slots] at h1 h2 h3 h4 h5 X hn hPc ⊢
  obtain ⟨methY, cY, hmY, hcY, -, hlY, -, -, -, -⟩ := Cond.code_spec hn h2
  obtain ⟨kY, hkY, -⟩ := className_of_methodNamed hn
  have hinitY : kY.init = .initialized := Cond.initialized_spec (findClass_of_methodNamed hn) hkY h3
  have h : At U g.method c below := by rw [hg]; exact X.here
  have hlocals9 : W9 + (maxL + 11) + (headSpec ws rm).room.locals ≤ R.locals := hlocals
  have happ : (headSpec ws rm).appliesLoose y e.platform (U.calling g mk a) = true :=
    Spec.appliesLoose_calling (g := g) h hdg hn hkY hinitY
      (X.room_calling (g := g) (R' := (headSpec ws rm).room) hsize hmY hcY hframes (by rw [hlY]; omega) h4 h5) h1
  obtain ⟨mid, hmid⟩ := h.above
  have hfr : (U.setTop g).frames = (.java g :: mid) ++ below := by rw [State.frames_setTop' g h.top, hmid]; rfl
  obtain ⟨o, s₂, hsteps, -, hend, hq⟩ := Steps.callFree hM p X.admits X.cas X.clock (acts := []) hfr happ hPc trivial
  have hq' : vx_Q Qc XC mc ms free a (U.calling g mk a) o s₂ := hq
  rw [State.frames_setTop' g h.top] at hend
  obtain ⟨g₀, hg0⟩ := Option.isSome_iff_exists.mp h.top
  obtain ⟨r, hr⟩ := State.topJava?_eq_some.mp hg0
  have hr' : (({ U with heap := s₂.heap, slotsUsed := s₂.slotsUsed } : State).setVm s₂.vm).frames = .java g₀ :: r := hr
  rcases hq' with ⟨hqc, L, hfe, hL⟩ | ⟨q, rfl, E, ce, L, hx, hce, hcv, hcl, hW₂, hsm, hL⟩
  · obtain ⟨⟨v, rfl⟩, hW₂, e2, q2, q3, q4, q5, q6⟩ := id hfe
    have e3 : s₂ = ({ (U.calling g mk a).setFrames s₂.frames with heap := s₂.heap, slotsUsed := s₂.slotsUsed } : State).setVm s₂.vm := by
      have : s₂ = ({ s₂ with vm := (U.calling g mk a).vm } : State).setVm s₂.vm := rfl
      rw [e2] at this
      exact this
    obtain ⟨c₂, i₂, len₂, hc₂, hd₂, hf₂⟩ := hend
    have hW' : U.WarmedH s₂.vm := hW₂
    have hcc : c₂ = c := by
      have h1 : s₂.code? g.method = U.code? g.method := by
        rw [State.code?_eq, State.code?_eq, hW'.alike.method?]
      exact Option.some.inj (hc₂.symm.trans (h1.trans h.code))
    subst hcc
    have hlen : len₂ = len := by rw [hdg] at hd₂; cases hd₂; rfl
    subst hlen
    have hs₂ : s₂ = (({ U with heap := s₂.heap, slotsUsed := s₂.slotsUsed } : State).setVm s₂.vm).setTop { g with pc := g.pc + len₂, stack := v.toList ++ g.stack } := by
      refine e3.trans ?_
      rw [hf₂, State.calling_eq h.top, State.setFrames_setFrames, State.setTop_of_frames _ hr', hr]
      rfl
    have hsame : U.sameButNew ({ U with heap := s₂.heap, slotsUsed := s₂.slotsUsed } : State) L mc ms := by
      refine ⟨?_, q2, q3, q4, q5, q6⟩
      obtain ⟨t, ht, -⟩ := State.frames_cons hr
      show ({ U with heap := s₂.heap, slotsUsed := s₂.slotsUsed } : State) = { U.setFrames U.frames with heap := s₂.heap, slotsUsed := s₂.slotsUsed }
      rw [State.setFrames_self ht]
    subst hg
    refine Or.inl ⟨v, ⟨(({ U with heap := s₂.heap, slotsUsed := s₂.slotsUsed } : State).setVm s₂.vm), Ls ++ L, c0 + mc, s0 + ms⟩,
      ⟨X.admits, X.cas, X.clock, X.frames, X.room, X.hears, X.method, X.code, (X.here.setHeapUsed s₂.heap s₂.slotsUsed).setVm hW'.alike, X.tail, State.WarmedH.trans X.warmed hW', X.limits, X.bytes, X.same.trans (hsame.setVm s.vm)⟩,
      ⟨g, mk, s₂, L, rfl, rfl, hqc, rfl, hL, rfl, rfl⟩, ?_⟩
    show Steps p.tables e below _ ((({ U with heap := s₂.heap, slotsUsed := s₂.slotsUsed } : State).setVm s₂.vm).setTop { g with pc := g.pc + len₂, stack := v.toList ++ g.stack })
    rw [← hs₂]
    exact hsteps
  · obtain ⟨e2, q2, q3, q4, q5, q6⟩ := id hsm
    have e3 : s₂ = ({ (U.calling g mk a).setFrames s₂.frames with heap := s₂.heap, slotsUsed := s₂.slotsUsed } : State).setVm s₂.vm := by
      have : s₂ = ({ s₂ with vm := (U.calling g mk a).vm } : State).setVm s₂.vm := rfl
      rw [e2] at this
      exact this
    have hf₂ : s₂.frames = .throwing q :: .java g :: U.frames.tail := hend
    have hW' : U.WarmedH s₂.vm := hW₂
    have hs₂ : s₂ = ((({ U with heap := s₂.heap, slotsUsed := s₂.slotsUsed } : State).setVm s₂.vm).setTop g).pushFrame (.throwing q) := by
      refine e3.trans ?_
      rw [hf₂, State.calling_eq h.top, State.setFrames_setFrames, State.pushFrame, State.frames_setTop _ hr', State.setTop_of_frames _ hr', State.setFrames_setFrames, hr]
      rfl
    have hsame : U.sameButNew ({ U with heap := s₂.heap, slotsUsed := s₂.slotsUsed } : State) L mc ms := by
      refine ⟨?_, q2, q3, q4, q5, q6⟩
      obtain ⟨t, ht, -⟩ := State.frames_cons hr
      show ({ U with heap := s₂.heap, slotsUsed := s₂.slotsUsed } : State) = { U.setFrames U.frames with heap := s₂.heap, slotsUsed := s₂.slotsUsed }
      rw [State.setFrames_self ht]
    subst hg
    refine Or.inr ⟨q, ⟨(({ U with heap := s₂.heap, slotsUsed := s₂.slotsUsed } : State).setVm s₂.vm), Ls ++ L, c0 + mc, s0 + ms⟩,
      ⟨X.admits, X.cas, X.clock, X.frames, X.room, X.hears, X.method, X.code, (X.here.setHeapUsed s₂.heap s₂.slotsUsed).setVm hW'.alike, X.tail, State.WarmedH.trans X.warmed hW', X.limits, X.bytes, X.same.trans (hsame.setVm s.vm)⟩,
      ⟨g, mk, s₂, L, E, ce, rfl, rfl, hx, hce, hcv, hcl, rfl, hL, rfl, rfl⟩, ?_⟩
    show Steps p.tables e below _ (((({ U with heap := s₂.heap, slotsUsed := s₂.slotsUsed } : State).setVm s₂.vm).setTop g).pushFrame (.throwing q))
    rw [← hs₂]
    exact hsteps
end Payer
section Calls
variable {p : Program} {l : Launch} {e : Env} {R : Room} {s : State} {m : MethodId} {args : Array Value} {below : List Frame} {meth : Method} {c : Code} {T : State} {locs : List Loc} {cells slots : Nat}
theorem vx_callV (X : Stand p l e R s m args below meth c T locs cells slots) (hexec : p.tables.exec = Jvm.exec) {own C : String} {index : Nat} {y : MethodName} {bytes : ByteArray} {maxL : Nat} {ret : Option FieldType}
    (hown : s.vm.findClass own = some m.cls) (hlink : (Cond.methodLink own index y).before args s = true) (hinst : (Cond.instanceMethod y).before args s = true) (hsel : (Cond.selects C y y).before args s = true)
    (hcode : (Cond.code y bytes maxL ret).before args s = true) (hy : y.cls ≠ "java/lang/invoke/MethodHandle" ∧ y.cls ≠ "java/lang/invoke/VarHandle")
    {W9 : Nat} {Pre : Pt → Array Value → Prop} {Post : Pt → Array Value → Option Value → Pt → Prop} {PostX : Pt → Array Value → Addr → Pt → Prop} (hK : vx_Back l R p e below s args y 3 W9 Pre Post PostX)
    {b : Addr} {cellB : Cell} (hcell : T.heap[b]? = some cellB) (hobj : cellB.vm.isStatics = false) (hcls : s.vm.findClass C = some cellB.cls)
    {g : JFrame} (hg : g.method = m) (hsize : g.locals.size = c.maxLocals) {argsL rest : List Value} (hlen : ∀ sig, parseMethodDescriptor y.desc = some sig → argsL.length = sig.parameters.length)
    (hstack : g.stack = argsL.reverse ++ .ref b :: rest) (hW : 2 * g.monitorRoom + (rest.map fun v => v.category).sum ≤ W9) (hdg : decode c.code g.pc = .ok (.invokevirtual index, 3))
    (hpre : ∀ vm₁, s.WarmedH vm₁ → Pre ⟨T.setVm vm₁, locs, cells, slots⟩ (Value.ref b :: argsL).toArray) :
    (∃ (v : Option Value) (vm₁ : Vm) (B : Pt), s.WarmedH vm₁ ∧ Stand p l e R s m args below meth c B.U B.locs B.cells B.slots ∧ Post ⟨T.setVm vm₁, locs, cells, slots⟩ (Value.ref b :: argsL).toArray v B ∧
      ∀ target, Steps p.tables e below (B.U.setTop { g with pc := g.pc + 3, stack := v.toList ++ rest }) target → Steps p.tables e below (T.setTop g) target) ∨
    (∃ (q : Addr) (vm₁ : Vm) (B : Pt), s.WarmedH vm₁ ∧ Stand p l e R s m args below meth c B.U B.locs B.cells B.slots ∧ PostX ⟨T.setVm vm₁, locs, cells, slots⟩ (Value.ref b :: argsL).toArray q B ∧
      Steps p.tables e below (T.setTop g) ((B.U.setTop { g with stack := rest }).pushFrame (.throwing q))) := by
  obtain ⟨mk, methM, hnamed, hmethM, hstM, habM⟩ := Cond.instanceMethod_spec hinst
  obtain ⟨methM', cM, hmethM', -, -, -, -, -, -, hsigM⟩ := Cond.code_spec hnamed hcode
  cases hmethM.symm.trans hmethM'
  obtain ⟨c2, r2, m2, q1, q2, q3, q4, kP, hkP, hkPi⟩ := Cond.selects_spec hsel
  cases hcls.symm.trans q1
  cases (State.methodFound?_of_named hnamed hy).symm.trans q2
  cases hnamed.symm.trans q3
  have hselP : selectMethod e.platform s.vm cellB.cls mk = .method mk := by rw [Launch.admits_selectMethod X.admits]; exact q4
  obtain ⟨vm₁, X₁, hstep₁⟩ := X.invokevirtual hexec hown hlink hnamed hmethM hstM hkP hkPi hy (a := b) (cell := cellB) hcell
    (fun z h => by rw [h] at hobj; cases hobj) hselP hmethM habM hkP hkPi (g := g) hg (argsL := argsL) (rest := rest) (hlen _ hsigM) hstack hdg
  rcases hK m meth c ⟨T.setVm vm₁, locs, cells, slots⟩ { g with stack := rest } (.invokevirtual index) mk (Value.ref b :: argsL).toArray X₁ hg hsize hdg hW (X₁.named hnamed) (hpre vm₁ X₁.warmed) with ⟨v, B, X', hpost, hsteps⟩ | ⟨q, B, X', hpost, hsteps⟩
  · exact Or.inl ⟨v, vm₁, B, X₁.warmed, X', hpost, fun target h => hstep₁ _ fun acts => by rw [doInvoke_state]; exact hsteps.trans h⟩
  · exact Or.inr ⟨q, vm₁, B, X₁.warmed, X', hpost, hstep₁ _ fun acts => by rw [doInvoke_state]; exact hsteps⟩
theorem vx_callS (X : Stand p l e R s m args below meth c T locs cells slots) (hexec : p.tables.exec = Jvm.exec) {own : String} {index : Nat} {y : MethodName} {bytes : ByteArray} {maxL : Nat} {ret : Option FieldType}
    (hown : s.vm.findClass own = some m.cls) (hlink : (Cond.methodLink own index y).before args s = true) (hstat : (Cond.static y).before args s = true) (hinit : (Cond.initialized y.cls).before args s = true)
    (hcode : (Cond.code y bytes maxL ret).before args s = true) (hy : y.cls ≠ "java/lang/invoke/MethodHandle" ∧ y.cls ≠ "java/lang/invoke/VarHandle")
    {W9 : Nat} {Pre : Pt → Array Value → Prop} {Post : Pt → Array Value → Option Value → Pt → Prop} {PostX : Pt → Array Value → Addr → Pt → Prop} (hK : vx_Back l R p e below s args y 3 W9 Pre Post PostX)
    {g : JFrame} (hg : g.method = m) (hsize : g.locals.size = c.maxLocals) {argsL rest : List Value} (hlen : ∀ sig, parseMethodDescriptor y.desc = some sig → argsL.length = sig.parameters.length)
    (hstack : g.stack = argsL.reverse ++ rest) (hW : 2 * g.monitorRoom + (rest.map fun v => v.category).sum ≤ W9) (hdg : decode c.code g.pc = .ok (.invokestatic index, 3))
    (hpre : ∀ vm₁, s.WarmedH vm₁ → Pre ⟨T.setVm vm₁, locs, cells, slots⟩ argsL.toArray) :
    (∃ (v : Option Value) (vm₁ : Vm) (B : Pt), s.WarmedH vm₁ ∧ Stand p l e R s m args below meth c B.U B.locs B.cells B.slots ∧ Post ⟨T.setVm vm₁, locs, cells, slots⟩ argsL.toArray v B ∧
      ∀ target, Steps p.tables e below (B.U.setTop { g with pc := g.pc + 3, stack := v.toList ++ rest }) target → Steps p.tables e below (T.setTop g) target) ∨
    (∃ (q : Addr) (vm₁ : Vm) (B : Pt), s.WarmedH vm₁ ∧ Stand p l e R s m args below meth c B.U B.locs B.cells B.slots ∧ PostX ⟨T.setVm vm₁, locs, cells, slots⟩ argsL.toArray q B ∧
      Steps p.tables e below (T.setTop g) ((B.U.setTop { g with stack := rest }).pushFrame (.throwing q))) := by
  obtain ⟨mk, hnamed⟩ := Cond.code_named hcode
  obtain ⟨methM, cM, hmethM, -, -, -, -, -, -, hsigM⟩ := Cond.code_spec hnamed hcode
  have hstatic : methM.isStatic = true := Cond.static_spec hnamed hmethM hstat
  obtain ⟨kP, hkP, -⟩ := className_of_methodNamed hnamed
  have hinitP : kP.init = .initialized := Cond.initialized_spec (findClass_of_methodNamed hnamed) hkP hinit
  obtain ⟨vm₁, X₁, hstep₁⟩ := X.invokestatic hexec hown hlink hnamed hmethM hstatic hkP hinitP hy (g := g) hg (argsL := argsL) (rest := rest) (hlen _ hsigM) hstack hdg
  rcases hK m meth c ⟨T.setVm vm₁, locs, cells, slots⟩ { g with stack := rest } (.invokestatic index) mk argsL.toArray X₁ hg hsize hdg hW (X₁.named hnamed) (hpre vm₁ X₁.warmed) with ⟨v, B, X', hpost, hsteps⟩ | ⟨q, B, X', hpost, hsteps⟩
  · exact Or.inl ⟨v, vm₁, B, X₁.warmed, X', hpost, fun target h => hstep₁ _ fun acts => by rw [doInvoke_state]; exact hsteps.trans h⟩
  · exact Or.inr ⟨q, vm₁, B, X₁.warmed, X', hpost, hstep₁ _ fun acts => by rw [doInvoke_state]; exact hsteps⟩
end Calls
theorem vx_cls {s : State} {T : State} {vm₁ : Vm} {E : String} {k : ClassId} (hW : s.WarmedH vm₁) (h : (T.setVm vm₁).vm.findClass E = some k) : s.vm.findClass E = some k := by
  have h1 : vm₁.findClass E = some k := h
  rw [hW.alike.findClass] at h1
  exact h1
/-- the method's frame g, with q thrown over it -/
def vx_W (p : Program) (l : Launch) (e : Env) (R : Room) (s : State) (m : MethodId) (args : Array Value) (below : List Frame) (meth : Method) (c : Code) (H : Heap) (locs : List Loc) (cells slots : Nat) (Q : State → Prop) (g : JFrame) (q : Addr) : Prop :=
  ∀ T : State, T.heap = H → Stand p l e R s m args below meth c T locs cells slots → ∃ t, Steps p.tables e below ((T.setTop g).pushFrame (.throwing q)) t ∧ Q t
def vx_Run (p : Program) (l : Launch) (e : Env) (R : Room) (s : State) (m : MethodId) (args : Array Value) (below : List Frame) (meth : Method) (c : Code) (H : Heap) (locs : List Loc) (cells slots mc ms : Nat) (g : JFrame) (rest : List Value) (Qa : State → Outcome → State → Prop) (XC : String → State → State → Prop) (free : Addr → Prop) : Prop :=
  ∀ T : State, T.heap = H → Stand p l e R s m args below meth c T locs cells slots →
    (∃ (v : Option Value) (st₀ t T' : State) (L : List Loc), st₀.heap = H ∧ Stand p l e R s m args below meth c T' (locs ++ L) (cells + mc) (slots + ms) ∧ (∀ q ∈ L, free q.base) ∧ T'.heap = t.heap ∧ T'.vm = t.vm ∧ Qa st₀ (.returned v) t ∧
      Goes p e below T g T' { g with pc := g.pc + 3, stack := v.toList ++ rest }) ∨
    (∃ (q : Addr) (st₀ t T' : State) (L : List Loc) (E : String) (ce : Cell), st₀.heap = H ∧ Stand p l e R s m args below meth c T' (locs ++ L) (cells + mc) (slots + ms) ∧ (∀ z ∈ L, free z.base) ∧ T'.heap = t.heap ∧ T'.vm = t.vm ∧ XC E st₀ t ∧ t.heap[q]? = some ce ∧ ce.vm = .none ∧ s.vm.findClass E = some ce.cls ∧
      Steps p.tables e below (T.setTop g) ((T'.setTop { g with stack := rest }).pushFrame (.throwing q)))
def vx_X {S : Type} (px : S → Prop) (B : String → S → State → Prop) (A : Nat → Prop) : String → State → State → Prop := fun E st t => ∃ u : S, px u ∧ B E u t ∧ va_F A st t
section Runs
variable {p : Program} {l : Launch} {e : Env} {R : Room} {s : State} {m : MethodId} {args : Array Value} {below : List Frame} {meth : Method} {c : Code} {H : Heap} {locs : List Loc} {cells slots : Nat}
variable {y : MethodName} {bytes cc : ByteArray} {maxL nL mc ms n index : Nat} {ret : Option FieldType} {ws : List Cond} {rm : Room} {Pc : Array Value → State → Prop} {Qc : Array Value → State → Outcome → State → Prop} {XC : String → State → State → Prop} {free : Addr → Prop} {Ts : List Cond} {own C : String} {b : Addr} {As rest : List Value} {g : JFrame}
theorem vx_callBack (cb : CallB R s args own index y bytes maxL ret ws rm mc ms n) (hM : vx_Met l y ws rm Pc Qc XC mc ms free) (hbl : FrameBlind Pc) : vx_Back l R p e below s args y 3 8 (PreOf R mc ms Pc) (PostOf Qc mc ms free) (vx_Post XC mc ms free) := by
  obtain ⟨hrc, hrs, hfr, hlo, hws, hcw, -, hini, -⟩ := cb
  exact vx_back (bytes := bytes) (maxL := maxL) (ret := ret) hM hbl hrc hrs hfr hlo hws hcw (fun a' U hW => word_at hW (Or.inl (by first | rfl | simp [Cond.onTables, Cond.keeps, Cond.steady])) hini)
theorem vx_runV (S : CallFix p m c cc nL s args Ts own) (hM : vx_Met l y ws rm Pc Qc XC mc ms free) (cw : CallW R s args own C index y bytes maxL ret ws rm mc ms n) (hp : PreV s H C b Pc As)
    (hg : g.method = m) (hn : As.length = n) (hsize : g.locals.size = nL) (hstack : g.stack = As.reverse ++ .ref b :: rest) (hW : 2 * g.monitorRoom + (rest.map fun v => v.category).sum ≤ 8) (hdg : decode cc g.pc = .ok (.invokevirtual index, 3)) (hf : cells + mc ≤ R.cells ∧ slots + ms ≤ R.slots) :
    vx_Run p l e R s m args below meth c H locs cells slots mc ms g rest (Qc (Value.ref b :: As).toArray) XC free := by
  have hK : vx_Back l R p e below s args y 3 8 (PreOf R mc ms Pc) (PostOf Qc mc ms free) (vx_Post XC mc ms free) := vx_callBack cw.1 hM hp.1
  obtain ⟨⟨-, -, -, -, -, -, hcode, -, hy, hlen, hl⟩, hin, hse⟩ := cw
  obtain ⟨hx, hb, hml, ho, -⟩ := S
  obtain ⟨-, ⟨cellB, hcB, hoB, hclB⟩, hPc⟩ := hp
  intro T hT X
  rcases vx_callV X hx (C := C) (bytes := bytes) (maxL := maxL) (ret := ret) ho hl hin hse hcode hy hK (by rw [hT]; exact hcB) hoB hclB hg (hsize.trans hml.symm) (argsL := As) (rest := rest) (fun sig h => hn.trans (hlen sig h)) hstack hW (by rw [hb]; exact hdg)
    (fun vm₁ hW₁ => ⟨hf.1, hf.2, hPc (T.setVm vm₁) hT hW₁⟩) with ⟨v, vm₁, ⟨U', l2, c2, s2⟩, hW₁, X', ⟨g', mk, t, L, e1, e2, hq, h1, hL, h2, h3⟩, st⟩ | ⟨q, vm₁, ⟨U', l2, c2, s2⟩, hW₁, X', ⟨g', mk, t, L, E, ce, e1, e2, hq, hce, hcv, hcl, h1, hL, h2, h3⟩, st⟩
  · dsimp only [Pt.U, Pt.locs, Pt.cells, Pt.slots] at X' e1 e2 h1 h2 h3 st
    subst h1; subst h2; subst h3
    exact Or.inl ⟨v, (T.setVm vm₁).calling g' mk (Value.ref b :: As).toArray, t, U', L, hT, X', hL, e1, e2, hq, st⟩
  · dsimp only [Pt.U, Pt.locs, Pt.cells, Pt.slots] at X' e1 e2 h1 h2 h3 st hcl
    subst h1; subst h2; subst h3
    exact Or.inr ⟨q, (T.setVm vm₁).calling g' mk (Value.ref b :: As).toArray, t, U', L, E, ce, hT, X', hL, e1, e2, hq, hce, hcv, vx_cls hW₁ hcl, st⟩
theorem vx_runS (S : CallFix p m c cc nL s args Ts own) (hM : vx_Met l y ws rm Pc Qc XC mc ms free) (cw : CallB R s args own index y bytes maxL ret ws rm mc ms n ∧ (Cond.static y).before args s = true) (hp : PreS s H Pc As)
    (hg : g.method = m) (hn : As.length = n) (hsize : g.locals.size = nL) (hstack : g.stack = As.reverse ++ rest) (hW : 2 * g.monitorRoom + (rest.map fun v => v.category).sum ≤ 8) (hdg : decode cc g.pc = .ok (.invokestatic index, 3)) (hf : cells + mc ≤ R.cells ∧ slots + ms ≤ R.slots) :
    vx_Run p l e R s m args below meth c H locs cells slots mc ms g rest (Qc As.toArray) XC free := by
  have hK : vx_Back l R p e below s args y 3 8 (PreOf R mc ms Pc) (PostOf Qc mc ms free) (vx_Post XC mc ms free) := vx_callBack cw.1 hM hp.1
  obtain ⟨⟨-, -, -, -, -, -, hcode, hini, hy, hlen, hl⟩, hstt⟩ := cw
  obtain ⟨hx, hb, hml, ho, -⟩ := S
  intro T hT X
  rcases vx_callS X hx (bytes := bytes) (maxL := maxL) (ret := ret) ho hl hstt hini hcode hy hK hg (hsize.trans hml.symm) (argsL := As) (rest := rest) (fun sig h => hn.trans (hlen sig h)) hstack hW (by rw [hb]; exact hdg)
    (fun vm₁ hW₁ => ⟨hf.1, hf.2, hp.2 (T.setVm vm₁) hT hW₁⟩) with ⟨v, vm₁, ⟨U', l2, c2, s2⟩, hW₁, X', ⟨g', mk, t, L, e1, e2, hq, h1, hL, h2, h3⟩, st⟩ | ⟨q, vm₁, ⟨U', l2, c2, s2⟩, hW₁, X', ⟨g', mk, t, L, E, ce, e1, e2, hq, hce, hcv, hcl, h1, hL, h2, h3⟩, st⟩
  · dsimp only [Pt.U, Pt.locs, Pt.cells, Pt.slots] at X' e1 e2 h1 h2 h3 st
    subst h1; subst h2; subst h3
    exact Or.inl ⟨v, (T.setVm vm₁).calling g' mk As.toArray, t, U', L, hT, X', hL, e1, e2, hq, st⟩
  · dsimp only [Pt.U, Pt.locs, Pt.cells, Pt.slots] at X' e1 e2 h1 h2 h3 st hcl
    subst h1; subst h2; subst h3
    exact Or.inr ⟨q, (T.setVm vm₁).calling g' mk As.toArray, t, U', L, E, ce, hT, X', hL, e1, e2, hq, hce, hcv, vx_cls hW₁ hcl, st⟩
end Runs
section Rows
variable {p : Program} {l : Launch} {e : Env} {R : Room} {s : State} {m : MethodId} {args : Array Value} {below : List Frame} {meth : Method} {c : Code} {H : Heap} {locs : List Loc} {cells slots : Nat} {Q : State → Prop}
variable {mc ms : Nat} {free : Addr → Prop} {A0 A1 : Nat → Prop} {H0 : Heap} {a : Array Value} {pc : Nat} {ls : Array Slot} {st0 rest : List Value}
theorem vx_keep {st₀ t T' : State} {L : List Loc} (h0 : st₀.heap = H) (e1 : T'.heap = t.heap) (hS : va_S A0 H0 H locs) (hA : ∀ q, q < H.size → A1 q → A0 q) (hf : ∀ q, free q → A0 q) (hL : ∀ q ∈ L, free q.base) (hF : va_F A1 st₀ t) :
    H.size ≤ T'.heap.size ∧ (∀ q : Nat, q < H.size → ¬ A1 q → T'.heap[q]? = H[q]?) ∧ va_S A0 H0 T'.heap (locs ++ L) := by
  obtain ⟨hz, hk⟩ := hF
  rw [h0] at hz hk
  exact ⟨by rw [e1]; exact hz, fun q h1 h2 => by rw [e1]; exact hk q h1 h2,
    ⟨Nat.le_trans hS.1 (by rw [e1]; exact hz), fun q h1 h2 => by rw [e1, hk q (Nat.lt_of_lt_of_le h1 hS.1) (fun z => h2 (hA q (Nat.lt_of_lt_of_le h1 hS.1) z))]; exact hS.2.1 q h1 h2, fun q hq => by
      rcases List.mem_append.mp hq with h | h
      · exact hS.2.2 q h
      · exact hf _ (hL q h)⟩⟩
theorem vx_calli {S SX : Type} {post : Int32 → S → Prop} {px : SX → Prop} {B : S → State → Prop} {BX : String → SX → State → Prop} {AX : Nat → Prop} (hr : vx_Run p l e R s m args below meth c H locs cells slots mc ms (F0 m pc ls st0) rest (va_Qi post B A1 a) (vx_X px BX AX) free) (hS : va_S A0 H0 H locs) (hA : ∀ q, q < H.size → A1 q → A0 q) (hf : ∀ q, free q → A0 q) (hAX : ∀ q, q < H.size → AX q → A0 q)
    (kx : ∀ (E : String) (ce : Cell) (q9 : Addr) (u : SX) (t : State) (H1 : Heap) (locs1 : List Loc), t.heap = H1 → s.vm.Alike t.vm → px u → BX E u t → H.size ≤ H1.size → (∀ q : Nat, q < H.size → ¬ AX q → H1[q]? = H[q]?) → va_S A0 H0 H1 locs1 → H1[q9]? = some ce → ce.vm = .none → s.vm.findClass E = some ce.cls → vx_W p l e R s m args below meth c H1 locs1 (cells + mc) (slots + ms) Q (F0 m pc ls rest) q9)
    (kk : ∀ (r : Int32) (u : S) (t : State) (H1 : Heap) (locs1 : List Loc), t.heap = H1 → s.vm.Alike t.vm → post r u → B u t → H.size ≤ H1.size → (∀ q : Nat, q < H.size → ¬ A1 q → H1[q]? = H[q]?) → va_S A0 H0 H1 locs1 → W p l e R s m args below meth c H1 locs1 (cells + mc) (slots + ms) Q (F0 m (pc + 3) ls (.int r :: rest))) : W p l e R s m args below meth c H locs cells slots Q (F0 m pc ls st0) := by
  intro T hT X
  rcases hr T hT X with ⟨v, st₀, t, T', L, h0, X', hL, e1, e2, ⟨⟨r, u, hv, hp, hb⟩, hF⟩, st⟩ | ⟨q, st₀, t, T', L, E, ce, h0, X', hL, e1, e2, ⟨u, hp, hb, hF⟩, hce, hcv, hcl, st⟩
  · cases hv
    obtain ⟨k1, k2, k3⟩ := vx_keep h0 e1 hS hA hf hL hF
    obtain ⟨t2, a1, b1⟩ := kk r u t T'.heap (locs ++ L) e1.symm (by rw [← e2]; exact X'.warmed.alike) hp hb k1 k2 k3 T' rfl X'
    exact ⟨t2, st t2 a1, b1⟩
  · obtain ⟨k1, k2, k3⟩ := vx_keep h0 e1 hS hAX hf hL hF
    obtain ⟨t2, a1, b1⟩ := kx E ce q u t T'.heap (locs ++ L) e1.symm (by rw [← e2]; exact X'.warmed.alike) hp hb k1 k2 k3 (by rw [e1]; exact hce) hcv hcl T' rfl X'
    exact ⟨t2, st.trans a1, b1⟩
theorem vx_calll {S SX : Type} {post : Int64 → S → Prop} {px : SX → Prop} {B : S → State → Prop} {BX : String → SX → State → Prop} {AX : Nat → Prop} (hr : vx_Run p l e R s m args below meth c H locs cells slots mc ms (F0 m pc ls st0) rest (va_Ql post B A1 a) (vx_X px BX AX) free) (hS : va_S A0 H0 H locs) (hA : ∀ q, q < H.size → A1 q → A0 q) (hf : ∀ q, free q → A0 q) (hAX : ∀ q, q < H.size → AX q → A0 q)
    (kx : ∀ (E : String) (ce : Cell) (q9 : Addr) (u : SX) (t : State) (H1 : Heap) (locs1 : List Loc), t.heap = H1 → s.vm.Alike t.vm → px u → BX E u t → H.size ≤ H1.size → (∀ q : Nat, q < H.size → ¬ AX q → H1[q]? = H[q]?) → va_S A0 H0 H1 locs1 → H1[q9]? = some ce → ce.vm = .none → s.vm.findClass E = some ce.cls → vx_W p l e R s m args below meth c H1 locs1 (cells + mc) (slots + ms) Q (F0 m pc ls rest) q9)
    (kk : ∀ (r : Int64) (u : S) (t : State) (H1 : Heap) (locs1 : List Loc), t.heap = H1 → s.vm.Alike t.vm → post r u → B u t → H.size ≤ H1.size → (∀ q : Nat, q < H.size → ¬ A1 q → H1[q]? = H[q]?) → va_S A0 H0 H1 locs1 → W p l e R s m args below meth c H1 locs1 (cells + mc) (slots + ms) Q (F0 m (pc + 3) ls (.long r :: rest))) : W p l e R s m args below meth c H locs cells slots Q (F0 m pc ls st0) := by
  intro T hT X
  rcases hr T hT X with ⟨v, st₀, t, T', L, h0, X', hL, e1, e2, ⟨⟨r, u, hv, hp, hb⟩, hF⟩, st⟩ | ⟨q, st₀, t, T', L, E, ce, h0, X', hL, e1, e2, ⟨u, hp, hb, hF⟩, hce, hcv, hcl, st⟩
  · cases hv
    obtain ⟨k1, k2, k3⟩ := vx_keep h0 e1 hS hA hf hL hF
    obtain ⟨t2, a1, b1⟩ := kk r u t T'.heap (locs ++ L) e1.symm (by rw [← e2]; exact X'.warmed.alike) hp hb k1 k2 k3 T' rfl X'
    exact ⟨t2, st t2 a1, b1⟩
  · obtain ⟨k1, k2, k3⟩ := vx_keep h0 e1 hS hAX hf hL hF
    obtain ⟨t2, a1, b1⟩ := kx E ce q u t T'.heap (locs ++ L) e1.symm (by rw [← e2]; exact X'.warmed.alike) hp hb k1 k2 k3 (by rw [e1]; exact hce) hcv hcl T' rfl X'
    exact ⟨t2, st.trans a1, b1⟩
theorem vx_callf {S SX : Type} {post : UInt32 → S → Prop} {px : SX → Prop} {B : S → State → Prop} {BX : String → SX → State → Prop} {AX : Nat → Prop} (hr : vx_Run p l e R s m args below meth c H locs cells slots mc ms (F0 m pc ls st0) rest (va_Qf post B A1 a) (vx_X px BX AX) free) (hS : va_S A0 H0 H locs) (hA : ∀ q, q < H.size → A1 q → A0 q) (hf : ∀ q, free q → A0 q) (hAX : ∀ q, q < H.size → AX q → A0 q)
    (kx : ∀ (E : String) (ce : Cell) (q9 : Addr) (u : SX) (t : State) (H1 : Heap) (locs1 : List Loc), t.heap = H1 → s.vm.Alike t.vm → px u → BX E u t → H.size ≤ H1.size → (∀ q : Nat, q < H.size → ¬ AX q → H1[q]? = H[q]?) → va_S A0 H0 H1 locs1 → H1[q9]? = some ce → ce.vm = .none → s.vm.findClass E = some ce.cls → vx_W p l e R s m args below meth c H1 locs1 (cells + mc) (slots + ms) Q (F0 m pc ls rest) q9)
    (kk : ∀ (r : UInt32) (u : S) (t : State) (H1 : Heap) (locs1 : List Loc), t.heap = H1 → s.vm.Alike t.vm → post r u → B u t → H.size ≤ H1.size → (∀ q : Nat, q < H.size → ¬ A1 q → H1[q]? = H[q]?) → va_S A0 H0 H1 locs1 → W p l e R s m args below meth c H1 locs1 (cells + mc) (slots + ms) Q (F0 m (pc + 3) ls (.float r :: rest))) : W p l e R s m args below meth c H locs cells slots Q (F0 m pc ls st0) := by
  intro T hT X
  rcases hr T hT X with ⟨v, st₀, t, T', L, h0, X', hL, e1, e2, ⟨⟨r, u, hv, hp, hb⟩, hF⟩, st⟩ | ⟨q, st₀, t, T', L, E, ce, h0, X', hL, e1, e2, ⟨u, hp, hb, hF⟩, hce, hcv, hcl, st⟩
  · cases hv
    obtain ⟨k1, k2, k3⟩ := vx_keep h0 e1 hS hA hf hL hF
    obtain ⟨t2, a1, b1⟩ := kk r u t T'.heap (locs ++ L) e1.symm (by rw [← e2]; exact X'.warmed.alike) hp hb k1 k2 k3 T' rfl X'
    exact ⟨t2, st t2 a1, b1⟩
  · obtain ⟨k1, k2, k3⟩ := vx_keep h0 e1 hS hAX hf hL hF
    obtain ⟨t2, a1, b1⟩ := kx E ce q u t T'.heap (locs ++ L) e1.symm (by rw [← e2]; exact X'.warmed.alike) hp hb k1 k2 k3 (by rw [e1]; exact hce) hcv hcl T' rfl X'
    exact ⟨t2, st.trans a1, b1⟩
theorem vx_calld {S SX : Type} {post : UInt64 → S → Prop} {px : SX → Prop} {B : S → State → Prop} {BX : String → SX → State → Prop} {AX : Nat → Prop} (hr : vx_Run p l e R s m args below meth c H locs cells slots mc ms (F0 m pc ls st0) rest (va_Qd post B A1 a) (vx_X px BX AX) free) (hS : va_S A0 H0 H locs) (hA : ∀ q, q < H.size → A1 q → A0 q) (hf : ∀ q, free q → A0 q) (hAX : ∀ q, q < H.size → AX q → A0 q)
    (kx : ∀ (E : String) (ce : Cell) (q9 : Addr) (u : SX) (t : State) (H1 : Heap) (locs1 : List Loc), t.heap = H1 → s.vm.Alike t.vm → px u → BX E u t → H.size ≤ H1.size → (∀ q : Nat, q < H.size → ¬ AX q → H1[q]? = H[q]?) → va_S A0 H0 H1 locs1 → H1[q9]? = some ce → ce.vm = .none → s.vm.findClass E = some ce.cls → vx_W p l e R s m args below meth c H1 locs1 (cells + mc) (slots + ms) Q (F0 m pc ls rest) q9)
    (kk : ∀ (r : UInt64) (u : S) (t : State) (H1 : Heap) (locs1 : List Loc), t.heap = H1 → s.vm.Alike t.vm → post r u → B u t → H.size ≤ H1.size → (∀ q : Nat, q < H.size → ¬ A1 q → H1[q]? = H[q]?) → va_S A0 H0 H1 locs1 → W p l e R s m args below meth c H1 locs1 (cells + mc) (slots + ms) Q (F0 m (pc + 3) ls (.double r :: rest))) : W p l e R s m args below meth c H locs cells slots Q (F0 m pc ls st0) := by
  intro T hT X
  rcases hr T hT X with ⟨v, st₀, t, T', L, h0, X', hL, e1, e2, ⟨⟨r, u, hv, hp, hb⟩, hF⟩, st⟩ | ⟨q, st₀, t, T', L, E, ce, h0, X', hL, e1, e2, ⟨u, hp, hb, hF⟩, hce, hcv, hcl, st⟩
  · cases hv
    obtain ⟨k1, k2, k3⟩ := vx_keep h0 e1 hS hA hf hL hF
    obtain ⟨t2, a1, b1⟩ := kk r u t T'.heap (locs ++ L) e1.symm (by rw [← e2]; exact X'.warmed.alike) hp hb k1 k2 k3 T' rfl X'
    exact ⟨t2, st t2 a1, b1⟩
  · obtain ⟨k1, k2, k3⟩ := vx_keep h0 e1 hS hAX hf hL hF
    obtain ⟨t2, a1, b1⟩ := kx E ce q u t T'.heap (locs ++ L) e1.symm (by rw [← e2]; exact X'.warmed.alike) hp hb k1 k2 k3 (by rw [e1]; exact hce) hcv hcl T' rfl X'
    exact ⟨t2, st.trans a1, b1⟩
theorem vx_callv {S SX : Type} {post : S → Prop} {px : SX → Prop} {B : S → State → Prop} {BX : String → SX → State → Prop} {AX : Nat → Prop} (hr : vx_Run p l e R s m args below meth c H locs cells slots mc ms (F0 m pc ls st0) rest (va_Qv post B A1 a) (vx_X px BX AX) free) (hS : va_S A0 H0 H locs) (hA : ∀ q, q < H.size → A1 q → A0 q) (hf : ∀ q, free q → A0 q) (hAX : ∀ q, q < H.size → AX q → A0 q)
    (kx : ∀ (E : String) (ce : Cell) (q9 : Addr) (u : SX) (t : State) (H1 : Heap) (locs1 : List Loc), t.heap = H1 → s.vm.Alike t.vm → px u → BX E u t → H.size ≤ H1.size → (∀ q : Nat, q < H.size → ¬ AX q → H1[q]? = H[q]?) → va_S A0 H0 H1 locs1 → H1[q9]? = some ce → ce.vm = .none → s.vm.findClass E = some ce.cls → vx_W p l e R s m args below meth c H1 locs1 (cells + mc) (slots + ms) Q (F0 m pc ls rest) q9)
    (kk : ∀ (u : S) (t : State) (H1 : Heap) (locs1 : List Loc), t.heap = H1 → s.vm.Alike t.vm → post u → B u t → H.size ≤ H1.size → (∀ q : Nat, q < H.size → ¬ A1 q → H1[q]? = H[q]?) → va_S A0 H0 H1 locs1 → W p l e R s m args below meth c H1 locs1 (cells + mc) (slots + ms) Q (F0 m (pc + 3) ls (rest))) : W p l e R s m args below meth c H locs cells slots Q (F0 m pc ls st0) := by
  intro T hT X
  rcases hr T hT X with ⟨v, st₀, t, T', L, h0, X', hL, e1, e2, ⟨⟨u, hv, hp, hb⟩, hF⟩, st⟩ | ⟨q, st₀, t, T', L, E, ce, h0, X', hL, e1, e2, ⟨u, hp, hb, hF⟩, hce, hcv, hcl, st⟩
  · cases hv
    obtain ⟨k1, k2, k3⟩ := vx_keep h0 e1 hS hA hf hL hF
    obtain ⟨t2, a1, b1⟩ := kk u t T'.heap (locs ++ L) e1.symm (by rw [← e2]; exact X'.warmed.alike) hp hb k1 k2 k3 T' rfl X'
    exact ⟨t2, st t2 a1, b1⟩
  · obtain ⟨k1, k2, k3⟩ := vx_keep h0 e1 hS hAX hf hL hF
    obtain ⟨t2, a1, b1⟩ := kx E ce q u t T'.heap (locs ++ L) e1.symm (by rw [← e2]; exact X'.warmed.alike) hp hb k1 k2 k3 (by rw [e1]; exact hce) hcv hcl T' rfl X'
    exact ⟨t2, st.trans a1, b1⟩
/-- caught by the row x of this method's table; the rows ahead don't take it -/
theorem vx_catch {own name : String} {E : String} {ce : Cell} {q : Addr} (hown : s.vm.findClass own = some m.cls) (pre : List ExceptionTableEntry) (x : ExceptionTableEntry) (suf : List ExceptionTableEntry) (hsplit : c.exceptionTable.toList = pre ++ x :: suf)
    (hpass : ∀ z ∈ pre, covers z pc = false ∨ (z.catchType ≠ 0 ∧ ∃ nm : String, (Cond.classLink own z.catchType nm).before args s = true ∧ va_Nc E nm s)) (hx : covers x pc = true) (h0 : x.catchType ≠ 0)
    (hlink : (Cond.classLink own x.catchType name).before args s = true) (hcast : (Cond.castable E name).before args s = true) (hcell : H[q]? = some ce) (hv : ce.vm = .none) (hcl : s.vm.findClass E = some ce.cls)
    (kk : W p l e R s m args below meth c H locs cells slots Q (F0 m x.handlerPc ls [.ref q])) : vx_W p l e R s m args below meth c H locs cells slots Q (F0 m pc ls rest) q := by
  intro T hT X
  have hpl : e.platform.magicAccessors = ({} : Platform).magicAccessors := by rw [X.admits.platform]
  obtain ⟨c3, c4, hc3, hc4, hasg⟩ := Cond.castable_spec hcast
  cases Option.some.inj (hc3.symm.trans hcl)
  obtain ⟨c5, hc5, hcl5⟩ := Cond.classLink_spec hown hlink e.platform hpl
  cases Option.some.inj (hc4.symm.trans hc5)
  obtain ⟨vm', X', st⟩ := X.thenCaughtThrough q (g := F0 m pc ls rest) rfl (Steps.refl _) (by rw [hT]; exact hcell) (by rw [hv]; rfl) (by obtain ⟨k9, h9, -⟩ := Vm.findClass_spec hcl; exact ⟨k9, h9⟩) pre x suf hsplit
    (fun z hz => by
      rcases hpass z hz with h | ⟨hz0, nm, hl1, hn1⟩
      · exact Or.inl h
      · obtain ⟨c6, hc6, hcl6⟩ := Cond.classLink_spec hown hl1 e.platform hpl
        obtain ⟨a8, b8, h1, h2, h3⟩ := hn1
        cases Option.some.inj (h1.symm.trans hcl)
        cases Option.some.inj (h2.symm.trans hc6)
        exact Or.inr ⟨hz0, _, hcl6, h3⟩) hx (Or.inr ⟨h0, c4, hcl5, hasg⟩)
  obtain ⟨t, a1, b1⟩ := kk (T.setVm vm') hT X'
  exact ⟨t, st.trans a1, b1⟩
end Rows
section Ends
variable {p : Program} {l : Launch} {e : Env} {R : Room} {s : State} {m : MethodId} {args : Array Value} {below : List Frame} {meth : Method} {c : Code} {H : Heap} {locs : List Loc} {cells slots : Nat} {Q : State → Prop}
variable {mc ms : Nat} {free : Addr → Prop} {A0 A1 : Nat → Prop} {H0 : Heap} {a : Array Value} {ls : Array Slot} {st0 rest : List Value}
variable {Qc : Array Value → State → Outcome → State → Prop} {XC : String → State → State → Prop}
/-- what a body that may throw owes at its end -/
def vx_MQ (below : List Frame) (Qc : Array Value → State → Outcome → State → Prop) (XC : String → State → State → Prop) (a : Array Value) (s : State) (mc ms : Nat) (free : Addr → Prop) : State → Prop := fun t =>
  ∃ o, t.status = .running ∧ Ended t below o ∧ vx_Q Qc XC mc ms free a s o t
theorem vx_ret {g : JFrame} {mc ms : Nat} (k : W p l e R s m args below meth c H locs cells slots (MQ below Qc args s mc ms free) g) : W p l e R s m args below meth c H locs cells slots (vx_MQ below Qc XC args s mc ms free) g := by
  intro T hT X
  obtain ⟨t, a1, o, b1, b2, b3, b4⟩ := k T hT X
  exact ⟨t, a1, o, b1, b2, Or.inl ⟨b3, b4⟩⟩
/-- not caught here: it goes on to the caller -/
theorem vx_widen {g : JFrame} {q : Addr} {k n : Nat} (h1 : cells ≤ k) (h2 : slots ≤ n) (kk : vx_W p l e R s m args below meth c H locs k n Q g q) : vx_W p l e R s m args below meth c H locs cells slots Q g q := fun T hT X => kk T hT (stand_widen X h1 h2)
theorem vx_out {pc : Nat} {E : String} {ce : Cell} {q : Addr} {mc ms : Nat} (hout : ∀ x ∈ c.exceptionTable.toList, covers x pc = false) (hlocks : meth.locks = false) (hcell : H[q]? = some ce) (hv : ce.vm = .none) (hcl : s.vm.findClass E = some ce.cls)
    (hx : ∀ t : State, t.heap = H → s.vm.Alike t.vm → XC E s t) (hf : ∀ z ∈ locs, free z.base) (hc : cells ≤ mc) (hs : slots ≤ ms) :
    vx_W p l e R s m args below meth c H locs cells slots (vx_MQ below Qc XC args s mc ms free) (F0 m pc ls rest) q := by
  intro T hT X
  obtain ⟨st1, hrun, hend, hW, hsm⟩ := X.leaveThrown q (g := F0 m pc ls rest) rfl rfl rfl hout hlocks
  have hcell9 : (T.setFrames (.throwing q :: below)).heap[q]? = some ce := by
    show T.heap[q]? = some ce
    rw [hT]; exact hcell
  exact ⟨_, st1, .threw q, hrun, hend, Or.inr ⟨q, rfl, E, ce, locs, hx _ hT hW.alike, hcell9, hv, hcl, hW, hsm.mono hc hs, hf⟩⟩
theorem vx_frame {U : State} {k n : Nat} (h : s.sameButNew ({ U with vm := s.vm } : State) locs k n) : s.heap.size ≤ U.heap.size ∧ ∀ q : Nat, q < s.heap.size → (∀ z ∈ locs, z.base ≠ q) → U.heap[q]? = s.heap[q]? := by
  obtain ⟨-, h2, -, -, -, h6⟩ := h
  refine ⟨h2, fun q hq hz => ?_⟩
  obtain ⟨c9, e1, e2, e3, e4⟩ := h6 q _ (Array.getElem?_eq_getElem hq)
  have hs : c9.slots = (s.heap[q]).slots := Array.ext_getElem? fun i => e4 i fun hm => hz _ hm rfl
  have h9 : c9 = s.heap[q] := by
    rw [hs] at e2
    exact e2
  have e5 : U.heap[q]? = some c9 := e1
  rw [e5, h9, Array.getElem?_eq_getElem hq]
/-- the words of a throw but the four that speak of the heap -/
def vx_no (w : Cond) : Bool := decide (w ≠ .isRef (.static Bundle.tN "UNASSIGNED_STACK" Bundle.steD)) && decide (w ≠ .isRef (.static Bundle.tN "SUPPRESSED_SENTINEL" Bundle.listD)) && decide (w ≠ .laysStatic Bundle.tN "UNASSIGNED_STACK" Bundle.steD) && decide (w ≠ .laysStatic Bundle.tN "SUPPRESSED_SENTINEL" Bundle.listD)
def vx_at0 (own : String) (ic : Nat) (X : String) (names : List String) : List Cond := (Bundle.ownAtoms0 own ic X names).filter vx_no
def vx_atS (own : String) (ic : Nat) (X : String) (names : List String) : List Cond := (Bundle.ownAtoms own ic X names).filter vx_no
/-- a word that the tables alone decide, or a good one -/
def vx_ot (w : Cond) : Bool := w.onTables || goodWord w
theorem vx_ot_at {args a' : Array Value} {s U : State} {w : Cond} (hW : s.WarmedH U.vm) (hvm : s.vm = U.vm) (hg : vx_ot w = true) (h : w.before args s = true) : w.before a' U = true := by
  simp only [vx_ot, Bool.or_eq_true] at hg
  rcases hg with hg | hg
  · exact va_tabs hg hvm h
  · exact word_at hW (good_of_word hg) h
/-- a list's words: the good ones out of the method's own list, the others by premises of their own -/
theorem vx_hat {args : Array Value} {s : State} {L B : List Cond} (h1 : ∀ w ∈ L.filter goodWord, w.before args s = true) (h2 : ∀ w ∈ L.filter (fun w => !goodWord w), w ∈ B) (h3 : ∀ w ∈ B, w.before args s = true) : ∀ w ∈ L, w.before args s = true := by
  intro w hw
  by_cases g : goodWord w = true
  · exact h1 w (List.mem_filter.mpr ⟨hw, g⟩)
  · refine h3 w (h2 w (List.mem_filter.mpr ⟨hw, ?_⟩))
    show (!goodWord w) = true
    cases hgw : goodWord w
    · rfl
    · exact absurd hgw g
theorem vx_c {args : Array Value} {s : State} {w : Cond} {B : List Cond} (h : w.before args s = true) (t : ∀ w ∈ B, w.before args s = true) : ∀ w' ∈ w :: B, w'.before args s = true := fun w' h' => (List.mem_cons.mp h').elim (fun e => by rw [e]; exact h) (t w')
theorem vx_n {args : Array Value} {s : State} : ∀ w ∈ ([] : List Cond), w.before args s = true := fun _ h => nomatch h
theorem vx_own {args : Array Value} {s : State} {L : List Cond} (h1 : ∀ w ∈ L.filter vx_no, w.before args s = true)
    (hU : (Cond.isRef (.static Bundle.tN "UNASSIGNED_STACK" Bundle.steD)).before args s = true) (hN : (Cond.isRef (.static Bundle.tN "SUPPRESSED_SENTINEL" Bundle.listD)).before args s = true)
    (lU : (Cond.laysStatic Bundle.tN "UNASSIGNED_STACK" Bundle.steD).before args s = true) (lN : (Cond.laysStatic Bundle.tN "SUPPRESSED_SENTINEL" Bundle.listD).before args s = true) : ∀ w ∈ L, w.before args s = true := by
  intro w hw
  by_cases e1 : w = .isRef (.static Bundle.tN "UNASSIGNED_STACK" Bundle.steD)
  · rw [e1]; exact hU
  · by_cases e2 : w = .isRef (.static Bundle.tN "SUPPRESSED_SENTINEL" Bundle.listD)
    · rw [e2]; exact hN
    · by_cases e3 : w = .laysStatic Bundle.tN "UNASSIGNED_STACK" Bundle.steD
      · rw [e3]; exact lU
      · by_cases e4 : w = .laysStatic Bundle.tN "SUPPRESSED_SENTINEL" Bundle.listD
        · rw [e4]; exact lN
        · exact h1 w (List.mem_filter.mpr ⟨hw, by unfold vx_no; rw [decide_eq_true e1, decide_eq_true e2, decide_eq_true e3, decide_eq_true e4]; rfl⟩)
/-- where a static field lies, its class's statics cell in H -/
def vx_L (C n d : String) (A : Nat → Prop) (U : State) (H : Heap) : Prop := ∃ (c : ClassId) (k : Class) (i : Nat) (f : Field) (a : Nat) (cell : Cell), U.vm.findClass C = some c ∧ U.fieldFound? C n d = some (c, k, i, f) ∧ f.isStatic = true ∧ k.statics = some a ∧ H[a]? = some cell ∧ cell.vm.isStatics = true ∧ cell.cls = c ∧ f.slot < cell.slots.size ∧ k.staticTypes[f.slot]? = some f.type ∧ ¬ A a
theorem vx_L.moved {C n d : String} {A : Nat → Prop} {u U : State} {H : Heap} (hvm : u.vm.Alike U.vm) (h : vx_L C n d A u H) : vx_L C n d A U H := by
  obtain ⟨c, k, i, f, a, cell, h1, h2, h3, h4, h5, h6, h7, h8, h9, h10⟩ := h
  obtain ⟨k', hi', he⟩ := State.fieldFound?_setVm hvm h2
  exact ⟨c, k', i, f, a, cell, by rw [hvm.findClass]; exact h1, hi', h3, by rw [he]; exact h4, h5, h6, h7, h8, by rw [he]; exact h9, h10⟩
theorem vx_L.kept {C n d : String} {A : Nat → Prop} {U : State} {H H1 : Heap} (h : vx_L C n d A U H) (hq : ∀ a : Nat, a < H.size → ¬ A a → H1[a]? = H[a]?) : vx_L C n d A U H1 := by
  obtain ⟨c, k, i, f, a, cell, h1, h2, h3, h4, h5, h6, h7, h8, h9, h10⟩ := h
  exact ⟨c, k, i, f, a, cell, h1, h2, h3, h4, by rw [hq a (Array.getElem?_eq_some_iff.mp h5).1 h10]; exact h5, h6, h7, h8, h9, h10⟩
theorem vx_L.narrow {C n d : String} {A B : Nat → Prop} {U : State} {H : Heap} (h : vx_L C n d A U H) (hAB : ∀ q, B q → A q) : vx_L C n d B U H := by
  obtain ⟨c, k, i, f, a, cell, h1, h2, h3, h4, h5, h6, h7, h8, h9, h10⟩ := h
  exact ⟨c, k, i, f, a, cell, h1, h2, h3, h4, h5, h6, h7, h8, h9, fun z => h10 (hAB _ z)⟩
theorem vx_L.word {C n d : String} {A : Nat → Prop} {s : State} {args : Array Value} (h : vx_L C n d A s s.heap) : (Cond.laysStatic C n d).before args s = true := by
  obtain ⟨c, k, i, f, a, cell, h1, h2, h3, h4, h5, h6, h7, h8, h9, -⟩ := h
  show (Cond.laysStatic C n d).holds args s none s [] = true
  exact Cond.laysStatic_of h1 h2 h3 h4 h5 h6 h7 h8 h9
/-- .. and what it holds: null or some reference -/
def vx_Zq (C n d : String) (A : Nat → Prop) (U : State) (H : Heap) : Prop := va_Zq C n d A U H ∧ vx_L C n d A U H
theorem vx_Zq.moved {C n d : String} {A : Nat → Prop} {u U : State} {H : Heap} (hvm : u.vm.Alike U.vm) (h : vx_Zq C n d A u H) : vx_Zq C n d A U H := ⟨va_Zq.moved hvm h.1, vx_L.moved hvm h.2⟩
theorem vx_Zq.kept {C n d : String} {A : Nat → Prop} {U : State} {H H1 : Heap} (h : vx_Zq C n d A U H) (hq : ∀ a : Nat, a < H.size → ¬ A a → H1[a]? = H[a]?) : vx_Zq C n d A U H1 := ⟨va_Zq.kept h.1 hq, vx_L.kept h.2 hq⟩
theorem vx_Zq.narrow {C n d : String} {A B : Nat → Prop} {U : State} {H : Heap} (h : vx_Zq C n d A U H) (hAB : ∀ q, B q → A q) : vx_Zq C n d B U H := ⟨va_Zq.narrow h.1 hAB, vx_L.narrow h.2 hAB⟩
theorem vx_Zqof {args : Array Value} {s : State} {C n d : String} {A : Nat → Prop} (hl : (Cond.laysStatic C n d).before args s = true) (hini : (Cond.initialized C).before args s = true) (h : (Cond.isRef (.static C n d)).before args s = true) (hA : ∀ a : Nat, a < s.heap.size → ¬ A a) : vx_Zq C n d A s s.heap := by
  refine ⟨va_Zqof hl hini h hA, ?_⟩
  obtain ⟨c, k, i, f, a, cell, h1, h2, h3, h4, h5, h6, h7, h8, h9⟩ := Cond.laysStatic_spec hl
  exact ⟨c, k, i, f, a, cell, h1, h2, h3, h4, h5, h6, h7, h8, h9, hA a (Array.getElem?_eq_some_iff.mp h5).1⟩
theorem vx_isRef {C n d : String} {v : Value} {A : Nat → Prop} {s : State} {args : Array Value} (h : va_Z C n d v A s s.heap) (hv : v.isRef = true) : (Cond.isRef (.static C n d)).before args s = true := by
  obtain ⟨cf, kf, fi, f, a, cell, h1, h2, h3, h4, h5, h6, h7, -⟩ := h
  have he : (Term.static C n d).eval args s none [] s = some v := by
    simp [Term.eval, State.fieldNamed?, h1, h2, h4, h5, h6, h7]
  simp only [Cond.before, Cond.holds, Cond.value, he]
  cases v <;> simp_all [Value.isRef]
theorem vx_isRefq {C n d : String} {A : Nat → Prop} {s : State} {args : Array Value} (h : va_Zq C n d A s s.heap) : (Cond.isRef (.static C n d)).before args s = true := by
  rcases h with h | ⟨t, h⟩
  · exact vx_isRef h rfl
  · exact vx_isRef h rfl
/-- the same frame, seen from here: as if the method were called anew in this heap -/
theorem vx_rebase {T : State} (X : Stand p l e R s m args below meth c T locs cells slots) {R' : Room} (hf : R'.frames ≤ R.frames) (hl : R'.locals ≤ R.locals) (hc : cells + R'.cells ≤ R.cells) (hs : slots + R'.slots ≤ R.slots) :
    Stand p l e R' ((T.setVm s.vm).setFrames (.invoking m args :: below)) m args below meth c T [] 0 0 := by
  have htop : (T.setVm s.vm).topJava?.isSome := X.here.top
  have hF : ((T.setVm s.vm).setFrames (.invoking m args :: below)).frames = .invoking m args :: below := State.frames_setFrames _ (State.cur_lt_of_top htop)
  obtain ⟨g₀, hg0⟩ := Option.isSome_iff_exists.mp htop
  obtain ⟨r, hr⟩ := State.topJava?_eq_some.mp hg0
  have hl9 : e.platform.stackLimits (T.setVm s.vm).me = e.platform.stackLimits s.me := X.limits
  have hb9 : (T.setVm s.vm).me.stackBytes = s.me.stackBytes := X.bytes
  refine ⟨X.admits, X.cas, X.clock, hF, ?_, X.hears, X.method, X.code, X.here, X.tail, X.warmed, ?_, ?_, ?_⟩
  · have h := X.room
    have hU : ((T.setVm s.vm).setFrames (.invoking m args :: below)).localsInUse = s.localsInUse := by
      rw [State.localsInUse_invoking hF (meth := meth) (c := c) X.method X.code, State.localsInUse_invoking X.frames X.method X.code]
    simp only [State.hasRoom, Bool.and_eq_true, decide_eq_true_eq] at h ⊢
    obtain ⟨⟨⟨⟨h1, h2, h3, h4, h5, h6⟩, h7⟩, h8⟩, h9⟩ := h
    rw [X.frames, List.length_cons] at h2 h3
    have q1 := X.heapSize
    have q2 := X.used
    simp only [hF, hU, List.length_cons, State.stackLimits_setFrames, State.stackBytes_setFrames, hl9, hb9]
    refine ⟨⟨⟨⟨by omega, by omega, by omega, by omega, by omega, h6⟩, ?_⟩, ?_⟩, X.book⟩
    · show T.heap.size + R'.cells ≤ e.platform.maxCells
      omega
    · show T.slotsUsed + R'.slots ≤ e.platform.maxSlots
      omega
  · rw [State.stackLimits_setFrames]; rfl
  · rw [State.stackBytes_setFrames]; rfl
  · refine ⟨?_, Nat.le_refl _, Nat.le_refl _, ?_, ?_, fun a c9 h9 => ⟨c9, h9, rfl, rfl, fun _ _ => rfl⟩⟩
    · obtain ⟨t, ht, -⟩ := State.frames_cons hr
      show T.setVm s.vm = { ((T.setVm s.vm).setFrames (.invoking m args :: below)).setFrames (T.setVm s.vm).frames with heap := T.heap, slotsUsed := T.slotsUsed }
      rw [State.setFrames_setFrames, State.setFrames_self ht]
      rfl
    · show T.slotsUsed = T.slotsUsed + ((T.heap.toList.drop T.heap.size).map (·.slots.size)).sum
      rw [List.drop_eq_nil_of_le (Nat.le_of_eq Array.length_toList)]
      rfl
    · show ((T.heap.toList.drop T.heap.size).map (·.slots.size)).sum ≤ 0
      rw [List.drop_eq_nil_of_le (Nat.le_of_eq Array.length_toList)]
      exact Nat.le_refl _
/-- 'throw new E()': new; dup; invokespecial; athrow -/
theorem vx_throw0 {cc : ByteArray} {pc : Nat} (hexec : p.tables.exec = Jvm.exec) (hb : c.code = cc) (hl : l.stackTraces = false) {own cls : String} {names : List String} {ik ic mc ms : Nat} {A : Nat → Prop}
    (hown : s.vm.findClass own = some m.cls) (hcls : Bundle.fit cls = true) (hnames : ∀ n ∈ names, Bundle.fit n = true)
    (hk : (Cond.classLink own ik cls).before args s = true) (hini : (Cond.initialized cls).before args s = true) (hat : ∀ w ∈ vx_at0 own ic cls names, w.before args s = true)
    (hgood : ∀ w ∈ Cond.classLink own ik cls :: Cond.initialized cls :: vx_at0 own ic cls names, vx_ot w = true)
    (hU : vx_Zq Bundle.tN "UNASSIGNED_STACK" Bundle.steD A s s.heap) (hN : vx_Zq Bundle.tN "SUPPRESSED_SENTINEL" Bundle.listD A s s.heap) (hS : va_S A s.heap H locs) (hsize : ls.size = c.maxLocals)
    (d0 : decode cc pc = .ok (.new ik, 3)) (d3 : decode cc (pc + 3) = .ok (.dup, 1)) (d4 : decode cc (pc + 4) = .ok (.invokespecial ic, 3)) (d7 : decode cc (pc + 7) = .ok (.athrow, 1))
    (hout : ∀ x ∈ c.exceptionTable.toList, covers x (pc + 7) = false)
    (hRframes : names.length + 3 < R.frames) (hRlocals : (rest.map fun v => v.category).sum + (13 * (names.length + 1) + 42) ≤ R.locals) (hRcells : cells + 1 ≤ R.cells) (hRslots : slots + 6 ≤ R.slots) (hlocks : meth.locks = false)
    (hx : ∀ t : State, s.vm.Alike t.vm → H.size ≤ t.heap.size → (∀ q : Nat, q < H.size → t.heap[q]? = H[q]?) → XC cls s t)
    (hf : ∀ z ∈ locs, free z.base) (hc : cells + 1 ≤ mc) (hs : slots + 6 ≤ ms) :
    W p l e R s m args below meth c H locs cells slots (vx_MQ below Qc XC args s mc ms free) (F0 m pc ls rest) := by
  intro T hT X
  have htr : e.platform.stackTraces = false := (show e.platform.stackTraces = l.stackTraces by rw [X.admits.platform]).trans hl
  have Y := vx_rebase X (R' := { frames := R.frames, locals := R.locals, cells := 1, slots := 6 }) (Nat.le_refl _) (Nat.le_refl _) hRcells hRslots
  obtain ⟨s', hA⟩ : ∃ z, z = (T.setVm s.vm).setFrames (.invoking m args :: below) := ⟨_, rfl⟩
  rw [← hA] at Y
  have hvm : s'.vm = s.vm := by rw [hA]; rfl
  have hhp : s'.heap = H := by rw [hA]; exact hT
  have hW0 : s.WarmedH s'.vm := by rw [hvm]; exact State.WarmedH.refl s
  have hat' : ∀ w ∈ vx_at0 own ic cls names, w.before args s' = true := fun w hw => vx_ot_at hW0 hvm.symm (hgood w (List.mem_cons_of_mem _ (List.mem_cons_of_mem _ hw))) (hat w hw)
  have hk' : (Cond.classLink own ik cls).before args s' = true := vx_ot_at hW0 hvm.symm (hgood _ List.mem_cons_self) hk
  have hini' : (Cond.initialized cls).before args s' = true := vx_ot_at hW0 hvm.symm (hgood _ (List.mem_cons_of_mem _ List.mem_cons_self)) hini
  have hU' : vx_Zq Bundle.tN "UNASSIGNED_STACK" Bundle.steD A s' s'.heap := by rw [hhp]; exact vx_Zq.moved hW0.alike (hU.kept hS.2.1)
  have hN' : vx_Zq Bundle.tN "SUPPRESSED_SENTINEL" Bundle.listD A s' s'.heap := by rw [hhp]; exact vx_Zq.moved hW0.alike (hN.kept hS.2.1)
  have h : ∀ w ∈ Bundle.ownAtoms0 own ic cls names, w.before args s' = true := vx_own hat' (vx_isRefq hU'.1) (vx_isRefq hN'.1) hU'.2.word hN'.2.word
  have hown' : s'.vm.findClass own = some m.cls := by rw [hvm]; exact hown
  have hins : (Cond.instantiable cls 6).before args s' = true := h _ (by simp [Bundle.ownAtoms0])
  obtain ⟨vm₁, cX, kX, hfX, hkX, -, -, X₁, st1⟩ := Y.newCold hexec (own := own) (C := cls) (index := ik) (n := 6) hown' hk' hins hini'
    (g := F0 m pc ls rest) rfl (by rw [hb]; exact d0) (Nat.le_refl _) (Nat.le_refl _)
  generalize hT1 : (T.setVm vm₁).pushCell { cls := cX, slots := kX.instanceTypes.map defaultValue, vm := .none } = T1 at X₁ st1
  have hcat : (Value.ref T.heap.size).category = 1 := rfl
  have hcellA : T1.heap[T.heap.size]? = some (freshCell cX kX) := by rw [← hT1]; exact State.heap_pushCell_size _ _
  have d3' : decode c.code (pc + 3) = .ok (.dup, 1) := by rw [hb]; exact d3
  obtain ⟨U, hsteps, hrun, hend, hW, hsame, ce, hce, hO⟩ := X₁.ctorThrow0 hexec htr (own := own) (cls := cls) (names := names) (ic := ic) hown' hcls hnames h (fun x hx => nomatch hx) hfX hkX hcellA (by rw [hhp, hT]; exact Nat.le_refl _)
    (g := { method := m, pc := pc + 4, locals := ls, stack := .ref T.heap.size :: .ref T.heap.size :: rest, locked := none }) rfl hsize rfl rfl (rest := rest) rfl
    (by rw [hb]; exact d4) (by rw [hb]; exact d7) hout hRframes (by simp only [List.map_cons, List.sum_cons, hcat]; omega) hlocks
  obtain ⟨f1, f2⟩ := vx_frame hsame
  rw [hhp] at f1 f2
  have hWs : s.WarmedH U.vm := State.WarmedH.trans hW0 hW
  have hcl : s.vm.findClass cls = some ce.cls := by
    have h9 := hO.cls
    rw [hvm] at h9
    exact h9
  have hall : s.sameButNew ({ U with vm := s.vm } : State) locs mc ms := by
    subst hA
    obtain ⟨e1, e2⟩ := hsame
    rw [State.setFrames_setFrames] at e1
    have h2 : (T.setVm s.vm).sameButNew ({ U with vm := s.vm } : State) [] (0 + 1) (0 + 6) := ⟨e1, e2⟩
    have h3 := X.same.trans h2
    rw [List.append_nil] at h3
    exact h3.mono hc hs
  refine ⟨U, ?_, .threw T.heap.size, hrun, hend, Or.inr ⟨T.heap.size, rfl, cls, ce, locs, hx U hWs.alike f1 (fun q hq => f2 q hq (fun z hz => nomatch hz)), hce, hO.vm, hcl, hWs, hall, hf⟩⟩
  refine st1 _ ?_
  show Steps p.tables e below (T1.setTop { method := m, pc := pc + 3, locals := ls, stack := .ref T.heap.size :: rest, locked := none }) _
  jvm_step X₁.here [X₁.here.top, hexec, d3', Value.category]
  exact hsteps
/-- 'throw new E("text")': new; dup; ldc; invokespecial; athrow -/
theorem vx_throwS {cc : ByteArray} {pc : Nat} (hexec : p.tables.exec = Jvm.exec) (hb : c.code = cc) (hl : l.stackTraces = false) {own cls text : String} {names : List String} {ik is ic mc ms sa : Nat} {A : Nat → Prop}
    (hown : s.vm.findClass own = some m.cls) (hcls : Bundle.fit cls = true) (hnames : ∀ n ∈ names, Bundle.fit n = true)
    (hk : (Cond.classLink own ik cls).before args s = true) (hini : (Cond.initialized cls).before args s = true) (hstr : vk_R own is text sa s) (hat : ∀ w ∈ vx_atS own ic cls names, w.before args s = true)
    (hgood : ∀ w ∈ Cond.classLink own ik cls :: Cond.initialized cls :: vx_atS own ic cls names, vx_ot w = true)
    (hU : vx_Zq Bundle.tN "UNASSIGNED_STACK" Bundle.steD A s s.heap) (hN : vx_Zq Bundle.tN "SUPPRESSED_SENTINEL" Bundle.listD A s s.heap) (hS : va_S A s.heap H locs) (hsize : ls.size = c.maxLocals)
    (d0 : decode cc pc = .ok (.new ik, 3)) (d3 : decode cc (pc + 3) = .ok (.dup, 1)) (d4 : decode cc (pc + 4) = .ok (.ldc is, 2)) (d6 : decode cc (pc + 6) = .ok (.invokespecial ic, 3)) (d9 : decode cc (pc + 9) = .ok (.athrow, 1))
    (hout : ∀ x ∈ c.exceptionTable.toList, covers x (pc + 9) = false)
    (hRframes : names.length + 3 < R.frames) (hRlocals : (rest.map fun v => v.category).sum + (13 * (names.length + 1) + 43) ≤ R.locals) (hRcells : cells + 1 ≤ R.cells) (hRslots : slots + 6 ≤ R.slots) (hlocks : meth.locks = false)
    (hx : ∀ t : State, s.vm.Alike t.vm → H.size ≤ t.heap.size → (∀ q : Nat, q < H.size → t.heap[q]? = H[q]?) → XC cls s t)
    (hf : ∀ z ∈ locs, free z.base) (hc : cells + 1 ≤ mc) (hs : slots + 6 ≤ ms) :
    W p l e R s m args below meth c H locs cells slots (vx_MQ below Qc XC args s mc ms free) (F0 m pc ls rest) := by
  intro T hT X
  have htr : e.platform.stackTraces = false := (show e.platform.stackTraces = l.stackTraces by rw [X.admits.platform]).trans hl
  have Y := vx_rebase X (R' := { frames := R.frames, locals := R.locals, cells := 1, slots := 6 }) (Nat.le_refl _) (Nat.le_refl _) hRcells hRslots
  obtain ⟨s', hA⟩ : ∃ z, z = (T.setVm s.vm).setFrames (.invoking m args :: below) := ⟨_, rfl⟩
  rw [← hA] at Y
  have hvm : s'.vm = s.vm := by rw [hA]; rfl
  have hhp : s'.heap = H := by rw [hA]; exact hT
  have hW0 : s.WarmedH s'.vm := by rw [hvm]; exact State.WarmedH.refl s
  have hat' : ∀ w ∈ vx_atS own ic cls names, w.before args s' = true := fun w hw => vx_ot_at hW0 hvm.symm (hgood w (List.mem_cons_of_mem _ (List.mem_cons_of_mem _ hw))) (hat w hw)
  have hk' : (Cond.classLink own ik cls).before args s' = true := vx_ot_at hW0 hvm.symm (hgood _ List.mem_cons_self) hk
  have hini' : (Cond.initialized cls).before args s' = true := vx_ot_at hW0 hvm.symm (hgood _ (List.mem_cons_of_mem _ List.mem_cons_self)) hini
  have hU' : vx_Zq Bundle.tN "UNASSIGNED_STACK" Bundle.steD A s' s'.heap := by rw [hhp]; exact vx_Zq.moved hW0.alike (hU.kept hS.2.1)
  have hN' : vx_Zq Bundle.tN "SUPPRESSED_SENTINEL" Bundle.listD A s' s'.heap := by rw [hhp]; exact vx_Zq.moved hW0.alike (hN.kept hS.2.1)
  have h : ∀ w ∈ Bundle.ownAtoms own ic cls names, w.before args s' = true := vx_own hat' (vx_isRefq hU'.1) (vx_isRefq hN'.1) hU'.2.word hN'.2.word
  have hown' : s'.vm.findClass own = some m.cls := by rw [hvm]; exact hown
  have hins : (Cond.instantiable cls 6).before args s' = true := h _ (by simp [Bundle.ownAtoms])
  obtain ⟨vm₁, cX, kX, hfX, hkX, -, -, X₁, st1⟩ := Y.newCold hexec (own := own) (C := cls) (index := ik) (n := 6) hown' hk' hins hini'
    (g := F0 m pc ls rest) rfl (by rw [hb]; exact d0) (Nat.le_refl _) (Nat.le_refl _)
  generalize hT1 : (T.setVm vm₁).pushCell { cls := cX, slots := kX.instanceTypes.map defaultValue, vm := .none } = T1 at X₁ st1
  have hcat : (Value.ref T.heap.size).category = 1 := rfl
  have hcellA : T1.heap[T.heap.size]? = some (freshCell cX kX) := by rw [← hT1]; exact State.heap_pushCell_size _ _
  have d3' : decode c.code (pc + 3) = .ok (.dup, 1) := by rw [hb]; exact d3
  have d4' : decode c.code (pc + 4) = .ok (.ldc is, 2) := by rw [hb]; exact d4
  have hstr' : vk_R own is text sa s' := vk_R.warm hW0 hstr
  obtain ⟨U, hsteps, hrun, hend, hW, hsame, ce, hce, hO⟩ := X₁.ctorThrowS hexec htr (own := own) (cls := cls) (names := names) (ic := ic) hown' hcls hnames h (fun x hx => nomatch hx) hfX hkX hcellA (by rw [hhp, hT]; exact Nat.le_refl _) (msg := .ref sa) rfl
    (g := { method := m, pc := pc + 6, locals := ls, stack := .ref sa :: .ref T.heap.size :: .ref T.heap.size :: rest, locked := none }) rfl hsize rfl rfl (rest := rest) rfl
    (by rw [hb]; exact d6) (by rw [hb]; exact d9) hout hRframes (by simp only [List.map_cons, List.sum_cons, hcat]; omega) hlocks
  obtain ⟨f1, f2⟩ := vx_frame hsame
  rw [hhp] at f1 f2
  have hWs : s.WarmedH U.vm := State.WarmedH.trans hW0 hW
  have hcl : s.vm.findClass cls = some ce.cls := by
    have h9 := hO.cls
    rw [hvm] at h9
    exact h9
  have hall : s.sameButNew ({ U with vm := s.vm } : State) locs mc ms := by
    subst hA
    obtain ⟨e1, e2⟩ := hsame
    rw [State.setFrames_setFrames] at e1
    have h2 : (T.setVm s.vm).sameButNew ({ U with vm := s.vm } : State) [] (0 + 1) (0 + 6) := ⟨e1, e2⟩
    have h3 := X.same.trans h2
    rw [List.append_nil] at h3
    exact h3.mono hc hs
  refine ⟨U, ?_, .threw T.heap.size, hrun, hend, Or.inr ⟨T.heap.size, rfl, cls, ce, locs, hx U hWs.alike f1 (fun q hq => f2 q hq (fun z hz => nomatch hz)), hce, hO.vm, hcl, hWs, hall, hf⟩⟩
  refine st1 _ ?_
  show Steps p.tables e below (T1.setTop { method := m, pc := pc + 3, locals := ls, stack := .ref T.heap.size :: rest, locked := none }) _
  jvm_step X₁.here [X₁.here.top, hexec, d3', Value.category]
  exact X₁.ldcString hexec (own := own) (text := text) (index := is) (a := sa) hown' hstr'.1 hstr'.2
    (g := { method := m, pc := pc + 4, locals := ls, stack := .ref T.heap.size :: .ref T.heap.size :: rest, locked := none }) rfl d4' _ hsteps
/-- 'throw new E("text")', the text by a wide index -/
theorem vx_throwSW {cc : ByteArray} {pc : Nat} (hexec : p.tables.exec = Jvm.exec) (hb : c.code = cc) (hl : l.stackTraces = false) {own cls text : String} {names : List String} {ik is ic mc ms sa : Nat} {A : Nat → Prop}
    (hown : s.vm.findClass own = some m.cls) (hcls : Bundle.fit cls = true) (hnames : ∀ n ∈ names, Bundle.fit n = true)
    (hk : (Cond.classLink own ik cls).before args s = true) (hini : (Cond.initialized cls).before args s = true) (hstr : vk_R own is text sa s) (hat : ∀ w ∈ vx_atS own ic cls names, w.before args s = true)
    (hgood : ∀ w ∈ Cond.classLink own ik cls :: Cond.initialized cls :: vx_atS own ic cls names, vx_ot w = true)
    (hU : vx_Zq Bundle.tN "UNASSIGNED_STACK" Bundle.steD A s s.heap) (hN : vx_Zq Bundle.tN "SUPPRESSED_SENTINEL" Bundle.listD A s s.heap) (hS : va_S A s.heap H locs) (hsize : ls.size = c.maxLocals)
    (d0 : decode cc pc = .ok (.new ik, 3)) (d3 : decode cc (pc + 3) = .ok (.dup, 1)) (d4 : decode cc (pc + 4) = .ok (.ldc_w is, 3)) (d7 : decode cc (pc + 7) = .ok (.invokespecial ic, 3)) (d10 : decode cc (pc + 10) = .ok (.athrow, 1))
    (hout : ∀ x ∈ c.exceptionTable.toList, covers x (pc + 10) = false)
    (hRframes : names.length + 3 < R.frames) (hRlocals : (rest.map fun v => v.category).sum + (13 * (names.length + 1) + 43) ≤ R.locals) (hRcells : cells + 1 ≤ R.cells) (hRslots : slots + 6 ≤ R.slots) (hlocks : meth.locks = false)
    (hx : ∀ t : State, s.vm.Alike t.vm → H.size ≤ t.heap.size → (∀ q : Nat, q < H.size → t.heap[q]? = H[q]?) → XC cls s t)
    (hf : ∀ z ∈ locs, free z.base) (hc : cells + 1 ≤ mc) (hs : slots + 6 ≤ ms) :
    W p l e R s m args below meth c H locs cells slots (vx_MQ below Qc XC args s mc ms free) (F0 m pc ls rest) := by
  intro T hT X
  have htr : e.platform.stackTraces = false := (show e.platform.stackTraces = l.stackTraces by rw [X.admits.platform]).trans hl
  have Y := vx_rebase X (R' := { frames := R.frames, locals := R.locals, cells := 1, slots := 6 }) (Nat.le_refl _) (Nat.le_refl _) hRcells hRslots
  obtain ⟨s', hA⟩ : ∃ z, z = (T.setVm s.vm).setFrames (.invoking m args :: below) := ⟨_, rfl⟩
  rw [← hA] at Y
  have hvm : s'.vm = s.vm := by rw [hA]; rfl
  have hhp : s'.heap = H := by rw [hA]; exact hT
  have hW0 : s.WarmedH s'.vm := by rw [hvm]; exact State.WarmedH.refl s
  have hat' : ∀ w ∈ vx_atS own ic cls names, w.before args s' = true := fun w hw => vx_ot_at hW0 hvm.symm (hgood w (List.mem_cons_of_mem _ (List.mem_cons_of_mem _ hw))) (hat w hw)
  have hk' : (Cond.classLink own ik cls).before args s' = true := vx_ot_at hW0 hvm.symm (hgood _ List.mem_cons_self) hk
  have hini' : (Cond.initialized cls).before args s' = true := vx_ot_at hW0 hvm.symm (hgood _ (List.mem_cons_of_mem _ List.mem_cons_self)) hini
  have hU' : vx_Zq Bundle.tN "UNASSIGNED_STACK" Bundle.steD A s' s'.heap := by rw [hhp]; exact vx_Zq.moved hW0.alike (hU.kept hS.2.1)
  have hN' : vx_Zq Bundle.tN "SUPPRESSED_SENTINEL" Bundle.listD A s' s'.heap := by rw [hhp]; exact vx_Zq.moved hW0.alike (hN.kept hS.2.1)
  have h : ∀ w ∈ Bundle.ownAtoms own ic cls names, w.before args s' = true := vx_own hat' (vx_isRefq hU'.1) (vx_isRefq hN'.1) hU'.2.word hN'.2.word
  have hown' : s'.vm.findClass own = some m.cls := by rw [hvm]; exact hown
  have hins : (Cond.instantiable cls 6).before args s' = true := h _ (by simp [Bundle.ownAtoms])
  obtain ⟨vm₁, cX, kX, hfX, hkX, -, -, X₁, st1⟩ := Y.newCold hexec (own := own) (C := cls) (index := ik) (n := 6) hown' hk' hins hini'
    (g := F0 m pc ls rest) rfl (by rw [hb]; exact d0) (Nat.le_refl _) (Nat.le_refl _)
  generalize hT1 : (T.setVm vm₁).pushCell { cls := cX, slots := kX.instanceTypes.map defaultValue, vm := .none } = T1 at X₁ st1
  have hcat : (Value.ref T.heap.size).category = 1 := rfl
  have hcellA : T1.heap[T.heap.size]? = some (freshCell cX kX) := by rw [← hT1]; exact State.heap_pushCell_size _ _
  have d3' : decode c.code (pc + 3) = .ok (.dup, 1) := by rw [hb]; exact d3
  have d4' : decode c.code (pc + 4) = .ok (.ldc_w is, 3) := by rw [hb]; exact d4
  have hstr' : vk_R own is text sa s' := vk_R.warm hW0 hstr
  obtain ⟨U, hsteps, hrun, hend, hW, hsame, ce, hce, hO⟩ := X₁.ctorThrowS hexec htr (own := own) (cls := cls) (names := names) (ic := ic) hown' hcls hnames h (fun x hx => nomatch hx) hfX hkX hcellA (by rw [hhp, hT]; exact Nat.le_refl _) (msg := .ref sa) rfl
    (g := { method := m, pc := pc + 7, locals := ls, stack := .ref sa :: .ref T.heap.size :: .ref T.heap.size :: rest, locked := none }) rfl hsize rfl rfl (rest := rest) rfl
    (by rw [hb]; exact d7) (by rw [hb]; exact d10) hout hRframes (by simp only [List.map_cons, List.sum_cons, hcat]; omega) hlocks
  obtain ⟨f1, f2⟩ := vx_frame hsame
  rw [hhp] at f1 f2
  have hWs : s.WarmedH U.vm := State.WarmedH.trans hW0 hW
  have hcl : s.vm.findClass cls = some ce.cls := by
    have h9 := hO.cls
    rw [hvm] at h9
    exact h9
  have hall : s.sameButNew ({ U with vm := s.vm } : State) locs mc ms := by
    subst hA
    obtain ⟨e1, e2⟩ := hsame
    rw [State.setFrames_setFrames] at e1
    have h2 : (T.setVm s.vm).sameButNew ({ U with vm := s.vm } : State) [] (0 + 1) (0 + 6) := ⟨e1, e2⟩
    have h3 := X.same.trans h2
    rw [List.append_nil] at h3
    exact h3.mono hc hs
  refine ⟨U, ?_, .threw T.heap.size, hrun, hend, Or.inr ⟨T.heap.size, rfl, cls, ce, locs, hx U hWs.alike f1 (fun q hq => f2 q hq (fun z hz => nomatch hz)), hce, hO.vm, hcl, hWs, hall, hf⟩⟩
  refine st1 _ ?_
  show Steps p.tables e below (T1.setTop { method := m, pc := pc + 3, locals := ls, stack := .ref T.heap.size :: rest, locked := none }) _
  jvm_step X₁.here [X₁.here.top, hexec, d3', Value.category]
  exact X₁.ldcStringW hexec (own := own) (text := text) (index := is) (a := sa) hown' hstr'.1 hstr'.2
    (g := { method := m, pc := pc + 4, locals := ls, stack := .ref T.heap.size :: .ref T.heap.size :: rest, locked := none }) rfl d4' _ hsteps
end Ends
section Bodies
variable {l : Launch}
theorem vx_ofW {y : MethodName} {ws ws' : List Cond} {rm : Room} {Pc : Array Value → State → Prop} {Qc : Array Value → State → Outcome → State → Prop} {XC : String → State → State → Prop} {mc ms : Nat} {free : Addr → Prop} {cc : ByteArray} {maxL : Nat} {ret : Option FieldType}
    (hy : plainName y.cls = true) (hw : ws = Cond.code y cc maxL ret :: ws')
    (body : ∀ p e s m args below meth c s₁, BodyLoose p l y (headSpec ws rm) cc maxL ret e s m args below meth c s₁ → c.maxLocals = maxL → (∀ x ∈ c.exceptionTable.toList, False) → Pc args s →
      W p l e (headSpec ws rm).room s m args below meth c s.heap [] 0 0 (vx_MQ below Qc XC args s mc ms free) (entryFrame m args maxL)) : vx_Met l y ws rm Pc Qc XC mc ms free := by
  refine MetFree.of_bodyS (code := cc) (maxLocals := maxL) (ret := ret) hy ?_ ?_
  · intro args s m h hn
    obtain ⟨meth, c, h1, h2, h3, h4, h5, h6, -, -⟩ := Cond.code_spec hn (atoms_spec (ws := ws) h _ (by rw [hw]; exact List.mem_cons_self))
    exact ⟨meth, c, h1, h2, h3, h4, h5, h6⟩
  · intro p e s m args below meth c s₁ B hml hP _
    have hh0 : s₁.heap = s.heap := by rw [B.state]; rfl
    have ht : ∀ x ∈ c.exceptionTable.toList, False := by
      obtain ⟨meth9, c9, h1, h2, -, -, -, -, h7, -⟩ := Cond.code_spec B.named (atoms_spec (ws := ws) B.pre _ (by rw [hw]; exact List.mem_cons_self))
      cases Option.some.inj (h1.symm.trans B.method)
      cases Option.some.inj (h2.symm.trans (Stand.of_body B).code)
      intro x hx
      rw [Array.isEmpty_iff.mp h7] at hx
      cases hx
    obtain ⟨t, a1, o, b1, b2, b3⟩ := body p e s m args below meth c s₁ B hml ht hP s₁ hh0 (Stand.of_body B)
    exact ⟨t, o, a1, b1, b2, b3⟩
/-- the table of a body with handlers -/
theorem vx_table {p : Program} {x y : MethodName} {S : Spec} {cc bytes : ByteArray} {maxL maxL' : Nat} {ret ret' : Option FieldType} {e : Env} {s s₁ : State} {m : MethodId} {args : Array Value} {below : List Frame} {meth : Method} {c : Code} {hh : List (Nat × Nat × Nat × Nat)}
    (B : BodyLoose p l y S cc maxL ret e s m args below meth c s₁) (h : (Cond.codeWith y bytes maxL' ret' hh).before args s = true) : c.exceptionTable.toList = tableOf hh := by
  obtain ⟨m9, meth9, c9, hn9, h1, h2, -, -, h6, -⟩ := Cond.codeWith_spec h
  cases Option.some.inj (hn9.symm.trans B.named)
  cases Option.some.inj (h1.symm.trans B.method)
  cases Option.some.inj (h2.symm.trans (Stand.of_body B).code)
  rw [← h6, table_eq]
end Bodies
end VXA
/-! ===== END ===== -/
/-! ===== BEGIN a static call of a method with an exception table ===== -/
section VXS
variable {p : Program} {l : Launch} {e : Env} {R : Room} {s : State} {m : MethodId} {args : Array Value} {below : List Frame} {meth : Method} {c : Code} {T : State} {H : Heap} {locs : List Loc} {cells slots : Nat}
abbrev vx_CSW (R : Room) (s : State) (args : Array Value) (own : String) (index : Nat) (y : MethodName) (bytes : ByteArray) (maxL : Nat) (ret : Option FieldType) (hh : List (Nat × Nat × Nat × Nat)) (ws : List Cond) (rm : Room) (mc ms n : Nat) : Prop :=
  (rm.cells = mc ∧ rm.slots = ms ∧ rm.frames + 1 ≤ R.frames ∧ 8 + (maxL + 11) + rm.locals ≤ R.locals ∧ (∀ w ∈ ws, ∀ (a' : Array Value) (U : State), s.WarmedH U.vm → w.before a' U = true) ∧ Cond.codeWith y bytes maxL ret hh ∈ ws) ∧
  (Cond.codeWith y bytes maxL ret hh).before args s = true ∧ (Cond.initialized y.cls).before args s = true ∧ (y.cls ≠ "java/lang/invoke/MethodHandle" ∧ y.cls ≠ "java/lang/invoke/VarHandle") ∧
  (∀ sig, parseMethodDescriptor y.desc = some sig → n = sig.parameters.length) ∧ (Cond.methodLink own index y).before args s = true ∧ (Cond.static y).before args s = true
theorem vx_cwSW {own : String} {index maxL mc ms : Nat} {y : MethodName} {bytes : ByteArray} {ret : Option FieldType} {hh : List (Nat × Nat × Nat × Nat)} {Ts ws ws' : List Cond} {rm : Room} (n : Nat) (ht : ∀ w ∈ Ts, w.before args s = true) (hT : GoodIn Ts (va_wsS own index y ws)) (hw : ws = Cond.codeWith y bytes maxL ret hh :: ws') (hrc : rm.cells = mc) (hrs : rm.slots = ms)
    (hd : y.cls ≠ "java/lang/invoke/MethodHandle" ∧ y.cls ≠ "java/lang/invoke/VarHandle" ∧ (parseMethodDescriptor y.desc).map (fun d => d.parameters.length) = some n) (hR : rm.frames + 1 ≤ R.frames ∧ 8 + (maxL + 11) + rm.locals ≤ R.locals) :
    vx_CSW R s args own index y bytes maxL ret hh ws rm mc ms n := by
  have ok : ∀ w ∈ va_wsS own index y ws, w.before args s = true := fun w h => ht w (hT w h).1
  have hG : GoodIn Ts ws := fun w h => hT w (by unfold va_wsS; exact List.mem_append_right _ h)
  have hc : Cond.codeWith y bytes maxL ret hh ∈ ws := by rw [hw]; exact List.mem_cons_self
  refine ⟨⟨hrc, hrs, hR.1, hR.2, pay_in ht hG, hc⟩, ht _ (hG _ hc).1, ok _ (by simp [va_wsS]), ⟨hd.1, hd.2.1⟩, fun sig h => ?_, ok _ (by simp [va_wsS]), ok _ (by simp [va_wsS])⟩
  have h2 := hd.2.2
  rw [h] at h2
  exact (Option.some.inj h2).symm
theorem vx_callSW (X : Stand p l e R s m args below meth c T locs cells slots) (hexec : p.tables.exec = Jvm.exec) {own : String} {index : Nat} {y : MethodName} {bytes : ByteArray} {maxL : Nat} {ret : Option FieldType} {hh : List (Nat × Nat × Nat × Nat)}
    (hown : s.vm.findClass own = some m.cls) (hlink : (Cond.methodLink own index y).before args s = true) (hstat : (Cond.static y).before args s = true) (hinit : (Cond.initialized y.cls).before args s = true)
    (hcode : (Cond.codeWith y bytes maxL ret hh).before args s = true) (hy : y.cls ≠ "java/lang/invoke/MethodHandle" ∧ y.cls ≠ "java/lang/invoke/VarHandle")
    {W9 : Nat} {Pre : Pt → Array Value → Prop} {Post : Pt → Array Value → Option Value → Pt → Prop} (hK : Back l R p e below s args y 3 W9 Pre Post)
    {g : JFrame} (hg : g.method = m) (hsize : g.locals.size = c.maxLocals) {argsL rest : List Value} (hlen : ∀ sig, parseMethodDescriptor y.desc = some sig → argsL.length = sig.parameters.length)
    (hstack : g.stack = argsL.reverse ++ rest) (hW : 2 * g.monitorRoom + (rest.map fun v => v.category).sum ≤ W9) (hdg : decode c.code g.pc = .ok (.invokestatic index, 3))
    (hpre : ∀ vm₁, s.WarmedH vm₁ → Pre ⟨T.setVm vm₁, locs, cells, slots⟩ argsL.toArray) :
    ∃ (v : Option Value) (vm₁ : Vm) (B : Pt), s.WarmedH vm₁ ∧ Stand p l e R s m args below meth c B.U B.locs B.cells B.slots ∧ Post ⟨T.setVm vm₁, locs, cells, slots⟩ argsL.toArray v B ∧
      ∀ target, Steps p.tables e below (B.U.setTop { g with pc := g.pc + 3, stack := v.toList ++ rest }) target → Steps p.tables e below (T.setTop g) target := by
  obtain ⟨mk, methM, cM, hnamed, hmethM, -, -, -, -, -, -, hsigM⟩ := Cond.codeWith_spec hcode
  have hstatic : methM.isStatic = true := Cond.static_spec hnamed hmethM hstat
  obtain ⟨kP, hkP, -⟩ := className_of_methodNamed hnamed
  have hinitP : kP.init = .initialized := Cond.initialized_spec (findClass_of_methodNamed hnamed) hkP hinit
  obtain ⟨vm₁, X₁, hstep₁⟩ := X.invokestatic hexec hown hlink hnamed hmethM hstatic hkP hinitP hy (g := g) hg (argsL := argsL) (rest := rest) (hlen _ hsigM) hstack hdg
  obtain ⟨v, B, X', hpost, hsteps⟩ := hK m meth c ⟨T.setVm vm₁, locs, cells, slots⟩ { g with stack := rest } (.invokestatic index) mk argsL.toArray X₁ hg hsize hdg hW (X₁.named hnamed) (hpre vm₁ X₁.warmed)
  exact ⟨v, vm₁, B, X₁.warmed, X', hpost, fun target h => hstep₁ _ fun acts => by rw [doInvoke_state]; exact hsteps.trans h⟩
theorem vx_runSW {y : MethodName} {bytes cc : ByteArray} {maxL nL mc ms n index : Nat} {ret : Option FieldType} {hh : List (Nat × Nat × Nat × Nat)} {ws : List Cond} {rm : Room} {Pc : Array Value → State → Prop} {Qc : Array Value → State → Outcome → State → Prop} {free : Addr → Prop} {Ts : List Cond} {own : String} {As rest : List Value} {g : JFrame}
    (S : CallFix p m c cc nL s args Ts own) (hM : Met l y ws rm Pc Qc mc ms free) (cw : vx_CSW R s args own index y bytes maxL ret hh ws rm mc ms n) (hp : PreS s H Pc As)
    (hg : g.method = m) (hn : As.length = n) (hsize : g.locals.size = nL) (hstack : g.stack = As.reverse ++ rest) (hW : 2 * g.monitorRoom + (rest.map fun v => v.category).sum ≤ 8) (hdg : decode cc g.pc = .ok (.invokestatic index, 3)) (hf : cells + mc ≤ R.cells ∧ slots + ms ≤ R.slots) :
    va_Run p l e R s m args below meth c H locs cells slots mc ms g rest (Qc As.toArray) (free) := by
  obtain ⟨⟨hrc, hrs, hfr, hlo, hws, hcw⟩, hcode, hini, hy, hlen, hl, hstt⟩ := cw
  have hK : Back l R p e below s args y 3 8 (PreOf R mc ms Pc) (PostOf Qc mc ms free) := va_backW (hh := hh) (bytes := bytes) (maxL := maxL) (ret := ret) hM hp.1 hrc hrs hfr hlo hws hcw (fun a' U hW => word_at hW (Or.inl (by first | rfl | simp [Cond.onTables, Cond.keeps, Cond.steady])) hini)
  obtain ⟨hx, hb, hml, ho, -⟩ := S
  intro T hT X
  obtain ⟨v, vm₁, ⟨U', l2, c2, s2⟩, hW₁, X', ⟨g', mk, t, L, e1, e2, hq, h1, hL, h2, h3⟩, st⟩ := vx_callSW X hx (hh := hh) (bytes := bytes) (maxL := maxL) (ret := ret) ho hl hstt hini hcode hy hK hg (hsize.trans hml.symm) (argsL := As) (rest := rest) (fun sig h => hn.trans (hlen sig h)) hstack hW (by rw [hb]; exact hdg)
    (fun vm₁ hW₁ => ⟨hf.1, hf.2, hp.2 (T.setVm vm₁) hT hW₁⟩)
  dsimp only [Pt.U, Pt.locs, Pt.cells, Pt.slots] at X' e1 e2 h1 h2 h3 st
  subst h1; subst h2; subst h3
  exact ⟨v, (T.setVm vm₁).calling g' mk As.toArray, t, U', L, hT, X', hL, e1, e2, hq, st⟩
/-- not caught here, past rows that name other classes: it goes on to the caller -/
theorem vx_outP {p : Program} {l : Launch} {e : Env} {R : Room} {s : State} {m : MethodId} {args : Array Value} {below : List Frame} {meth : Method} {c : Code} {H : Heap} {locs : List Loc} {cells slots : Nat} {free : Addr → Prop} {ls : Array Slot} {rest : List Value} {Qc : Array Value → State → Outcome → State → Prop} {XC : String → State → State → Prop}
    {pc : Nat} {own E : String} {ce : Cell} {q : Addr} {mc ms : Nat} (hown : s.vm.findClass own = some m.cls) (hlocks : meth.locks = false)
    (hpass : ∀ z ∈ c.exceptionTable.toList, covers z pc = false ∨ (z.catchType ≠ 0 ∧ ∃ nm : String, (Cond.classLink own z.catchType nm).before args s = true ∧ va_Nc E nm s)) (hcell : H[q]? = some ce) (hv : ce.vm = .none) (hcl : s.vm.findClass E = some ce.cls)
    (hx : ∀ t : State, t.heap = H → s.vm.Alike t.vm → XC E s t) (hf : ∀ z ∈ locs, free z.base) (hc : cells ≤ mc) (hs : slots ≤ ms) :
    vx_W p l e R s m args below meth c H locs cells slots (vx_MQ below Qc XC args s mc ms free) (F0 m pc ls rest) q := by
  intro T hT X
  have hpl : e.platform.magicAccessors = ({} : Platform).magicAccessors := by rw [X.admits.platform]
  obtain ⟨vm', hW', X', st⟩ := X.outThrough hlocks q (g := F0 m pc ls rest) rfl rfl rfl (cell := ce) (by rw [hT]; exact hcell) (by rw [hv]; rfl)
    (by obtain ⟨k9, h9, -⟩ := Vm.findClass_spec hcl; exact ⟨k9, h9⟩) (fun z hz => by
      rcases hpass z hz with h | ⟨hz0, nm, hl1, hn1⟩
      · exact Or.inl h
      · obtain ⟨c6, hc6, hcl6⟩ := Cond.classLink_spec hown hl1 e.platform hpl
        obtain ⟨a8, b8, h1, h2, h3⟩ := hn1
        cases Option.some.inj (h1.symm.trans hcl)
        cases Option.some.inj (h2.symm.trans hc6)
        exact Or.inr ⟨hz0, _, hcl6, h3⟩)
  obtain ⟨g₀, hfr⟩ := X'.frames_eq
  have hcell9 : ((T.setVm vm').setFrames (.throwing q :: below)).heap[q]? = some ce := by
    show T.heap[q]? = some ce
    rw [hT]; exact hcell
  have hend : Ended ((T.setVm vm').setFrames (.throwing q :: below)) below (.threw q) := State.frames_setFrames _ (State.cur_lt_of_frames hfr)
  refine ⟨(T.setVm vm').setFrames (.throwing q :: below), ?_, .threw q, X'.here.running, hend, Or.inr ⟨q, rfl, E, ce, locs, hx _ hT (X'.ends _).1.alike, hcell9, hv, hcl, (X'.ends _).1, (X'.ends _).2.mono hc hs, hf⟩⟩
  rw [X.pushThrowing_eq]
  exact st
/-- a thing of a world lies in the heap -/
theorem vx_lt {D : va_G} {cl : List vw_C} {ws : va_W} {H1 : Heap} (h : va_P D cl ws H1) {k : Nat} {q : Nat × va_E} (hk : ws[k]? = some q) : q.1 < H1.size := (h k q hk).lt
end VXS
/-! ===== END ===== -/
/-! ===== BEGIN methods with a table of their own: called by a name, returning or throwing ===== -/
section VXH
/-! vx_backW, vx_callVX, vx_callSX, vx_callVW, vx_runVW, vx_runVX, vx_runSX, vx_ofWH follow the same proofs as their sisters above (Free/Laws.lean, Shelf42/LK1.lean); vx_outP calls Shelf42/NT130.lean (outThrough). -/
section
variable {l : Launch} {R : Room} {p : Program} {e : Env} {below : List Frame} {s : State} {sargs : Array Value} {y : MethodName} {len W9 : Nat}
theorem vx_backW {ws : List Cond} {rm : Room} {Pc : Array Value → State → Prop} {Qc : Array Value → State → Outcome → State → Prop} {XC : String → State → State → Prop} {mc ms : Nat} {free : Addr → Prop} {bytes : ByteArray} {maxL : Nat} {ret : Option FieldType} {hh : List (Nat × Nat × Nat × Nat)}
    (hM : vx_Met l y ws rm Pc Qc XC mc ms free) (hblind : FrameBlind Pc) (hrc : rm.cells = mc) (hrs : rm.slots = ms)
    (hframes : rm.frames + 1 ≤ R.frames) (hlocals : W9 + (maxL + 11) + rm.locals ≤ R.locals)
    (hws : ∀ w ∈ ws, ∀ a' U, s.WarmedH U.vm → w.before a' U = true) (hcode : Cond.codeWith y bytes maxL ret hh ∈ ws) (hinit : ∀ a' U, s.WarmedH U.vm → (Cond.initialized y.cls).before a' U = true) :
    vx_Back l R p e below s sargs y len W9 (PreOf R mc ms Pc) (PostOf Qc mc ms free) (vx_Post XC mc ms free) := by
  intro m meth c A g ig mk a X hg hsize hdg hW hn hp
  have h1 : (headSpec ws rm).pre.before a A.U = true := atoms_intro fun w hw => hws w hw _ _ X.warmed
  have h2 : (Cond.codeWith y bytes maxL ret hh).before a A.U = true := hws _ hcode _ _ X.warmed
  have h3 : (Cond.initialized y.cls).before a A.U = true := hinit _ _ X.warmed
  have h4 : A.cells + (headSpec ws rm).room.cells ≤ R.cells := by rw [show (headSpec ws rm).room.cells = mc from hrc]; exact hp.1
  have h5 : A.slots + (headSpec ws rm).room.slots ≤ R.slots := by rw [show (headSpec ws rm).room.slots = ms from hrs]; exact hp.2.1
  have hPc : Pc a (A.U.calling g mk a) := hblind _ _ _ _ hp.2.2
  obtain ⟨U, Ls, c0, s0⟩ := A
  dsimp only [Pt.U, Pt.locs, Pt.cells, Pt.slots] at h1 h2 h3 h4 h5 X hn hPc ⊢
  obtain ⟨m9, methY, cY, hn9, hmY, hcY, -, hlY, -⟩ := Cond.codeWith_spec h2
  cases Option.some.inj (hn9.symm.trans hn)
  obtain ⟨kY, hkY, -⟩ := className_of_methodNamed hn
  have hinitY : kY.init = .initialized := Cond.initialized_spec (findClass_of_methodNamed hn) hkY h3
  have h : At U g.method c below := by rw [hg]; exact X.here
  have hlocals9 : W9 + (maxL + 11) + (headSpec ws rm).room.locals ≤ R.locals := hlocals
  have happ : (headSpec ws rm).appliesLoose y e.platform (U.calling g mk a) = true :=
    Spec.appliesLoose_calling (g := g) h hdg hn hkY hinitY
      (X.room_calling (g := g) (R' := (headSpec ws rm).room) hsize hmY hcY hframes (by rw [hlY]; omega) h4 h5) h1
  obtain ⟨mid, hmid⟩ := h.above
  have hfr : (U.setTop g).frames = (.java g :: mid) ++ below := by rw [State.frames_setTop' g h.top, hmid]; rfl
  obtain ⟨o, s₂, hsteps, -, hend, hq⟩ := Steps.callFree hM p X.admits X.cas X.clock (acts := []) hfr happ hPc trivial
  have hq' : vx_Q Qc XC mc ms free a (U.calling g mk a) o s₂ := hq
  rw [State.frames_setTop' g h.top] at hend
  obtain ⟨g₀, hg0⟩ := Option.isSome_iff_exists.mp h.top
  obtain ⟨r, hr⟩ := State.topJava?_eq_some.mp hg0
  have hr' : (({ U with heap := s₂.heap, slotsUsed := s₂.slotsUsed } : State).setVm s₂.vm).frames = .java g₀ :: r := hr
  rcases hq' with ⟨hqc, L, hfe, hL⟩ | ⟨q, rfl, E, ce, L, hx, hce, hcv, hcl, hW₂, hsm, hL⟩
  · obtain ⟨⟨v, rfl⟩, hW₂, e2, q2, q3, q4, q5, q6⟩ := id hfe
    have e3 : s₂ = ({ (U.calling g mk a).setFrames s₂.frames with heap := s₂.heap, slotsUsed := s₂.slotsUsed } : State).setVm s₂.vm := by
      have : s₂ = ({ s₂ with vm := (U.calling g mk a).vm } : State).setVm s₂.vm := rfl
      rw [e2] at this
      exact this
    obtain ⟨c₂, i₂, len₂, hc₂, hd₂, hf₂⟩ := hend
    have hW' : U.WarmedH s₂.vm := hW₂
    have hcc : c₂ = c := by
      have h1 : s₂.code? g.method = U.code? g.method := by
        rw [State.code?_eq, State.code?_eq, hW'.alike.method?]
      exact Option.some.inj (hc₂.symm.trans (h1.trans h.code))
    subst hcc
    have hlen : len₂ = len := by rw [hdg] at hd₂; cases hd₂; rfl
    subst hlen
    have hs₂ : s₂ = (({ U with heap := s₂.heap, slotsUsed := s₂.slotsUsed } : State).setVm s₂.vm).setTop { g with pc := g.pc + len₂, stack := v.toList ++ g.stack } := by
      refine e3.trans ?_
      rw [hf₂, State.calling_eq h.top, State.setFrames_setFrames, State.setTop_of_frames _ hr', hr]
      rfl
    have hsame : U.sameButNew ({ U with heap := s₂.heap, slotsUsed := s₂.slotsUsed } : State) L mc ms := by
      refine ⟨?_, q2, q3, q4, q5, q6⟩
      obtain ⟨t, ht, -⟩ := State.frames_cons hr
      show ({ U with heap := s₂.heap, slotsUsed := s₂.slotsUsed } : State) = { U.setFrames U.frames with heap := s₂.heap, slotsUsed := s₂.slotsUsed }
      rw [State.setFrames_self ht]
    subst hg
    refine Or.inl ⟨v, ⟨(({ U with heap := s₂.heap, slotsUsed := s₂.slotsUsed } : State).setVm s₂.vm), Ls ++ L, c0 + mc, s0 + ms⟩,
      ⟨X.admits, X.cas, X.clock, X.frames, X.room, X.hears, X.method, X.code, (X.here.setHeapUsed s₂.heap s₂.slotsUsed).setVm hW'.alike, X.tail, State.WarmedH.trans X.warmed hW', X.limits, X.bytes, X.same.trans (hsame.setVm s.vm)⟩,
      ⟨g, mk, s₂, L, rfl, rfl, hqc, rfl, hL, rfl, rfl⟩, ?_⟩
    show Steps p.tables e below _ ((({ U with heap := s₂.heap, slotsUsed := s₂.slotsUsed } : State).setVm s₂.vm).setTop { g with pc := g.pc + len₂, stack := v.toList ++ g.stack })
    rw [← hs₂]
    exact hsteps
  · obtain ⟨e2, q2, q3, q4, q5, q6⟩ := id hsm
    have e3 : s₂ = ({ (U.calling g mk a).setFrames s₂.frames with heap := s₂.heap, slotsUsed := s₂.slotsUsed } : State).setVm s₂.vm := by
      have : s₂ = ({ s₂ with vm := (U.calling g mk a).vm } : State).setVm s₂.vm := rfl
      rw [e2] at this
      exact this
    have hf₂ : s₂.frames = .throwing q :: .java g :: U.frames.tail := hend
    have hW' : U.WarmedH s₂.vm := hW₂
    have hs₂ : s₂ = ((({ U with heap := s₂.heap, slotsUsed := s₂.slotsUsed } : State).setVm s₂.vm).setTop g).pushFrame (.throwing q) := by
      refine e3.trans ?_
      rw [hf₂, State.calling_eq h.top, State.setFrames_setFrames, State.pushFrame, State.frames_setTop _ hr', State.setTop_of_frames _ hr', State.setFrames_setFrames, hr]
      rfl
    have hsame : U.sameButNew ({ U with heap := s₂.heap, slotsUsed := s₂.slotsUsed } : State) L mc ms := by
      refine ⟨?_, q2, q3, q4, q5, q6⟩
      obtain ⟨t, ht, -⟩ := State.frames_cons hr
      show ({ U with heap := s₂.heap, slotsUsed := s₂.slotsUsed } : State) = { U.setFrames U.frames with heap := s₂.heap, slotsUsed := s₂.slotsUsed }
      rw [State.setFrames_self ht]
    subst hg
    refine Or.inr ⟨q, ⟨(({ U with heap := s₂.heap, slotsUsed := s₂.slotsUsed } : State).setVm s₂.vm), Ls ++ L, c0 + mc, s0 + ms⟩,
      ⟨X.admits, X.cas, X.clock, X.frames, X.room, X.hears, X.method, X.code, (X.here.setHeapUsed s₂.heap s₂.slotsUsed).setVm hW'.alike, X.tail, State.WarmedH.trans X.warmed hW', X.limits, X.bytes, X.same.trans (hsame.setVm s.vm)⟩,
      ⟨g, mk, s₂, L, E, ce, rfl, rfl, hx, hce, hcv, hcl, rfl, hL, rfl, rfl⟩, ?_⟩
    show Steps p.tables e below _ (((({ U with heap := s₂.heap, slotsUsed := s₂.slotsUsed } : State).setVm s₂.vm).setTop g).pushFrame (.throwing q))
    rw [← hs₂]
    exact hsteps
end
variable {p : Program} {l : Launch} {e : Env} {R : Room} {s : State} {m : MethodId} {args : Array Value} {below : List Frame} {meth : Method} {c : Code} {T : State} {H : Heap} {locs : List Loc} {cells slots : Nat}
theorem vx_callVX (X : Stand p l e R s m args below meth c T locs cells slots) (hexec : p.tables.exec = Jvm.exec) {own C : String} {index : Nat} {y : MethodName} {bytes : ByteArray} {maxL : Nat} {ret : Option FieldType} {hh : List (Nat × Nat × Nat × Nat)}
    (hown : s.vm.findClass own = some m.cls) (hlink : (Cond.methodLink own index y).before args s = true) (hinst : (Cond.instanceMethod y).before args s = true) (hsel : (Cond.selects C y y).before args s = true)
    (hcode : (Cond.codeWith y bytes maxL ret hh).before args s = true) (hy : y.cls ≠ "java/lang/invoke/MethodHandle" ∧ y.cls ≠ "java/lang/invoke/VarHandle")
    {W9 : Nat} {Pre : Pt → Array Value → Prop} {Post : Pt → Array Value → Option Value → Pt → Prop} {PostX : Pt → Array Value → Addr → Pt → Prop} (hK : vx_Back l R p e below s args y 3 W9 Pre Post PostX)
    {b : Addr} {cellB : Cell} (hcell : T.heap[b]? = some cellB) (hobj : cellB.vm.isStatics = false) (hcls : s.vm.findClass C = some cellB.cls)
    {g : JFrame} (hg : g.method = m) (hsize : g.locals.size = c.maxLocals) {argsL rest : List Value} (hlen : ∀ sig, parseMethodDescriptor y.desc = some sig → argsL.length = sig.parameters.length)
    (hstack : g.stack = argsL.reverse ++ .ref b :: rest) (hW : 2 * g.monitorRoom + (rest.map fun v => v.category).sum ≤ W9) (hdg : decode c.code g.pc = .ok (.invokevirtual index, 3))
    (hpre : ∀ vm₁, s.WarmedH vm₁ → Pre ⟨T.setVm vm₁, locs, cells, slots⟩ (Value.ref b :: argsL).toArray) :
    (∃ (v : Option Value) (vm₁ : Vm) (B : Pt), s.WarmedH vm₁ ∧ Stand p l e R s m args below meth c B.U B.locs B.cells B.slots ∧ Post ⟨T.setVm vm₁, locs, cells, slots⟩ (Value.ref b :: argsL).toArray v B ∧
      ∀ target, Steps p.tables e below (B.U.setTop { g with pc := g.pc + 3, stack := v.toList ++ rest }) target → Steps p.tables e below (T.setTop g) target) ∨
    (∃ (q : Addr) (vm₁ : Vm) (B : Pt), s.WarmedH vm₁ ∧ Stand p l e R s m args below meth c B.U B.locs B.cells B.slots ∧ PostX ⟨T.setVm vm₁, locs, cells, slots⟩ (Value.ref b :: argsL).toArray q B ∧
      Steps p.tables e below (T.setTop g) ((B.U.setTop { g with stack := rest }).pushFrame (.throwing q))) := by
  obtain ⟨mk, methM, hnamed, hmethM, hstM, habM⟩ := Cond.instanceMethod_spec hinst
  obtain ⟨m8, methM', cM, hn8, hmethM', -, -, -, -, -, -, hsigM⟩ := Cond.codeWith_spec hcode
  cases Option.some.inj (hn8.symm.trans hnamed)
  cases hmethM.symm.trans hmethM'
  obtain ⟨c2, r2, m2, q1, q2, q3, q4, kP, hkP, hkPi⟩ := Cond.selects_spec hsel
  cases hcls.symm.trans q1
  cases (State.methodFound?_of_named hnamed hy).symm.trans q2
  cases hnamed.symm.trans q3
  have hselP : selectMethod e.platform s.vm cellB.cls mk = .method mk := by rw [Launch.admits_selectMethod X.admits]; exact q4
  obtain ⟨vm₁, X₁, hstep₁⟩ := X.invokevirtual hexec hown hlink hnamed hmethM hstM hkP hkPi hy (a := b) (cell := cellB) hcell
    (fun z h => by rw [h] at hobj; cases hobj) hselP hmethM habM hkP hkPi (g := g) hg (argsL := argsL) (rest := rest) (hlen _ hsigM) hstack hdg
  rcases hK m meth c ⟨T.setVm vm₁, locs, cells, slots⟩ { g with stack := rest } (.invokevirtual index) mk (Value.ref b :: argsL).toArray X₁ hg hsize hdg hW (X₁.named hnamed) (hpre vm₁ X₁.warmed) with ⟨v, B, X', hpost, hsteps⟩ | ⟨q, B, X', hpost, hsteps⟩
  · exact Or.inl ⟨v, vm₁, B, X₁.warmed, X', hpost, fun target h => hstep₁ _ fun acts => by rw [doInvoke_state]; exact hsteps.trans h⟩
  · exact Or.inr ⟨q, vm₁, B, X₁.warmed, X', hpost, hstep₁ _ fun acts => by rw [doInvoke_state]; exact hsteps⟩
theorem vx_callSX (X : Stand p l e R s m args below meth c T locs cells slots) (hexec : p.tables.exec = Jvm.exec) {own : String} {index : Nat} {y : MethodName} {bytes : ByteArray} {maxL : Nat} {ret : Option FieldType} {hh : List (Nat × Nat × Nat × Nat)}
    (hown : s.vm.findClass own = some m.cls) (hlink : (Cond.methodLink own index y).before args s = true) (hstat : (Cond.static y).before args s = true) (hinit : (Cond.initialized y.cls).before args s = true)
    (hcode : (Cond.codeWith y bytes maxL ret hh).before args s = true) (hy : y.cls ≠ "java/lang/invoke/MethodHandle" ∧ y.cls ≠ "java/lang/invoke/VarHandle")
    {W9 : Nat} {Pre : Pt → Array Value → Prop} {Post : Pt → Array Value → Option Value → Pt → Prop} {PostX : Pt → Array Value → Addr → Pt → Prop} (hK : vx_Back l R p e below s args y 3 W9 Pre Post PostX)
    {g : JFrame} (hg : g.method = m) (hsize : g.locals.size = c.maxLocals) {argsL rest : List Value} (hlen : ∀ sig, parseMethodDescriptor y.desc = some sig → argsL.length = sig.parameters.length)
    (hstack : g.stack = argsL.reverse ++ rest) (hW : 2 * g.monitorRoom + (rest.map fun v => v.category).sum ≤ W9) (hdg : decode c.code g.pc = .ok (.invokestatic index, 3))
    (hpre : ∀ vm₁, s.WarmedH vm₁ → Pre ⟨T.setVm vm₁, locs, cells, slots⟩ argsL.toArray) :
    (∃ (v : Option Value) (vm₁ : Vm) (B : Pt), s.WarmedH vm₁ ∧ Stand p l e R s m args below meth c B.U B.locs B.cells B.slots ∧ Post ⟨T.setVm vm₁, locs, cells, slots⟩ argsL.toArray v B ∧
      ∀ target, Steps p.tables e below (B.U.setTop { g with pc := g.pc + 3, stack := v.toList ++ rest }) target → Steps p.tables e below (T.setTop g) target) ∨
    (∃ (q : Addr) (vm₁ : Vm) (B : Pt), s.WarmedH vm₁ ∧ Stand p l e R s m args below meth c B.U B.locs B.cells B.slots ∧ PostX ⟨T.setVm vm₁, locs, cells, slots⟩ argsL.toArray q B ∧
      Steps p.tables e below (T.setTop g) ((B.U.setTop { g with stack := rest }).pushFrame (.throwing q))) := by
  obtain ⟨mk, methM, cM, hnamed, hmethM, -, -, -, -, -, -, hsigM⟩ := Cond.codeWith_spec hcode
  have hstatic : methM.isStatic = true := Cond.static_spec hnamed hmethM hstat
  obtain ⟨kP, hkP, -⟩ := className_of_methodNamed hnamed
  have hinitP : kP.init = .initialized := Cond.initialized_spec (findClass_of_methodNamed hnamed) hkP hinit
  obtain ⟨vm₁, X₁, hstep₁⟩ := X.invokestatic hexec hown hlink hnamed hmethM hstatic hkP hinitP hy (g := g) hg (argsL := argsL) (rest := rest) (hlen _ hsigM) hstack hdg
  rcases hK m meth c ⟨T.setVm vm₁, locs, cells, slots⟩ { g with stack := rest } (.invokestatic index) mk argsL.toArray X₁ hg hsize hdg hW (X₁.named hnamed) (hpre vm₁ X₁.warmed) with ⟨v, B, X', hpost, hsteps⟩ | ⟨q, B, X', hpost, hsteps⟩
  · exact Or.inl ⟨v, vm₁, B, X₁.warmed, X', hpost, fun target h => hstep₁ _ fun acts => by rw [doInvoke_state]; exact hsteps.trans h⟩
  · exact Or.inr ⟨q, vm₁, B, X₁.warmed, X', hpost, hstep₁ _ fun acts => by rw [doInvoke_state]; exact hsteps⟩
theorem vx_callVW (X : Stand p l e R s m args below meth c T locs cells slots) (hexec : p.tables.exec = Jvm.exec) {own C : String} {index : Nat} {y : MethodName} {bytes : ByteArray} {maxL : Nat} {ret : Option FieldType} {hh : List (Nat × Nat × Nat × Nat)}
    (hown : s.vm.findClass own = some m.cls) (hlink : (Cond.methodLink own index y).before args s = true) (hinst : (Cond.instanceMethod y).before args s = true) (hsel : (Cond.selects C y y).before args s = true)
    (hcode : (Cond.codeWith y bytes maxL ret hh).before args s = true) (hy : y.cls ≠ "java/lang/invoke/MethodHandle" ∧ y.cls ≠ "java/lang/invoke/VarHandle")
    {W9 : Nat} {Pre : Pt → Array Value → Prop} {Post : Pt → Array Value → Option Value → Pt → Prop} (hK : Back l R p e below s args y 3 W9 Pre Post)
    {b : Addr} {cellB : Cell} (hcell : T.heap[b]? = some cellB) (hobj : cellB.vm.isStatics = false) (hcls : s.vm.findClass C = some cellB.cls)
    {g : JFrame} (hg : g.method = m) (hsize : g.locals.size = c.maxLocals) {argsL rest : List Value} (hlen : ∀ sig, parseMethodDescriptor y.desc = some sig → argsL.length = sig.parameters.length)
    (hstack : g.stack = argsL.reverse ++ .ref b :: rest) (hW : 2 * g.monitorRoom + (rest.map fun v => v.category).sum ≤ W9) (hdg : decode c.code g.pc = .ok (.invokevirtual index, 3))
    (hpre : ∀ vm₁, s.WarmedH vm₁ → Pre ⟨T.setVm vm₁, locs, cells, slots⟩ (Value.ref b :: argsL).toArray) :
    ∃ (v : Option Value) (vm₁ : Vm) (B : Pt), s.WarmedH vm₁ ∧ Stand p l e R s m args below meth c B.U B.locs B.cells B.slots ∧ Post ⟨T.setVm vm₁, locs, cells, slots⟩ (Value.ref b :: argsL).toArray v B ∧
      ∀ target, Steps p.tables e below (B.U.setTop { g with pc := g.pc + 3, stack := v.toList ++ rest }) target → Steps p.tables e below (T.setTop g) target := by
  obtain ⟨mk, methM, hnamed, hmethM, hstM, habM⟩ := Cond.instanceMethod_spec hinst
  obtain ⟨m8, methM', cM, hn8, hmethM', -, -, -, -, -, -, hsigM⟩ := Cond.codeWith_spec hcode
  cases Option.some.inj (hn8.symm.trans hnamed)
  cases hmethM.symm.trans hmethM'
  obtain ⟨c2, r2, m2, q1, q2, q3, q4, kP, hkP, hkPi⟩ := Cond.selects_spec hsel
  cases hcls.symm.trans q1
  cases (State.methodFound?_of_named hnamed hy).symm.trans q2
  cases hnamed.symm.trans q3
  have hselP : selectMethod e.platform s.vm cellB.cls mk = .method mk := by rw [Launch.admits_selectMethod X.admits]; exact q4
  obtain ⟨vm₁, X₁, hstep₁⟩ := X.invokevirtual hexec hown hlink hnamed hmethM hstM hkP hkPi hy (a := b) (cell := cellB) hcell
    (fun z h => by rw [h] at hobj; cases hobj) hselP hmethM habM hkP hkPi (g := g) hg (argsL := argsL) (rest := rest) (hlen _ hsigM) hstack hdg
  obtain ⟨v, B, X', hpost, hsteps⟩ := hK m meth c ⟨T.setVm vm₁, locs, cells, slots⟩ { g with stack := rest } (.invokevirtual index) mk (Value.ref b :: argsL).toArray X₁ hg hsize hdg hW (X₁.named hnamed) (hpre vm₁ X₁.warmed)
  exact ⟨v, vm₁, B, X₁.warmed, X', hpost, fun target h => hstep₁ _ fun acts => by rw [doInvoke_state]; exact hsteps.trans h⟩
abbrev vx_CVW (R : Room) (s : State) (args : Array Value) (own C : String) (index : Nat) (y : MethodName) (bytes : ByteArray) (maxL : Nat) (ret : Option FieldType) (hh : List (Nat × Nat × Nat × Nat)) (ws : List Cond) (rm : Room) (mc ms n : Nat) : Prop :=
  (rm.cells = mc ∧ rm.slots = ms ∧ rm.frames + 1 ≤ R.frames ∧ 8 + (maxL + 11) + rm.locals ≤ R.locals ∧ (∀ w ∈ ws, ∀ (a' : Array Value) (U : State), s.WarmedH U.vm → w.before a' U = true) ∧ Cond.codeWith y bytes maxL ret hh ∈ ws) ∧
  (Cond.codeWith y bytes maxL ret hh).before args s = true ∧ (Cond.initialized y.cls).before args s = true ∧ (y.cls ≠ "java/lang/invoke/MethodHandle" ∧ y.cls ≠ "java/lang/invoke/VarHandle") ∧
  (∀ sig, parseMethodDescriptor y.desc = some sig → n = sig.parameters.length) ∧ (Cond.methodLink own index y).before args s = true ∧ (Cond.instanceMethod y).before args s = true ∧ (Cond.selects C y y).before args s = true
theorem vx_cwVW {own C : String} {index maxL mc ms : Nat} {y : MethodName} {bytes : ByteArray} {ret : Option FieldType} {hh : List (Nat × Nat × Nat × Nat)} {Ts ws ws' : List Cond} {rm : Room} (n : Nat) (ht : ∀ w ∈ Ts, w.before args s = true) (hT : GoodIn Ts (wsV own index C y ws)) (hw : ws = Cond.codeWith y bytes maxL ret hh :: ws') (hrc : rm.cells = mc) (hrs : rm.slots = ms)
    (hd : y.cls = C ∧ y.cls ≠ "java/lang/invoke/MethodHandle" ∧ y.cls ≠ "java/lang/invoke/VarHandle" ∧ (parseMethodDescriptor y.desc).map (fun d => d.parameters.length) = some n) (hR : rm.frames + 1 ≤ R.frames ∧ 8 + (maxL + 11) + rm.locals ≤ R.locals) :
    vx_CVW R s args own C index y bytes maxL ret hh ws rm mc ms n := by
  obtain ⟨hC, hd⟩ := hd
  subst hC
  have ok : ∀ w ∈ wsV own index y.cls y ws, w.before args s = true := fun w h => ht w (hT w h).1
  have hG : GoodIn Ts ws := fun w h => hT w (by unfold wsV; exact List.mem_append_right _ h)
  have hc : Cond.codeWith y bytes maxL ret hh ∈ ws := by rw [hw]; exact List.mem_cons_self
  refine ⟨⟨hrc, hrs, hR.1, hR.2, pay_in ht hG, hc⟩, ht _ (hG _ hc).1, ok _ (by simp [wsV]), ⟨hd.1, hd.2.1⟩, fun sig h => ?_, ok _ (by simp [wsV]), ok _ (by simp [wsV]), ok _ (by simp [wsV])⟩
  have h2 := hd.2.2
  rw [h] at h2
  exact (Option.some.inj h2).symm
theorem vx_runVW {y : MethodName} {bytes cc : ByteArray} {maxL nL mc ms n index : Nat} {ret : Option FieldType} {hh : List (Nat × Nat × Nat × Nat)} {ws : List Cond} {rm : Room} {Pc : Array Value → State → Prop} {Qc : Array Value → State → Outcome → State → Prop} {free : Addr → Prop} {Ts : List Cond} {own C : String} {b : Addr} {As rest : List Value} {g : JFrame}
    (S : CallFix p m c cc nL s args Ts own) (hM : Met l y ws rm Pc Qc mc ms free) (cw : vx_CVW R s args own C index y bytes maxL ret hh ws rm mc ms n) (hp : PreV s H C b Pc As)
    (hg : g.method = m) (hn : As.length = n) (hsize : g.locals.size = nL) (hstack : g.stack = As.reverse ++ .ref b :: rest) (hW : 2 * g.monitorRoom + (rest.map fun v => v.category).sum ≤ 8) (hdg : decode cc g.pc = .ok (.invokevirtual index, 3)) (hf : cells + mc ≤ R.cells ∧ slots + ms ≤ R.slots) :
    va_Run p l e R s m args below meth c H locs cells slots mc ms g rest (Qc (Value.ref b :: As).toArray) free := by
  obtain ⟨⟨hrc, hrs, hfr, hlo, hws, hcw⟩, hcode, hini, hy, hlen, hl, hin, hse⟩ := cw
  have hK : Back l R p e below s args y 3 8 (PreOf R mc ms Pc) (PostOf Qc mc ms free) := va_backW (hh := hh) (bytes := bytes) (maxL := maxL) (ret := ret) hM hp.1 hrc hrs hfr hlo hws hcw (fun a' U hW => word_at hW (Or.inl (by first | rfl | simp [Cond.onTables, Cond.keeps, Cond.steady])) hini)
  obtain ⟨hx, hb, hml, ho, -⟩ := S
  obtain ⟨-, ⟨cellB, hcB, hoB, hclB⟩, hPc⟩ := hp
  intro T hT X
  obtain ⟨v, vm₁, ⟨U', l2, c2, s2⟩, hW₁, X', ⟨g', mk, t, L, e1, e2, hq, h1, hL, h2, h3⟩, st⟩ := vx_callVW X hx (C := C) (hh := hh) (bytes := bytes) (maxL := maxL) (ret := ret) ho hl hin hse hcode hy hK (by rw [hT]; exact hcB) hoB hclB hg (hsize.trans hml.symm) (argsL := As) (rest := rest) (fun sig h => hn.trans (hlen sig h)) hstack hW (by rw [hb]; exact hdg)
    (fun vm₁ hW₁ => ⟨hf.1, hf.2, hPc (T.setVm vm₁) hT hW₁⟩)
  dsimp only [Pt.U, Pt.locs, Pt.cells, Pt.slots] at X' e1 e2 h1 h2 h3 st
  subst h1; subst h2; subst h3
  exact ⟨v, (T.setVm vm₁).calling g' mk (Value.ref b :: As).toArray, t, U', L, hT, X', hL, e1, e2, hq, st⟩
section
variable {y : MethodName} {bytes cc : ByteArray} {maxL nL mc ms n index : Nat} {ret : Option FieldType} {ws : List Cond} {rm : Room} {Pc : Array Value → State → Prop} {Qc : Array Value → State → Outcome → State → Prop} {XC : String → State → State → Prop} {free : Addr → Prop} {Ts : List Cond} {own C : String} {b : Addr} {As rest : List Value} {g : JFrame}
theorem vx_runVX {hh : List (Nat × Nat × Nat × Nat)} (S : CallFix p m c cc nL s args Ts own) (hM : vx_Met l y ws rm Pc Qc XC mc ms free) (cw : vx_CVW R s args own C index y bytes maxL ret hh ws rm mc ms n) (hp : PreV s H C b Pc As)
    (hg : g.method = m) (hn : As.length = n) (hsize : g.locals.size = nL) (hstack : g.stack = As.reverse ++ .ref b :: rest) (hW : 2 * g.monitorRoom + (rest.map fun v => v.category).sum ≤ 8) (hdg : decode cc g.pc = .ok (.invokevirtual index, 3)) (hf : cells + mc ≤ R.cells ∧ slots + ms ≤ R.slots) :
    vx_Run p l e R s m args below meth c H locs cells slots mc ms g rest (Qc (Value.ref b :: As).toArray) XC free := by
  obtain ⟨⟨hrc, hrs, hfr, hlo, hws, hcw⟩, hcode, hini, hy, hlen, hl, hin, hse⟩ := cw
  have hK : vx_Back l R p e below s args y 3 8 (PreOf R mc ms Pc) (PostOf Qc mc ms free) (vx_Post XC mc ms free) := vx_backW (hh := hh) (bytes := bytes) (maxL := maxL) (ret := ret) hM hp.1 hrc hrs hfr hlo hws hcw (fun a' U hW => word_at hW (Or.inl (by first | rfl | simp [Cond.onTables, Cond.keeps, Cond.steady])) hini)
  obtain ⟨hx, hb, hml, ho, -⟩ := S
  obtain ⟨-, ⟨cellB, hcB, hoB, hclB⟩, hPc⟩ := hp
  intro T hT X
  rcases vx_callVX X hx (C := C) (hh := hh) (bytes := bytes) (maxL := maxL) (ret := ret) ho hl hin hse hcode hy hK (by rw [hT]; exact hcB) hoB hclB hg (hsize.trans hml.symm) (argsL := As) (rest := rest) (fun sig h => hn.trans (hlen sig h)) hstack hW (by rw [hb]; exact hdg)
    (fun vm₁ hW₁ => ⟨hf.1, hf.2, hPc (T.setVm vm₁) hT hW₁⟩) with ⟨v, vm₁, ⟨U', l2, c2, s2⟩, hW₁, X', ⟨g', mk, t, L, e1, e2, hq, h1, hL, h2, h3⟩, st⟩ | ⟨q, vm₁, ⟨U', l2, c2, s2⟩, hW₁, X', ⟨g', mk, t, L, E, ce, e1, e2, hq, hce, hcv, hcl, h1, hL, h2, h3⟩, st⟩
  · dsimp only [Pt.U, Pt.locs, Pt.cells, Pt.slots] at X' e1 e2 h1 h2 h3 st
    subst h1; subst h2; subst h3
    exact Or.inl ⟨v, (T.setVm vm₁).calling g' mk (Value.ref b :: As).toArray, t, U', L, hT, X', hL, e1, e2, hq, st⟩
  · dsimp only [Pt.U, Pt.locs, Pt.cells, Pt.slots] at X' e1 e2 h1 h2 h3 st hcl
    subst h1; subst h2; subst h3
    exact Or.inr ⟨q, (T.setVm vm₁).calling g' mk (Value.ref b :: As).toArray, t, U', L, E, ce, hT, X', hL, e1, e2, hq, hce, hcv, vx_cls hW₁ hcl, st⟩
theorem vx_runSX {hh : List (Nat × Nat × Nat × Nat)} (S : CallFix p m c cc nL s args Ts own) (hM : vx_Met l y ws rm Pc Qc XC mc ms free) (cw : vx_CSW R s args own index y bytes maxL ret hh ws rm mc ms n) (hp : PreS s H Pc As)
    (hg : g.method = m) (hn : As.length = n) (hsize : g.locals.size = nL) (hstack : g.stack = As.reverse ++ rest) (hW : 2 * g.monitorRoom + (rest.map fun v => v.category).sum ≤ 8) (hdg : decode cc g.pc = .ok (.invokestatic index, 3)) (hf : cells + mc ≤ R.cells ∧ slots + ms ≤ R.slots) :
    vx_Run p l e R s m args below meth c H locs cells slots mc ms g rest (Qc As.toArray) XC free := by
  obtain ⟨⟨hrc, hrs, hfr, hlo, hws, hcw⟩, hcode, hini, hy, hlen, hl, hstt⟩ := cw
  have hK : vx_Back l R p e below s args y 3 8 (PreOf R mc ms Pc) (PostOf Qc mc ms free) (vx_Post XC mc ms free) := vx_backW (hh := hh) (bytes := bytes) (maxL := maxL) (ret := ret) hM hp.1 hrc hrs hfr hlo hws hcw (fun a' U hW => word_at hW (Or.inl (by first | rfl | simp [Cond.onTables, Cond.keeps, Cond.steady])) hini)
  obtain ⟨hx, hb, hml, ho, -⟩ := S
  intro T hT X
  rcases vx_callSX X hx (hh := hh) (bytes := bytes) (maxL := maxL) (ret := ret) ho hl hstt hini hcode hy hK hg (hsize.trans hml.symm) (argsL := As) (rest := rest) (fun sig h => hn.trans (hlen sig h)) hstack hW (by rw [hb]; exact hdg)
    (fun vm₁ hW₁ => ⟨hf.1, hf.2, hp.2 (T.setVm vm₁) hT hW₁⟩) with ⟨v, vm₁, ⟨U', l2, c2, s2⟩, hW₁, X', ⟨g', mk, t, L, e1, e2, hq, h1, hL, h2, h3⟩, st⟩ | ⟨q, vm₁, ⟨U', l2, c2, s2⟩, hW₁, X', ⟨g', mk, t, L, E, ce, e1, e2, hq, hce, hcv, hcl, h1, hL, h2, h3⟩, st⟩
  · dsimp only [Pt.U, Pt.locs, Pt.cells, Pt.slots] at X' e1 e2 h1 h2 h3 st
    subst h1; subst h2; subst h3
    exact Or.inl ⟨v, (T.setVm vm₁).calling g' mk As.toArray, t, U', L, hT, X', hL, e1, e2, hq, st⟩
  · dsimp only [Pt.U, Pt.locs, Pt.cells, Pt.slots] at X' e1 e2 h1 h2 h3 st hcl
    subst h1; subst h2; subst h3
    exact Or.inr ⟨q, (T.setVm vm₁).calling g' mk As.toArray, t, U', L, E, ce, hT, X', hL, e1, e2, hq, hce, hcv, vx_cls hW₁ hcl, st⟩
end
end VXH
theorem vx_ofWH {l : Launch} {y : MethodName} {ws ws' : List Cond} {rm : Room} {Pc : Array Value → State → Prop} {Qc : Array Value → State → Outcome → State → Prop} {XC : String → State → State → Prop} {mc ms : Nat} {free : Addr → Prop} {cc : ByteArray} {maxL : Nat} {ret : Option FieldType} {hh : List (Nat × Nat × Nat × Nat)}
    (hy : plainName y.cls = true) (hw : ws = Cond.codeWith y cc maxL ret hh :: ws')
    (body : ∀ p e s m args below meth c s₁, BodyLoose p l y (headSpec ws rm) cc maxL ret e s m args below meth c s₁ → c.maxLocals = maxL → Pc args s →
      W p l e (headSpec ws rm).room s m args below meth c s.heap [] 0 0 (vx_MQ below Qc XC args s mc ms free) (entryFrame m args maxL)) : vx_Met l y ws rm Pc Qc XC mc ms free := by
  refine MetFree.of_bodyS (code := cc) (maxLocals := maxL) (ret := ret) hy ?_ ?_
  · intro args s m h hn
    obtain ⟨m9, meth, c, hn9, h1, h2, h3, h4, -, h5, h6, -⟩ := Cond.codeWith_spec (atoms_spec (ws := ws) h _ (by rw [hw]; exact List.mem_cons_self))
    cases hn.symm.trans hn9
    exact ⟨meth, c, h1, h2, h3, h4, h5, h6⟩
  · intro p e s m args below meth c s₁ B hml hP _
    have hh0 : s₁.heap = s.heap := by rw [B.state]; rfl
    obtain ⟨t, a1, o, b1, b2, b3⟩ := body p e s m args below meth c s₁ B hml hP s₁ hh0 (Stand.of_body B)
    exact ⟨t, o, a1, b1, b2, b3⟩
/-! ===== END ===== -/

/-! ===== BEGIN .. of methods that hand back an object of the pool ===== -/
section
variable {p : Program} {l : Launch} {e : Env} {R : Room} {s : State} {m : MethodId} {args : Array Value} {below : List Frame} {meth : Method} {c : Code} {H : Heap} {locs : List Loc} {cells slots : Nat} {Q : State → Prop}
variable {mc ms : Nat} {free : Addr → Prop} {A0 A1 : Nat → Prop} {H0 : Heap} {a : Array Value} {pc : Nat} {ls : Array Slot} {st0 rest : List Value}
theorem vx_callq {S SX : Type} {post : Option Nat → S → Prop} {px : SX → Prop} {B : S → State → Prop} {BX : String → SX → State → Prop} {AX : Nat → Prop} (hr : vx_Run p l e R s m args below meth c H locs cells slots mc ms (F0 m pc ls st0) rest (va_Qq post B A1 a) (vx_X px BX AX) free) (hS : va_S A0 H0 H locs) (hA : ∀ q, q < H.size → A1 q → A0 q) (hf : ∀ q, free q → A0 q) (hAX : ∀ q, q < H.size → AX q → A0 q)
    (kx : ∀ (E : String) (ce : Cell) (q9 : Addr) (u : SX) (t : State) (H1 : Heap) (locs1 : List Loc), t.heap = H1 → s.vm.Alike t.vm → px u → BX E u t → H.size ≤ H1.size → (∀ q : Nat, q < H.size → ¬ AX q → H1[q]? = H[q]?) → va_S A0 H0 H1 locs1 → H1[q9]? = some ce → ce.vm = .none → s.vm.findClass E = some ce.cls → vx_W p l e R s m args below meth c H1 locs1 (cells + mc) (slots + ms) Q (F0 m pc ls rest) q9)
    (kk : ∀ (r : Option Nat) (u : S) (t : State) (H1 : Heap) (locs1 : List Loc), t.heap = H1 → s.vm.Alike t.vm → post r u → B u t → H.size ≤ H1.size → (∀ q : Nat, q < H.size → ¬ A1 q → H1[q]? = H[q]?) → va_S A0 H0 H1 locs1 → W p l e R s m args below meth c H1 locs1 (cells + mc) (slots + ms) Q (F0 m (pc + 3) ls (va_rf r :: rest))) : W p l e R s m args below meth c H locs cells slots Q (F0 m pc ls st0) := by
  intro T hT X
  rcases hr T hT X with ⟨v, st₀, t, T', L, h0, X', hL, e1, e2, ⟨⟨r, u, hv, hp, hb⟩, hF⟩, st⟩ | ⟨q, st₀, t, T', L, E, ce, h0, X', hL, e1, e2, ⟨u, hp, hb, hF⟩, hce, hcv, hcl, st⟩
  · cases hv
    obtain ⟨k1, k2, k3⟩ := vx_keep h0 e1 hS hA hf hL hF
    obtain ⟨t2, a1, b1⟩ := kk r u t T'.heap (locs ++ L) e1.symm (by rw [← e2]; exact X'.warmed.alike) hp hb k1 k2 k3 T' rfl X'
    exact ⟨t2, st t2 a1, b1⟩
  · obtain ⟨k1, k2, k3⟩ := vx_keep h0 e1 hS hAX hf hL hF
    obtain ⟨t2, a1, b1⟩ := kx E ce q u t T'.heap (locs ++ L) e1.symm (by rw [← e2]; exact X'.warmed.alike) hp hb k1 k2 k3 (by rw [e1]; exact hce) hcv hcl T' rfl X'
    exact ⟨t2, st.trans a1, b1⟩
end
/-! ===== END ===== -/
def RX0 : String := "CellCycler$Cell"
def TX0 : u_T := fun k => match k with
  | 0 => ("CellCycler$Cell", "curve", "[I", true)
  | 1 => ("CellCycler$Cell", "points", "I", false)
  | 2 => ("CellCycler$Cell", "nominal", "I", false)
  | 3 => ("CellCycler$Cell", "ohms", "I", false)
  | 4 => ("CellCycler$Cell", "polar", "I", false)
  | 5 => ("CellCycler$Cell", "tau", "I", false)
  | 6 => ("CellCycler$Cell", "charge", "I", false)
  | 7 => ("CellCycler$Cell", "leftOver", "I", false)
  | 8 => ("CellCycler$Cell", "capacity", "I", false)
  | 9 => ("CellCycler$Cell", "through", "I", false)
  | 10 => ("CellCycler$Cell", "polarization", "I", false)
  | 11 => ("CellCycler$Cell", "temperature", "I", false)
  | 12 => ("CellCycler$Cell", "heat", "I", false)
  | 13 => ("CellCycler$Cell", "current", "I", false)
  | 14 => ("CellCycler$Cell", "voltage", "I", false)
  | _ => ("CellCycler$Cell", "books", "LCellCycler$Ledger;", true)
def tyX0 : Nat → FieldType := fun k => match k with
  | 0 => .array .int
  | 1 => .int
  | 2 => .int
  | 3 => .int
  | 4 => .int
  | 5 => .int
  | 6 => .int
  | 7 => .int
  | 8 => .int
  | 9 => .int
  | 10 => .int
  | 11 => .int
  | 12 => .int
  | 13 => .int
  | 14 => .int
  | _ => .object "CellCycler$Ledger"
theorem nmX0 : ∀ a, a < 16 → ∀ b, b < 16 → a ≠ b → (TX0 a).2.1 ≠ (TX0 b).2.1 := by decide +kernel
theorem tyX0_ok : ∀ k, k < 16 → parseFieldDescriptor (TX0 k).2.2.1 = some (tyX0 k) := by decide +kernel
abbrev cX0_init : ByteArray := prog_2_method_1_code
def yX0_init : MethodName := ⟨RX0, "<init>", "()V"⟩
abbrev cX0_takeCurve : ByteArray := prog_2_method_2_code
def yX0_takeCurve : MethodName := ⟨RX0, "takeCurve", "(LCellCycler$Curves;I)V"⟩
abbrev cX0_renew : ByteArray := prog_2_method_3_code
def yX0_renew : MethodName := ⟨RX0, "renew", "(II)V"⟩
abbrev cX0_restVoltageAt : ByteArray := prog_2_method_4_code
def yX0_restVoltageAt : MethodName := ⟨RX0, "restVoltageAt", "(I)I"⟩
abbrev cX0_smallestChargeFor : ByteArray := prog_2_method_5_code
def yX0_smallestChargeFor : MethodName := ⟨RX0, "smallestChargeFor", "(I)I"⟩
abbrev cX0_thousandths : ByteArray := prog_2_method_6_code
def yX0_thousandths : MethodName := ⟨RX0, "thousandths", "()I"⟩
abbrev cX0_holding : ByteArray := prog_2_method_7_code
def yX0_holding : MethodName := ⟨RX0, "holding", "(I)I"⟩
abbrev cX0_allowed : ByteArray := prog_2_method_8_code
def yX0_allowed : MethodName := ⟨RX0, "allowed", "(ILCellCycler$Settings;)I"⟩
abbrev cX0_passCurrent : ByteArray := prog_2_method_9_code
def yX0_passCurrent : MethodName := ⟨RX0, "passCurrent", "(ILCellCycler$Settings;)V"⟩
abbrev cX0_polarize : ByteArray := prog_2_method_10_code
def yX0_polarize : MethodName := ⟨RX0, "polarize", "(I)V"⟩
abbrev cX0_moveCharge : ByteArray := prog_2_method_11_code
def yX0_moveCharge : MethodName := ⟨RX0, "moveCharge", "(ILCellCycler$Settings;)V"⟩
abbrev cX0_wear : ByteArray := prog_2_method_12_code
def yX0_wear : MethodName := ⟨RX0, "wear", "(ILCellCycler$Settings;)V"⟩
abbrev cX0_warm : ByteArray := prog_2_method_13_code
def yX0_warm : MethodName := ⟨RX0, "warm", "(ILCellCycler$Settings;)V"⟩
abbrev cX0_copyFrom : ByteArray := prog_2_method_14_code
def yX0_copyFrom : MethodName := ⟨RX0, "copyFrom", "(LCellCycler$Cell;)V"⟩
def RX1 : String := "CellCycler$Channel"
def TX1 : u_T := fun k => match k with
  | 0 => ("CellCycler$Channel", "index", "I", true)
  | 1 => ("CellCycler$Channel", "cell", "LCellCycler$Cell;", true)
  | 2 => ("CellCycler$Channel", "meter", "LCellCycler$Meter;", true)
  | 3 => ("CellCycler$Channel", "state", "I", false)
  | 4 => ("CellCycler$Channel", "program", "I", false)
  | 5 => ("CellCycler$Channel", "step", "I", false)
  | 6 => ("CellCycler$Channel", "lasted", "I", false)
  | 7 => ("CellCycler$Channel", "timesBack", "[I", true)
  | 8 => ("CellCycler$Channel", "queue", "[I", true)
  | 9 => ("CellCycler$Channel", "waiting", "I", false)
  | 10 => ("CellCycler$Channel", "baseIn", "J", false)
  | 11 => ("CellCycler$Channel", "baseOut", "J", false)
  | 12 => ("CellCycler$Channel", "heldSince", "Z", false)
  | _ => ("CellCycler$Channel", "stepBaseOut", "J", false)
def tyX1 : Nat → FieldType := fun k => match k with
  | 0 => .int
  | 1 => .object "CellCycler$Cell"
  | 2 => .object "CellCycler$Meter"
  | 3 => .int
  | 4 => .int
  | 5 => .int
  | 6 => .int
  | 7 => .array .int
  | 8 => .array .int
  | 9 => .int
  | 10 => .long
  | 11 => .long
  | 12 => .boolean
  | _ => .long
theorem nmX1 : ∀ a, a < 14 → ∀ b, b < 14 → a ≠ b → (TX1 a).2.1 ≠ (TX1 b).2.1 := by decide +kernel
theorem tyX1_ok : ∀ k, k < 14 → parseFieldDescriptor (TX1 k).2.2.1 = some (tyX1 k) := by decide +kernel
abbrev cX1_init : ByteArray := prog_3_method_1_code
def yX1_init : MethodName := ⟨RX1, "<init>", "(I)V"⟩
abbrev cX1_insertCell : ByteArray := prog_3_method_2_code
def yX1_insertCell : MethodName := ⟨RX1, "insertCell", "(II)V"⟩
abbrev cX1_isFree : ByteArray := prog_3_method_3_code
def yX1_isFree : MethodName := ⟨RX1, "isFree", "()Z"⟩
abbrev cX1_number : ByteArray := prog_3_method_4_code
def yX1_number : MethodName := ⟨RX1, "number", "(I)I"⟩
abbrev cX1_begin : ByteArray := prog_3_method_5_code
def yX1_begin : MethodName := ⟨RX1, "begin", "(ILCellCycler$World;)V"⟩
abbrev cX1_countFromHere : ByteArray := prog_3_method_6_code
def yX1_countFromHere : MethodName := ⟨RX1, "countFromHere", "()V"⟩
abbrev cX1_enterStep : ByteArray := prog_3_method_7_code
def yX1_enterStep : MethodName := ⟨RX1, "enterStep", "(I)V"⟩
abbrev cX1_takeWaiting : ByteArray := prog_3_method_8_code
def yX1_takeWaiting : MethodName := ⟨RX1, "takeWaiting", "()I"⟩
abbrev cX1_passTick : ByteArray := prog_3_method_9_code
def yX1_passTick : MethodName := ⟨RX1, "passTick", "(LCellCycler$World;)Z"⟩
abbrev cX1_wantedCurrent : ByteArray := prog_3_method_10_code
def yX1_wantedCurrent : MethodName := ⟨RX1, "wantedCurrent", "(LCellCycler$World;)I"⟩
abbrev cX1_warn : ByteArray := prog_3_method_11_code
def yX1_warn : MethodName := ⟨RX1, "warn", "(LCellCycler$World;)V"⟩
abbrev cX1_tripReason : ByteArray := prog_3_method_12_code
def yX1_tripReason : MethodName := ⟨RX1, "tripReason", "(LCellCycler$Settings;Z)I"⟩
abbrev cX1_trip : ByteArray := prog_3_method_13_code
def yX1_trip : MethodName := ⟨RX1, "trip", "(ILCellCycler$World;)V"⟩
abbrev cX1_stepEnds : ByteArray := prog_3_method_14_code
def yX1_stepEnds : MethodName := ⟨RX1, "stepEnds", "(LCellCycler$Programs;)Z"⟩
abbrev cX1_measureEnd : ByteArray := prog_3_method_15_code
def yX1_measureEnd : MethodName := ⟨RX1, "measureEnd", "(LCellCycler$World;)V"⟩
abbrev cX1_makeRecord : ByteArray := prog_3_method_16_code
def yX1_makeRecord : MethodName := ⟨RX1, "makeRecord", "(LCellCycler$World;)V"⟩
abbrev cX1_leaveStep : ByteArray := prog_3_method_17_code
def yX1_leaveStep : MethodName := ⟨RX1, "leaveStep", "(LCellCycler$World;)V"⟩
abbrev cX1_stepBehind : ByteArray := prog_3_method_18_code
def yX1_stepBehind : MethodName := ⟨RX1, "stepBehind", "(LCellCycler$Programs;)I"⟩
abbrev cX1_copyFrom : ByteArray := prog_3_method_19_code
def yX1_copyFrom : MethodName := ⟨RX1, "copyFrom", "(LCellCycler$Channel;)V"⟩
def RX2 : String := "CellCycler$Curves"
def TX2 : u_T := fun k => match k with
  | 0 => ("CellCycler$Curves", "count", "I", false)
  | 1 => ("CellCycler$Curves", "names", "[J", true)
  | 2 => ("CellCycler$Curves", "points", "[I", true)
  | _ => ("CellCycler$Curves", "voltages", "[I", true)
def tyX2 : Nat → FieldType := fun k => match k with
  | 0 => .int
  | 1 => .array .long
  | 2 => .array .int
  | _ => .array .int
theorem nmX2 : ∀ a, a < 4 → ∀ b, b < 4 → a ≠ b → (TX2 a).2.1 ≠ (TX2 b).2.1 := by decide +kernel
theorem tyX2_ok : ∀ k, k < 4 → parseFieldDescriptor (TX2 k).2.2.1 = some (tyX2 k) := by decide +kernel
abbrev cX2_init : ByteArray := prog_4_method_1_code
def yX2_init : MethodName := ⟨RX2, "<init>", "()V"⟩
abbrev cX2_find : ByteArray := prog_4_method_2_code
def yX2_find : MethodName := ⟨RX2, "find", "(J)I"⟩
abbrev cX2_add : ByteArray := prog_4_method_3_code
def yX2_add : MethodName := ⟨RX2, "add", "(J)V"⟩
abbrev cX2_addVoltageToLast : ByteArray := prog_4_method_4_code
def yX2_addVoltageToLast : MethodName := ⟨RX2, "addVoltageToLast", "(I)V"⟩
abbrev cX2_voltageOf : ByteArray := prog_4_method_5_code
def yX2_voltageOf : MethodName := ⟨RX2, "voltageOf", "(II)I"⟩
abbrev cX2_copyFrom : ByteArray := prog_4_method_6_code
def yX2_copyFrom : MethodName := ⟨RX2, "copyFrom", "(LCellCycler$Curves;)V"⟩
def RX3 : String := "CellCycler$Ledger"
def TX3 : u_T := fun k => match k with
  | 0 => ("CellCycler$Ledger", "chargeIn", "J", false)
  | 1 => ("CellCycler$Ledger", "chargeOut", "J", false)
  | 2 => ("CellCycler$Ledger", "energyIn", "J", false)
  | _ => ("CellCycler$Ledger", "energyOut", "J", false)
def tyX3 : Nat → FieldType := fun k => match k with
  | 0 => .long
  | 1 => .long
  | 2 => .long
  | _ => .long
theorem nmX3 : ∀ a, a < 4 → ∀ b, b < 4 → a ≠ b → (TX3 a).2.1 ≠ (TX3 b).2.1 := by decide +kernel
theorem tyX3_ok : ∀ k, k < 4 → parseFieldDescriptor (TX3 k).2.2.1 = some (tyX3 k) := by decide +kernel
abbrev cX3_init : ByteArray := prog_5_method_1_code
def yX3_init : MethodName := ⟨RX3, "<init>", "()V"⟩
abbrev cX3_clear : ByteArray := prog_5_method_2_code
def yX3_clear : MethodName := ⟨RX3, "clear", "()V"⟩
abbrev cX3_copyFrom : ByteArray := prog_5_method_3_code
def yX3_copyFrom : MethodName := ⟨RX3, "copyFrom", "(LCellCycler$Ledger;)V"⟩
def RX4 : String := "CellCycler$Meter"
def TX4 : u_T := fun k => match k with
  | 0 => ("CellCycler$Meter", "rest", "I", false)
  | 1 => ("CellCycler$Meter", "capacity", "I", false)
  | 2 => ("CellCycler$Meter", "resistance", "I", false)
  | 3 => ("CellCycler$Meter", "tripReason", "I", false)
  | 4 => ("CellCycler$Meter", "warnedFor", "I", false)
  | 5 => ("CellCycler$Meter", "warningCount", "I", false)
  | _ => ("CellCycler$Meter", "bands", "[I", true)
def tyX4 : Nat → FieldType := fun k => match k with
  | 0 => .int
  | 1 => .int
  | 2 => .int
  | 3 => .int
  | 4 => .int
  | 5 => .int
  | _ => .array .int
theorem nmX4 : ∀ a, a < 7 → ∀ b, b < 7 → a ≠ b → (TX4 a).2.1 ≠ (TX4 b).2.1 := by decide +kernel
theorem tyX4_ok : ∀ k, k < 7 → parseFieldDescriptor (TX4 k).2.2.1 = some (tyX4 k) := by decide +kernel
abbrev cX4_init : ByteArray := prog_6_method_1_code
def yX4_init : MethodName := ⟨RX4, "<init>", "()V"⟩
abbrev cX4_clear : ByteArray := prog_6_method_2_code
def yX4_clear : MethodName := ⟨RX4, "clear", "()V"⟩
abbrev cX4_countFilling : ByteArray := prog_6_method_3_code
def yX4_countFilling : MethodName := ⟨RX4, "countFilling", "(I)V"⟩
abbrev cX4_copyFrom : ByteArray := prog_6_method_4_code
def yX4_copyFrom : MethodName := ⟨RX4, "copyFrom", "(LCellCycler$Meter;)V"⟩
def RX5 : String := "CellCycler$Programs"
def TX5 : u_T := fun k => match k with
  | 0 => ("CellCycler$Programs", "count", "I", false)
  | 1 => ("CellCycler$Programs", "steps", "[I", true)
  | 2 => ("CellCycler$Programs", "kinds", "[I", true)
  | 3 => ("CellCycler$Programs", "firsts", "[I", true)
  | _ => ("CellCycler$Programs", "seconds", "[I", true)
def tyX5 : Nat → FieldType := fun k => match k with
  | 0 => .int
  | 1 => .array .int
  | 2 => .array .int
  | 3 => .array .int
  | _ => .array .int
theorem nmX5 : ∀ a, a < 5 → ∀ b, b < 5 → a ≠ b → (TX5 a).2.1 ≠ (TX5 b).2.1 := by decide +kernel
theorem tyX5_ok : ∀ k, k < 5 → parseFieldDescriptor (TX5 k).2.2.1 = some (tyX5 k) := by decide +kernel
abbrev cX5_init : ByteArray := prog_7_method_1_code
def yX5_init : MethodName := ⟨RX5, "<init>", "()V"⟩
abbrev cX5_add : ByteArray := prog_7_method_2_code
def yX5_add : MethodName := ⟨RX5, "add", "()V"⟩
abbrev cX5_addStepToLast : ByteArray := prog_7_method_3_code
def yX5_addStepToLast : MethodName := ⟨RX5, "addStepToLast", "(III)V"⟩
abbrev cX5_stepsOf : ByteArray := prog_7_method_4_code
def yX5_stepsOf : MethodName := ⟨RX5, "stepsOf", "(I)I"⟩
abbrev cX5_kindOf : ByteArray := prog_7_method_5_code
def yX5_kindOf : MethodName := ⟨RX5, "kindOf", "(II)I"⟩
abbrev cX5_firstOf : ByteArray := prog_7_method_6_code
def yX5_firstOf : MethodName := ⟨RX5, "firstOf", "(II)I"⟩
abbrev cX5_secondOf : ByteArray := prog_7_method_7_code
def yX5_secondOf : MethodName := ⟨RX5, "secondOf", "(II)I"⟩
abbrev cX5_copyFrom : ByteArray := prog_7_method_8_code
def yX5_copyFrom : MethodName := ⟨RX5, "copyFrom", "(LCellCycler$Programs;)V"⟩
def RX6 : String := "CellCycler$Reader"
def TX6 : u_T := fun k => match k with
  | 0 => ("CellCycler$Reader", "text", "[I", true)
  | 1 => ("CellCycler$Reader", "length", "I", true)
  | 2 => ("CellCycler$Reader", "target", "LCellCycler$World;", true)
  | 3 => ("CellCycler$Reader", "place", "I", false)
  | 4 => ("CellCycler$Reader", "wordStart", "I", false)
  | 5 => ("CellCycler$Reader", "error", "I", false)
  | _ => ("CellCycler$Reader", "errorPlace", "I", false)
def tyX6 : Nat → FieldType := fun k => match k with
  | 0 => .array .int
  | 1 => .int
  | 2 => .object "CellCycler$World"
  | 3 => .int
  | 4 => .int
  | 5 => .int
  | _ => .int
theorem nmX6 : ∀ a, a < 7 → ∀ b, b < 7 → a ≠ b → (TX6 a).2.1 ≠ (TX6 b).2.1 := by decide +kernel
theorem tyX6_ok : ∀ k, k < 7 → parseFieldDescriptor (TX6 k).2.2.1 = some (tyX6 k) := by decide +kernel
abbrev cX6_init : ByteArray := prog_8_method_1_code
def yX6_init : MethodName := ⟨RX6, "<init>", "([IILCellCycler$World;)V"⟩
abbrev cX6_readText : ByteArray := prog_8_method_2_code
def yX6_readText : MethodName := ⟨RX6, "readText", "()V"⟩
abbrev cX6_readSetting : ByteArray := prog_8_method_3_code
def yX6_readSetting : MethodName := ⟨RX6, "readSetting", "(LCellCycler$Settings;)V"⟩
abbrev cX6_readCurve : ByteArray := prog_8_method_4_code
def yX6_readCurve : MethodName := ⟨RX6, "readCurve", "()V"⟩
abbrev cX6_readCell : ByteArray := prog_8_method_5_code
def yX6_readCell : MethodName := ⟨RX6, "readCell", "()V"⟩
abbrev cX6_readProgram : ByteArray := prog_8_method_6_code
def yX6_readProgram : MethodName := ⟨RX6, "readProgram", "()V"⟩
abbrev cX6_readStep : ByteArray := prog_8_method_7_code
def yX6_readStep : MethodName := ⟨RX6, "readStep", "(LCellCycler$Programs;I)V"⟩
abbrev cX6_readWord : ByteArray := prog_8_method_8_code
def yX6_readWord : MethodName := ⟨RX6, "readWord", "()V"⟩
abbrev cX6_wordIs : ByteArray := prog_8_method_9_code
def yX6_wordIs : MethodName := ⟨RX6, "wordIs", "(Ljava/lang/String;)Z"⟩
abbrev cX6_readNumber : ByteArray := prog_8_method_10_code
def yX6_readNumber : MethodName := ⟨RX6, "readNumber", "(II)I"⟩
abbrev cX6_skipSpaces : ByteArray := prog_8_method_11_code
def yX6_skipSpaces : MethodName := ⟨RX6, "skipSpaces", "()V"⟩
abbrev cX6_next : ByteArray := prog_8_method_12_code
def yX6_next : MethodName := ⟨RX6, "next", "()I"⟩
abbrev cX6_fail : ByteArray := prog_8_method_13_code
def yX6_fail : MethodName := ⟨RX6, "fail", "(II)V"⟩
abbrev cX6_isLetter : ByteArray := prog_8_method_14_code
def yX6_isLetter : MethodName := ⟨RX6, "isLetter", "(I)Z"⟩
abbrev cX6_isDigit : ByteArray := prog_8_method_15_code
def yX6_isDigit : MethodName := ⟨RX6, "isDigit", "(I)Z"⟩
def RX7 : String := "CellCycler$Settings"
def TX7 : u_T := fun k => match k with
  | 0 => ("CellCycler$Settings", "efficiency", "I", false)
  | 1 => ("CellCycler$Settings", "fade", "I", false)
  | 2 => ("CellCycler$Settings", "heat", "I", false)
  | 3 => ("CellCycler$Settings", "cool", "I", false)
  | 4 => ("CellCycler$Settings", "low", "I", false)
  | 5 => ("CellCycler$Settings", "high", "I", false)
  | 6 => ("CellCycler$Settings", "hot", "I", false)
  | 7 => ("CellCycler$Settings", "ambient", "I", false)
  | 8 => ("CellCycler$Settings", "warnLow", "I", false)
  | 9 => ("CellCycler$Settings", "warnHigh", "I", false)
  | 10 => ("CellCycler$Settings", "warnHot", "I", false)
  | _ => ("CellCycler$Settings", "span", "I", false)
def tyX7 : Nat → FieldType := fun k => match k with
  | 0 => .int
  | 1 => .int
  | 2 => .int
  | 3 => .int
  | 4 => .int
  | 5 => .int
  | 6 => .int
  | 7 => .int
  | 8 => .int
  | 9 => .int
  | 10 => .int
  | _ => .int
theorem nmX7 : ∀ a, a < 12 → ∀ b, b < 12 → a ≠ b → (TX7 a).2.1 ≠ (TX7 b).2.1 := by decide +kernel
theorem tyX7_ok : ∀ k, k < 12 → parseFieldDescriptor (TX7 k).2.2.1 = some (tyX7 k) := by decide +kernel
abbrev cX7_init : ByteArray := prog_9_method_1_code
def yX7_init : MethodName := ⟨RX7, "<init>", "()V"⟩
abbrev cX7_clear : ByteArray := prog_9_method_2_code
def yX7_clear : MethodName := ⟨RX7, "clear", "()V"⟩
abbrev cX7_copyFrom : ByteArray := prog_9_method_3_code
def yX7_copyFrom : MethodName := ⟨RX7, "copyFrom", "(LCellCycler$Settings;)V"⟩
def RX8 : String := "CellCycler$Table"
def TX8 : u_T := fun k => match k with
  | 0 => ("CellCycler$Table", "limit", "I", true)
  | 1 => ("CellCycler$Table", "width", "I", true)
  | 2 => ("CellCycler$Table", "numbers", "[I", true)
  | 3 => ("CellCycler$Table", "oldest", "I", false)
  | _ => ("CellCycler$Table", "size", "I", false)
def tyX8 : Nat → FieldType := fun k => match k with
  | 0 => .int
  | 1 => .int
  | 2 => .array .int
  | 3 => .int
  | _ => .int
theorem nmX8 : ∀ a, a < 5 → ∀ b, b < 5 → a ≠ b → (TX8 a).2.1 ≠ (TX8 b).2.1 := by decide +kernel
theorem tyX8_ok : ∀ k, k < 5 → parseFieldDescriptor (TX8 k).2.2.1 = some (tyX8 k) := by decide +kernel
abbrev cX8_init : ByteArray := prog_10_method_1_code
def yX8_init : MethodName := ⟨RX8, "<init>", "(II)V"⟩
abbrev cX8_clear : ByteArray := prog_10_method_2_code
def yX8_clear : MethodName := ⟨RX8, "clear", "()V"⟩
abbrev cX8_addRow : ByteArray := prog_10_method_3_code
def yX8_addRow : MethodName := ⟨RX8, "addRow", "()V"⟩
abbrev cX8_get : ByteArray := prog_10_method_4_code
def yX8_get : MethodName := ⟨RX8, "get", "(II)I"⟩
abbrev cX8_placeOf : ByteArray := prog_10_method_5_code
def yX8_placeOf : MethodName := ⟨RX8, "placeOf", "(I)I"⟩
abbrev cX8_copyFrom : ByteArray := prog_10_method_6_code
def yX8_copyFrom : MethodName := ⟨RX8, "copyFrom", "(LCellCycler$Table;)V"⟩
def RX9 : String := "CellCycler$World"
def TX9 : u_T := fun k => match k with
  | 0 => ("CellCycler$World", "time", "I", false)
  | 1 => ("CellCycler$World", "settings", "LCellCycler$Settings;", true)
  | 2 => ("CellCycler$World", "curves", "LCellCycler$Curves;", true)
  | 3 => ("CellCycler$World", "programs", "LCellCycler$Programs;", true)
  | 4 => ("CellCycler$World", "channelCount", "I", false)
  | 5 => ("CellCycler$World", "channels", "[LCellCycler$Channel;", true)
  | 6 => ("CellCycler$World", "records", "LCellCycler$Table;", true)
  | _ => ("CellCycler$World", "log", "LCellCycler$Table;", true)
def tyX9 : Nat → FieldType := fun k => match k with
  | 0 => .int
  | 1 => .object "CellCycler$Settings"
  | 2 => .object "CellCycler$Curves"
  | 3 => .object "CellCycler$Programs"
  | 4 => .int
  | 5 => .array (.object "CellCycler$Channel")
  | 6 => .object "CellCycler$Table"
  | _ => .object "CellCycler$Table"
theorem nmX9 : ∀ a, a < 8 → ∀ b, b < 8 → a ≠ b → (TX9 a).2.1 ≠ (TX9 b).2.1 := by decide +kernel
theorem tyX9_ok : ∀ k, k < 8 → parseFieldDescriptor (TX9 k).2.2.1 = some (tyX9 k) := by decide +kernel
abbrev cX9_init : ByteArray := prog_11_method_1_code
def yX9_init : MethodName := ⟨RX9, "<init>", "()V"⟩
abbrev cX9_clear : ByteArray := prog_11_method_2_code
def yX9_clear : MethodName := ⟨RX9, "clear", "()V"⟩
abbrev cX9_channelAt : ByteArray := prog_11_method_3_code
def yX9_channelAt : MethodName := ⟨RX9, "channelAt", "(I)LCellCycler$Channel;"⟩
abbrev cX9_channelsIn : ByteArray := prog_11_method_4_code
def yX9_channelsIn : MethodName := ⟨RX9, "channelsIn", "(I)I"⟩
abbrev cX9_insertCells : ByteArray := prog_11_method_5_code
def yX9_insertCells : MethodName := ⟨RX9, "insertCells", "()V"⟩
abbrev cX9_note : ByteArray := prog_11_method_6_code
def yX9_note : MethodName := ⟨RX9, "note", "(III)V"⟩
abbrev cX9_recordCounts : ByteArray := prog_11_method_7_code
def yX9_recordCounts : MethodName := ⟨RX9, "recordCounts", "(II)Z"⟩
abbrev cX9_copyFrom : ByteArray := prog_11_method_8_code
def yX9_copyFrom : MethodName := ⟨RX9, "copyFrom", "(LCellCycler$World;)V"⟩
def RX10 : String := "CellCycler"
def TX10 : u_T := fun k => match k with
  | 0 => ("CellCycler", "world", "LCellCycler$World;", true)
  | 1 => ("CellCycler", "spare", "LCellCycler$World;", true)
  | 2 => ("CellCycler", "saved", "[LCellCycler$World;", true)
  | 3 => ("CellCycler", "buffer", "[I", true)
  | 4 => ("CellCycler", "bufferLength", "I", false)
  | _ => ("CellCycler", "latestError", "I", false)
def tyX10 : Nat → FieldType := fun k => match k with
  | 0 => .object "CellCycler$World"
  | 1 => .object "CellCycler$World"
  | 2 => .array (.object "CellCycler$World")
  | 3 => .array .int
  | 4 => .int
  | _ => .int
theorem nmX10 : ∀ a, a < 6 → ∀ b, b < 6 → a ≠ b → (TX10 a).2.1 ≠ (TX10 b).2.1 := by decide +kernel
theorem tyX10_ok : ∀ k, k < 6 → parseFieldDescriptor (TX10 k).2.2.1 = some (tyX10 k) := by decide +kernel
abbrev cX10_init : ByteArray := prog_1_method_1_code
def yX10_init : MethodName := ⟨RX10, "<init>", "()V"⟩
abbrev cX10_append : ByteArray := prog_1_method_2_code
def yX10_append : MethodName := ⟨RX10, "append", "(J)I"⟩
abbrev cX10_load : ByteArray := prog_1_method_3_code
def yX10_load : MethodName := ⟨RX10, "load", "()I"⟩
abbrev cX10_loadError : ByteArray := prog_1_method_4_code
def yX10_loadError : MethodName := ⟨RX10, "loadError", "()I"⟩
abbrev cX10_curveNamed : ByteArray := prog_1_method_5_code
def yX10_curveNamed : MethodName := ⟨RX10, "curveNamed", "()I"⟩
abbrev cX10_count : ByteArray := prog_1_method_6_code
def yX10_count : MethodName := ⟨RX10, "count", "(I)I"⟩
abbrev cX10_setting : ByteArray := prog_1_method_7_code
def yX10_setting : MethodName := ⟨RX10, "setting", "(I)I"⟩
abbrev cX10_setAmbient : ByteArray := prog_1_method_8_code
def yX10_setAmbient : MethodName := ⟨RX10, "setAmbient", "(I)I"⟩
abbrev cX10_setLimits : ByteArray := prog_1_method_9_code
def yX10_setLimits : MethodName := ⟨RX10, "setLimits", "(II)I"⟩
abbrev cX10_setDerate : ByteArray := prog_1_method_10_code
def yX10_setDerate : MethodName := ⟨RX10, "setDerate", "(I)I"⟩
abbrev cX10_stepValue : ByteArray := prog_1_method_11_code
def yX10_stepValue : MethodName := ⟨RX10, "stepValue", "(III)I"⟩
abbrev cX10_now : ByteArray := prog_1_method_12_code
def yX10_now : MethodName := ⟨RX10, "now", "()I"⟩
abbrev cX10_advance : ByteArray := prog_1_method_13_code
def yX10_advance : MethodName := ⟨RX10, "advance", "(I)I"⟩
abbrev cX10_start : ByteArray := prog_1_method_14_code
def yX10_start : MethodName := ⟨RX10, "start", "(II)I"⟩
abbrev cX10_pause : ByteArray := prog_1_method_15_code
def yX10_pause : MethodName := ⟨RX10, "pause", "(I)I"⟩
abbrev cX10_resume : ByteArray := prog_1_method_16_code
def yX10_resume : MethodName := ⟨RX10, "resume", "(I)I"⟩
abbrev cX10_stop : ByteArray := prog_1_method_17_code
def yX10_stop : MethodName := ⟨RX10, "stop", "(I)I"⟩
abbrev cX10_skip : ByteArray := prog_1_method_18_code
def yX10_skip : MethodName := ⟨RX10, "skip", "(I)I"⟩
abbrev cX10_replace : ByteArray := prog_1_method_19_code
def yX10_replace : MethodName := ⟨RX10, "replace", "(II)I"⟩
abbrev cX10_enqueue : ByteArray := prog_1_method_20_code
def yX10_enqueue : MethodName := ⟨RX10, "enqueue", "(II)I"⟩
abbrev cX10_dequeue : ByteArray := prog_1_method_21_code
def yX10_dequeue : MethodName := ⟨RX10, "dequeue", "(I)I"⟩
abbrev cX10_startNext : ByteArray := prog_1_method_22_code
def yX10_startNext : MethodName := ⟨RX10, "startNext", "(I)I"⟩
abbrev cX10_queueAt : ByteArray := prog_1_method_23_code
def yX10_queueAt : MethodName := ⟨RX10, "queueAt", "(II)I"⟩
abbrev cX10_queueSize : ByteArray := prog_1_method_24_code
def yX10_queueSize : MethodName := ⟨RX10, "queueSize", "(I)I"⟩
abbrev cX10_value : ByteArray := prog_1_method_25_code
def yX10_value : MethodName := ⟨RX10, "value", "(II)I"⟩
abbrev cX10_restVoltage : ByteArray := prog_1_method_26_code
def yX10_restVoltage : MethodName := ⟨RX10, "restVoltage", "(II)I"⟩
abbrev cX10_chargeFor : ByteArray := prog_1_method_27_code
def yX10_chargeFor : MethodName := ⟨RX10, "chargeFor", "(II)I"⟩
abbrev cX10_filling : ByteArray := prog_1_method_28_code
def yX10_filling : MethodName := ⟨RX10, "filling", "(I)I"⟩
abbrev cX10_ledger : ByteArray := prog_1_method_29_code
def yX10_ledger : MethodName := ⟨RX10, "ledger", "(II)J"⟩
abbrev cX10_chargeEfficiency : ByteArray := prog_1_method_30_code
def yX10_chargeEfficiency : MethodName := ⟨RX10, "chargeEfficiency", "(I)F"⟩
abbrev cX10_energyEfficiency : ByteArray := prog_1_method_31_code
def yX10_energyEfficiency : MethodName := ⟨RX10, "energyEfficiency", "(I)D"⟩
abbrev cX10_power : ByteArray := prog_1_method_32_code
def yX10_power : MethodName := ⟨RX10, "power", "(I)I"⟩
abbrev cX10_measuredRest : ByteArray := prog_1_method_33_code
def yX10_measuredRest : MethodName := ⟨RX10, "measuredRest", "(I)I"⟩
abbrev cX10_capacityByRule : ByteArray := prog_1_method_34_code
def yX10_capacityByRule : MethodName := ⟨RX10, "capacityByRule", "(I)I"⟩
abbrev cX10_internalResistance : ByteArray := prog_1_method_35_code
def yX10_internalResistance : MethodName := ⟨RX10, "internalResistance", "(I)I"⟩
abbrev cX10_ticksIn : ByteArray := prog_1_method_36_code
def yX10_ticksIn : MethodName := ⟨RX10, "ticksIn", "(II)I"⟩
abbrev cX10_warnings : ByteArray := prog_1_method_37_code
def yX10_warnings : MethodName := ⟨RX10, "warnings", "(I)I"⟩
abbrev cX10_warned : ByteArray := prog_1_method_38_code
def yX10_warned : MethodName := ⟨RX10, "warned", "(I)I"⟩
abbrev cX10_repeats : ByteArray := prog_1_method_39_code
def yX10_repeats : MethodName := ⟨RX10, "repeats", "(II)I"⟩
abbrev cX10_inState : ByteArray := prog_1_method_40_code
def yX10_inState : MethodName := ⟨RX10, "inState", "(I)I"⟩
abbrev cX10_weakest : ByteArray := prog_1_method_41_code
def yX10_weakest : MethodName := ⟨RX10, "weakest", "()I"⟩
abbrev cX10_hottest : ByteArray := prog_1_method_42_code
def yX10_hottest : MethodName := ⟨RX10, "hottest", "()I"⟩
abbrev cX10_recordCount : ByteArray := prog_1_method_43_code
def yX10_recordCount : MethodName := ⟨RX10, "recordCount", "()I"⟩
abbrev cX10_record : ByteArray := prog_1_method_44_code
def yX10_record : MethodName := ⟨RX10, "record", "(II)I"⟩
abbrev cX10_counting : ByteArray := prog_1_method_45_code
def yX10_counting : MethodName := ⟨RX10, "counting", "(I)I"⟩
abbrev cX10_loss : ByteArray := prog_1_method_46_code
def yX10_loss : MethodName := ⟨RX10, "loss", "(I)I"⟩
abbrev cX10_logSize : ByteArray := prog_1_method_47_code
def yX10_logSize : MethodName := ⟨RX10, "logSize", "()I"⟩
abbrev cX10_logEntry : ByteArray := prog_1_method_48_code
def yX10_logEntry : MethodName := ⟨RX10, "logEntry", "(II)I"⟩
abbrev cX10_eventsOf : ByteArray := prog_1_method_49_code
def yX10_eventsOf : MethodName := ⟨RX10, "eventsOf", "(II)I"⟩
abbrev cX10_stepEndsIn : ByteArray := prog_1_method_50_code
def yX10_stepEndsIn : MethodName := ⟨RX10, "stepEndsIn", "(I)I"⟩
abbrev cX10_doneIn : ByteArray := prog_1_method_51_code
def yX10_doneIn : MethodName := ⟨RX10, "doneIn", "(I)I"⟩
abbrev cX10_tripsIn : ByteArray := prog_1_method_52_code
def yX10_tripsIn : MethodName := ⟨RX10, "tripsIn", "(I)I"⟩
abbrev cX10_valueAfter : ByteArray := prog_1_method_53_code
def yX10_valueAfter : MethodName := ⟨RX10, "valueAfter", "(III)I"⟩
abbrev cX10_peakTemperature : ByteArray := prog_1_method_54_code
def yX10_peakTemperature : MethodName := ⟨RX10, "peakTemperature", "(II)I"⟩
abbrev cX10_settledIn : ByteArray := prog_1_method_55_code
def yX10_settledIn : MethodName := ⟨RX10, "settledIn", "(I)I"⟩
abbrev cX10_duration : ByteArray := prog_1_method_56_code
def yX10_duration : MethodName := ⟨RX10, "duration", "(II)I"⟩
abbrev cX10_shortest : ByteArray := prog_1_method_57_code
def yX10_shortest : MethodName := ⟨RX10, "shortest", "(I)I"⟩
abbrev cX10_capacityIf : ByteArray := prog_1_method_58_code
def yX10_capacityIf : MethodName := ⟨RX10, "capacityIf", "(II)I"⟩
abbrev cX10_safeCurrent : ByteArray := prog_1_method_59_code
def yX10_safeCurrent : MethodName := ⟨RX10, "safeCurrent", "(II)I"⟩
abbrev cX10_saveSnapshot : ByteArray := prog_1_method_60_code
def yX10_saveSnapshot : MethodName := ⟨RX10, "saveSnapshot", "(I)I"⟩
abbrev cX10_restoreSnapshot : ByteArray := prog_1_method_61_code
def yX10_restoreSnapshot : MethodName := ⟨RX10, "restoreSnapshot", "(I)I"⟩
abbrev cX10_needRange : ByteArray := prog_1_method_62_code
def yX10_needRange : MethodName := ⟨RX10, "needRange", "(III)V"⟩
abbrev cX10_needChannel : ByteArray := prog_1_method_63_code
def yX10_needChannel : MethodName := ⟨RX10, "needChannel", "(I)LCellCycler$Channel;"⟩
abbrev cX10_needProgram : ByteArray := prog_1_method_64_code
def yX10_needProgram : MethodName := ⟨RX10, "needProgram", "(I)V"⟩
abbrev cX10_needTrial : ByteArray := prog_1_method_65_code
def yX10_needTrial : MethodName := ⟨RX10, "needTrial", "(I)LCellCycler$Channel;"⟩
abbrev cX10_needTrialOf : ByteArray := prog_1_method_66_code
def yX10_needTrialOf : MethodName := ⟨RX10, "needTrialOf", "(II)LCellCycler$Channel;"⟩
abbrev cX10_ticksUntil : ByteArray := prog_1_method_67_code
def yX10_ticksUntil : MethodName := ⟨RX10, "ticksUntil", "(LCellCycler$Channel;I)I"⟩
abbrev cX10_isSafe : ByteArray := prog_1_method_68_code
def yX10_isSafe : MethodName := ⟨RX10, "isSafe", "(LCellCycler$Cell;II)Z"⟩
abbrev cX10_savedAt : ByteArray := prog_1_method_69_code
def yX10_savedAt : MethodName := ⟨RX10, "savedAt", "(I)LCellCycler$World;"⟩
abbrev cX10_keepAt : ByteArray := prog_1_method_70_code
def yX10_keepAt : MethodName := ⟨RX10, "keepAt", "(ILCellCycler$World;)V"⟩
abbrev cX10_at : ByteArray := prog_1_method_71_code
def yX10_at : MethodName := ⟨RX10, "at", "([II)I"⟩
abbrev cX10_put : ByteArray := prog_1_method_72_code
def yX10_put : MethodName := ⟨RX10, "put", "([III)V"⟩
abbrev cX10_copyRow : ByteArray := prog_1_method_73_code
def yX10_copyRow : MethodName := ⟨RX10, "copyRow", "([I[I)V"⟩
abbrev cX10_clearRow : ByteArray := prog_1_method_74_code
def yX10_clearRow : MethodName := ⟨RX10, "clearRow", "([I)V"⟩
abbrev cX10_quotient : ByteArray := prog_1_method_75_code
def yX10_quotient : MethodName := ⟨RX10, "quotient", "(JJ)J"⟩
abbrev cX10_remainder : ByteArray := prog_1_method_76_code
def yX10_remainder : MethodName := ⟨RX10, "remainder", "(JJ)J"⟩
abbrev cX10_nameCode : ByteArray := prog_1_method_77_code
def yX10_nameCode : MethodName := ⟨RX10, "nameCode", "([III)J"⟩
def RX11 : String := "CellCyclerModel"
def TX11 : u_T := fun k => match k with
  | 0 => ("CellCyclerModel", "w", "[I", true)
  | 1 => ("CellCyclerModel", "aside", "[I", true)
  | 2 => ("CellCyclerModel", "fresh", "[I", true)
  | 3 => ("CellCyclerModel", "slot0", "[I", true)
  | 4 => ("CellCyclerModel", "slot1", "[I", true)
  | 5 => ("CellCyclerModel", "sums", "[J", true)
  | 6 => ("CellCyclerModel", "sumsAside", "[J", true)
  | 7 => ("CellCyclerModel", "sums0", "[J", true)
  | 8 => ("CellCyclerModel", "sums1", "[J", true)
  | 9 => ("CellCyclerModel", "isSaved", "[Z", true)
  | 10 => ("CellCyclerModel", "thrown", "I", false)
  | 11 => ("CellCyclerModel", "buffer", "[I", true)
  | 12 => ("CellCyclerModel", "length", "I", false)
  | 13 => ("CellCyclerModel", "point", "I", false)
  | 14 => ("CellCyclerModel", "begin", "I", false)
  | 15 => ("CellCyclerModel", "wrong", "I", false)
  | 16 => ("CellCyclerModel", "wrongKind", "I", false)
  | 17 => ("CellCyclerModel", "loadFault", "I", false)
  | _ => ("CellCyclerModel", "ended", "I", false)
def tyX11 : Nat → FieldType := fun k => match k with
  | 0 => .array .int
  | 1 => .array .int
  | 2 => .array .int
  | 3 => .array .int
  | 4 => .array .int
  | 5 => .array .long
  | 6 => .array .long
  | 7 => .array .long
  | 8 => .array .long
  | 9 => .array .boolean
  | 10 => .int
  | 11 => .array .int
  | 12 => .int
  | 13 => .int
  | 14 => .int
  | 15 => .int
  | 16 => .int
  | 17 => .int
  | _ => .int
theorem nmX11 : ∀ a, a < 19 → ∀ b, b < 19 → a ≠ b → (TX11 a).2.1 ≠ (TX11 b).2.1 := by decide +kernel
theorem tyX11_ok : ∀ k, k < 19 → parseFieldDescriptor (TX11 k).2.2.1 = some (tyX11 k) := by decide +kernel
abbrev cX11_init : ByteArray := prog_13_method_1_code
def yX11_init : MethodName := ⟨RX11, "<init>", "()V"⟩
abbrev cX11_thrown : ByteArray := prog_13_method_2_code
def yX11_thrown : MethodName := ⟨RX11, "thrown", "()I"⟩
abbrev cX11_in : ByteArray := prog_13_method_3_code
def yX11_in : MethodName := ⟨RX11, "in", "(JJJ)Z"⟩
abbrev cX11_throwsIf : ByteArray := prog_13_method_4_code
def yX11_throwsIf : MethodName := ⟨RX11, "throwsIf", "(ZI)Z"⟩
abbrev cX11_copies : ByteArray := prog_13_method_5_code
def yX11_copies : MethodName := ⟨RX11, "copies", "([I[I)V"⟩
abbrev cX11_copiesSums : ByteArray := prog_13_method_6_code
def yX11_copiesSums : MethodName := ⟨RX11, "copiesSums", "([J[J)V"⟩
abbrev cX11_starts : ByteArray := prog_13_method_7_code
def yX11_starts : MethodName := ⟨RX11, "starts", "([I)V"⟩
abbrev cX11_of : ByteArray := prog_13_method_8_code
def yX11_of : MethodName := ⟨RX11, "of", "(II)I"⟩
abbrev cX11_put : ByteArray := prog_13_method_9_code
def yX11_put : MethodName := ⟨RX11, "put", "(III)V"⟩
abbrev cX11_sum : ByteArray := prog_13_method_10_code
def yX11_sum : MethodName := ⟨RX11, "sum", "(II)J"⟩
abbrev cX11_putSum : ByteArray := prog_13_method_11_code
def yX11_putSum : MethodName := ⟨RX11, "putSum", "(IIJ)V"⟩
abbrev cX11_adds : ByteArray := prog_13_method_12_code
def yX11_adds : MethodName := ⟨RX11, "adds", "(IIJ)V"⟩
abbrev cX11_volts : ByteArray := prog_13_method_13_code
def yX11_volts : MethodName := ⟨RX11, "volts", "(II)I"⟩
abbrev cX11_voltsMany : ByteArray := prog_13_method_14_code
def yX11_voltsMany : MethodName := ⟨RX11, "voltsMany", "(I)I"⟩
abbrev cX11_stepsOf : ByteArray := prog_13_method_15_code
def yX11_stepsOf : MethodName := ⟨RX11, "stepsOf", "(I)I"⟩
abbrev cX11_stepOf : ByteArray := prog_13_method_16_code
def yX11_stepOf : MethodName := ⟨RX11, "stepOf", "(III)I"⟩
abbrev cX11_append : ByteArray := prog_13_method_17_code
def yX11_append : MethodName := ⟨RX11, "append", "(J)I"⟩
abbrev cX11_loadError : ByteArray := prog_13_method_18_code
def yX11_loadError : MethodName := ⟨RX11, "loadError", "()I"⟩
abbrev cX11_byteAt : ByteArray := prog_13_method_19_code
def yX11_byteAt : MethodName := ⟨RX11, "byteAt", "(I)I"⟩
abbrev cX11_isLetter : ByteArray := prog_13_method_20_code
def yX11_isLetter : MethodName := ⟨RX11, "isLetter", "(I)Z"⟩
abbrev cX11_isDigit : ByteArray := prog_13_method_21_code
def yX11_isDigit : MethodName := ⟨RX11, "isDigit", "(I)Z"⟩
abbrev cX11_see : ByteArray := prog_13_method_22_code
def yX11_see : MethodName := ⟨RX11, "see", "()I"⟩
abbrev cX11_fails : ByteArray := prog_13_method_23_code
def yX11_fails : MethodName := ⟨RX11, "fails", "(I)Z"⟩
abbrev cX11_wordEnd : ByteArray := prog_13_method_24_code
def yX11_wordEnd : MethodName := ⟨RX11, "wordEnd", "()I"⟩
abbrev cX11_isWord : ByteArray := prog_13_method_25_code
def yX11_isWord : MethodName := ⟨RX11, "isWord", "(Ljava/lang/String;)Z"⟩
abbrev cX11_passes : ByteArray := prog_13_method_26_code
def yX11_passes : MethodName := ⟨RX11, "passes", "()Z"⟩
abbrev cX11_reads : ByteArray := prog_13_method_27_code
def yX11_reads : MethodName := ⟨RX11, "reads", "(III)Z"⟩
abbrev cX11_isNamed : ByteArray := prog_13_method_28_code
def yX11_isNamed : MethodName := ⟨RX11, "isNamed", "([IIII)Z"⟩
abbrev cX11_named : ByteArray := prog_13_method_29_code
def yX11_named : MethodName := ⟨RX11, "named", "([III)I"⟩
abbrev cX11_readName : ByteArray := prog_13_method_30_code
def yX11_readName : MethodName := ⟨RX11, "readName", "(I)Z"⟩
abbrev cX11_readCurve : ByteArray := prog_13_method_31_code
def yX11_readCurve : MethodName := ⟨RX11, "readCurve", "()Z"⟩
abbrev cX11_begins : ByteArray := prog_13_method_32_code
def yX11_begins : MethodName := ⟨RX11, "begins", "([III)V"⟩
abbrev cX11_readCell : ByteArray := prog_13_method_33_code
def yX11_readCell : MethodName := ⟨RX11, "readCell", "()Z"⟩
abbrev cX11_readStep : ByteArray := prog_13_method_34_code
def yX11_readStep : MethodName := ⟨RX11, "readStep", "(II)Z"⟩
abbrev cX11_readProgram : ByteArray := prog_13_method_35_code
def yX11_readProgram : MethodName := ⟨RX11, "readProgram", "()Z"⟩
abbrev cX11_readStatement : ByteArray := prog_13_method_36_code
def yX11_readStatement : MethodName := ⟨RX11, "readStatement", "()Z"⟩
abbrev cX11_readsAll : ByteArray := prog_13_method_37_code
def yX11_readsAll : MethodName := ⟨RX11, "readsAll", "()Z"⟩
abbrev cX11_load : ByteArray := prog_13_method_38_code
def yX11_load : MethodName := ⟨RX11, "load", "()I"⟩
abbrev cX11_curveNamed : ByteArray := prog_13_method_39_code
def yX11_curveNamed : MethodName := ⟨RX11, "curveNamed", "()I"⟩
abbrev cX11_restAt : ByteArray := prog_13_method_40_code
def yX11_restAt : MethodName := ⟨RX11, "restAt", "(II)I"⟩
abbrev cX11_step : ByteArray := prog_13_method_41_code
def yX11_step : MethodName := ⟨RX11, "step", "(II)I"⟩
abbrev cX11_currentOf : ByteArray := prog_13_method_42_code
def yX11_currentOf : MethodName := ⟨RX11, "currentOf", "(I)I"⟩
abbrev cX11_wantedOf : ByteArray := prog_13_method_43_code
def yX11_wantedOf : MethodName := ⟨RX11, "wantedOf", "(I)I"⟩
abbrev cX11_polarizes : ByteArray := prog_13_method_44_code
def yX11_polarizes : MethodName := ⟨RX11, "polarizes", "(II)V"⟩
abbrev cX11_moves : ByteArray := prog_13_method_45_code
def yX11_moves : MethodName := ⟨RX11, "moves", "(II)V"⟩
abbrev cX11_fades : ByteArray := prog_13_method_46_code
def yX11_fades : MethodName := ⟨RX11, "fades", "(II)V"⟩
abbrev cX11_warms : ByteArray := prog_13_method_47_code
def yX11_warms : MethodName := ⟨RX11, "warms", "(II)V"⟩
abbrev cX11_flows : ByteArray := prog_13_method_48_code
def yX11_flows : MethodName := ⟨RX11, "flows", "(II)V"⟩
abbrev cX11_isOver : ByteArray := prog_13_method_49_code
def yX11_isOver : MethodName := ⟨RX11, "isOver", "(I)Z"⟩
abbrev cX11_reasonNow : ByteArray := prog_13_method_50_code
def yX11_reasonNow : MethodName := ⟨RX11, "reasonNow", "(I)I"⟩
abbrev cX11_notes : ByteArray := prog_13_method_51_code
def yX11_notes : MethodName := ⟨RX11, "notes", "(III)V"⟩
abbrev cX11_records : ByteArray := prog_13_method_52_code
def yX11_records : MethodName := ⟨RX11, "records", "(IZ)V"⟩
abbrev cX11_clears : ByteArray := prog_13_method_53_code
def yX11_clears : MethodName := ⟨RX11, "clears", "(I)V"⟩
abbrev cX11_ends : ByteArray := prog_13_method_54_code
def yX11_ends : MethodName := ⟨RX11, "ends", "(I)V"⟩
abbrev cX11_comes : ByteArray := prog_13_method_55_code
def yX11_comes : MethodName := ⟨RX11, "comes", "(II)V"⟩
abbrev cX11_comesToEnd : ByteArray := prog_13_method_56_code
def yX11_comesToEnd : MethodName := ⟨RX11, "comesToEnd", "(I)V"⟩
abbrev cX11_leavesQueue : ByteArray := prog_13_method_57_code
def yX11_leavesQueue : MethodName := ⟨RX11, "leavesQueue", "(I)I"⟩
abbrev cX11_startsOn : ByteArray := prog_13_method_58_code
def yX11_startsOn : MethodName := ⟨RX11, "startsOn", "(II)V"⟩
abbrev cX11_watches : ByteArray := prog_13_method_59_code
def yX11_watches : MethodName := ⟨RX11, "watches", "(I)V"⟩
abbrev cX11_filled : ByteArray := prog_13_method_60_code
def yX11_filled : MethodName := ⟨RX11, "filled", "(I)I"⟩
abbrev cX11_warningNow : ByteArray := prog_13_method_61_code
def yX11_warningNow : MethodName := ⟨RX11, "warningNow", "(I)I"⟩
abbrev cX11_warns : ByteArray := prog_13_method_62_code
def yX11_warns : MethodName := ⟨RX11, "warns", "(I)V"⟩
abbrev cX11_goes : ByteArray := prog_13_method_63_code
def yX11_goes : MethodName := ⟨RX11, "goes", "(I)V"⟩
abbrev cX11_ticks : ByteArray := prog_13_method_64_code
def yX11_ticks : MethodName := ⟨RX11, "ticks", "()V"⟩
abbrev cX11_count : ByteArray := prog_13_method_65_code
def yX11_count : MethodName := ⟨RX11, "count", "(I)I"⟩
abbrev cX11_setting : ByteArray := prog_13_method_66_code
def yX11_setting : MethodName := ⟨RX11, "setting", "(I)I"⟩
abbrev cX11_setAmbient : ByteArray := prog_13_method_67_code
def yX11_setAmbient : MethodName := ⟨RX11, "setAmbient", "(I)I"⟩
abbrev cX11_setDerate : ByteArray := prog_13_method_68_code
def yX11_setDerate : MethodName := ⟨RX11, "setDerate", "(I)I"⟩
abbrev cX11_setLimits : ByteArray := prog_13_method_69_code
def yX11_setLimits : MethodName := ⟨RX11, "setLimits", "(II)I"⟩
abbrev cX11_stepValue : ByteArray := prog_13_method_70_code
def yX11_stepValue : MethodName := ⟨RX11, "stepValue", "(III)I"⟩
abbrev cX11_now : ByteArray := prog_13_method_71_code
def yX11_now : MethodName := ⟨RX11, "now", "()I"⟩
abbrev cX11_advance : ByteArray := prog_13_method_72_code
def yX11_advance : MethodName := ⟨RX11, "advance", "(I)I"⟩
abbrev cX11_noChannel : ByteArray := prog_13_method_73_code
def yX11_noChannel : MethodName := ⟨RX11, "noChannel", "(I)Z"⟩
abbrev cX11_noProgram : ByteArray := prog_13_method_74_code
def yX11_noProgram : MethodName := ⟨RX11, "noProgram", "(II)Z"⟩
abbrev cX11_isIn : ByteArray := prog_13_method_75_code
def yX11_isIn : MethodName := ⟨RX11, "isIn", "(II)Z"⟩
abbrev cX11_start : ByteArray := prog_13_method_76_code
def yX11_start : MethodName := ⟨RX11, "start", "(II)I"⟩
abbrev cX11_turns : ByteArray := prog_13_method_77_code
def yX11_turns : MethodName := ⟨RX11, "turns", "(III)I"⟩
abbrev cX11_pause : ByteArray := prog_13_method_78_code
def yX11_pause : MethodName := ⟨RX11, "pause", "(I)I"⟩
abbrev cX11_resume : ByteArray := prog_13_method_79_code
def yX11_resume : MethodName := ⟨RX11, "resume", "(I)I"⟩
abbrev cX11_stop : ByteArray := prog_13_method_80_code
def yX11_stop : MethodName := ⟨RX11, "stop", "(I)I"⟩
abbrev cX11_skip : ByteArray := prog_13_method_81_code
def yX11_skip : MethodName := ⟨RX11, "skip", "(I)I"⟩
abbrev cX11_replace : ByteArray := prog_13_method_82_code
def yX11_replace : MethodName := ⟨RX11, "replace", "(II)I"⟩
abbrev cX11_enqueue : ByteArray := prog_13_method_83_code
def yX11_enqueue : MethodName := ⟨RX11, "enqueue", "(II)I"⟩
abbrev cX11_dequeue : ByteArray := prog_13_method_84_code
def yX11_dequeue : MethodName := ⟨RX11, "dequeue", "(I)I"⟩
abbrev cX11_startNext : ByteArray := prog_13_method_85_code
def yX11_startNext : MethodName := ⟨RX11, "startNext", "(I)I"⟩
abbrev cX11_queueAt : ByteArray := prog_13_method_86_code
def yX11_queueAt : MethodName := ⟨RX11, "queueAt", "(II)I"⟩
abbrev cX11_queueSize : ByteArray := prog_13_method_87_code
def yX11_queueSize : MethodName := ⟨RX11, "queueSize", "(I)I"⟩
abbrev cX11_internalResistance : ByteArray := prog_13_method_88_code
def yX11_internalResistance : MethodName := ⟨RX11, "internalResistance", "(I)I"⟩
abbrev cX11_ticksIn : ByteArray := prog_13_method_89_code
def yX11_ticksIn : MethodName := ⟨RX11, "ticksIn", "(II)I"⟩
abbrev cX11_warnings : ByteArray := prog_13_method_90_code
def yX11_warnings : MethodName := ⟨RX11, "warnings", "(I)I"⟩
abbrev cX11_warned : ByteArray := prog_13_method_91_code
def yX11_warned : MethodName := ⟨RX11, "warned", "(I)I"⟩
abbrev cX11_logSize : ByteArray := prog_13_method_92_code
def yX11_logSize : MethodName := ⟨RX11, "logSize", "()I"⟩
abbrev cX11_logEntry : ByteArray := prog_13_method_93_code
def yX11_logEntry : MethodName := ⟨RX11, "logEntry", "(II)I"⟩
abbrev cX11_eventsOf : ByteArray := prog_13_method_94_code
def yX11_eventsOf : MethodName := ⟨RX11, "eventsOf", "(II)I"⟩
abbrev cX11_value : ByteArray := prog_13_method_95_code
def yX11_value : MethodName := ⟨RX11, "value", "(II)I"⟩
abbrev cX11_restVoltage : ByteArray := prog_13_method_96_code
def yX11_restVoltage : MethodName := ⟨RX11, "restVoltage", "(II)I"⟩
abbrev cX11_chargeFor : ByteArray := prog_13_method_97_code
def yX11_chargeFor : MethodName := ⟨RX11, "chargeFor", "(II)I"⟩
abbrev cX11_filling : ByteArray := prog_13_method_98_code
def yX11_filling : MethodName := ⟨RX11, "filling", "(I)I"⟩
abbrev cX11_ledger : ByteArray := prog_13_method_99_code
def yX11_ledger : MethodName := ⟨RX11, "ledger", "(II)J"⟩
abbrev cX11_chargeEfficiency : ByteArray := prog_13_method_100_code
def yX11_chargeEfficiency : MethodName := ⟨RX11, "chargeEfficiency", "(I)F"⟩
abbrev cX11_energyEfficiency : ByteArray := prog_13_method_101_code
def yX11_energyEfficiency : MethodName := ⟨RX11, "energyEfficiency", "(I)D"⟩
abbrev cX11_power : ByteArray := prog_13_method_102_code
def yX11_power : MethodName := ⟨RX11, "power", "(I)I"⟩
abbrev cX11_measuredRest : ByteArray := prog_13_method_103_code
def yX11_measuredRest : MethodName := ⟨RX11, "measuredRest", "(I)I"⟩
abbrev cX11_capacityByRule : ByteArray := prog_13_method_104_code
def yX11_capacityByRule : MethodName := ⟨RX11, "capacityByRule", "(I)I"⟩
abbrev cX11_repeats : ByteArray := prog_13_method_105_code
def yX11_repeats : MethodName := ⟨RX11, "repeats", "(II)I"⟩
abbrev cX11_inState : ByteArray := prog_13_method_106_code
def yX11_inState : MethodName := ⟨RX11, "inState", "(I)I"⟩
abbrev cX11_share : ByteArray := prog_13_method_107_code
def yX11_share : MethodName := ⟨RX11, "share", "(I)I"⟩
abbrev cX11_weakest : ByteArray := prog_13_method_108_code
def yX11_weakest : MethodName := ⟨RX11, "weakest", "()I"⟩
abbrev cX11_hottest : ByteArray := prog_13_method_109_code
def yX11_hottest : MethodName := ⟨RX11, "hottest", "()I"⟩
abbrev cX11_recorded : ByteArray := prog_13_method_110_code
def yX11_recorded : MethodName := ⟨RX11, "recorded", "(II)I"⟩
abbrev cX11_recordCount : ByteArray := prog_13_method_111_code
def yX11_recordCount : MethodName := ⟨RX11, "recordCount", "()I"⟩
abbrev cX11_record : ByteArray := prog_13_method_112_code
def yX11_record : MethodName := ⟨RX11, "record", "(II)I"⟩
abbrev cX11_isCounting : ByteArray := prog_13_method_113_code
def yX11_isCounting : MethodName := ⟨RX11, "isCounting", "(II)Z"⟩
abbrev cX11_counting : ByteArray := prog_13_method_114_code
def yX11_counting : MethodName := ⟨RX11, "counting", "(I)I"⟩
abbrev cX11_loss : ByteArray := prog_13_method_115_code
def yX11_loss : MethodName := ⟨RX11, "loss", "(I)I"⟩
abbrev cX11_goesAside : ByteArray := prog_13_method_116_code
def yX11_goesAside : MethodName := ⟨RX11, "goesAside", "()V"⟩
abbrev cX11_comesBack : ByteArray := prog_13_method_117_code
def yX11_comesBack : MethodName := ⟨RX11, "comesBack", "()V"⟩
abbrev cX11_alone : ByteArray := prog_13_method_118_code
def yX11_alone : MethodName := ⟨RX11, "alone", "(I)V"⟩
abbrev cX11_stepEndsIn : ByteArray := prog_13_method_119_code
def yX11_stepEndsIn : MethodName := ⟨RX11, "stepEndsIn", "(I)I"⟩
abbrev cX11_until : ByteArray := prog_13_method_120_code
def yX11_until : MethodName := ⟨RX11, "until", "(II)I"⟩
abbrev cX11_untilAside : ByteArray := prog_13_method_121_code
def yX11_untilAside : MethodName := ⟨RX11, "untilAside", "(II)I"⟩
abbrev cX11_doneIn : ByteArray := prog_13_method_122_code
def yX11_doneIn : MethodName := ⟨RX11, "doneIn", "(I)I"⟩
abbrev cX11_tripsIn : ByteArray := prog_13_method_123_code
def yX11_tripsIn : MethodName := ⟨RX11, "tripsIn", "(I)I"⟩
abbrev cX11_valueAfter : ByteArray := prog_13_method_124_code
def yX11_valueAfter : MethodName := ⟨RX11, "valueAfter", "(III)I"⟩
abbrev cX11_peakTemperature : ByteArray := prog_13_method_125_code
def yX11_peakTemperature : MethodName := ⟨RX11, "peakTemperature", "(II)I"⟩
abbrev cX11_settledIn : ByteArray := prog_13_method_126_code
def yX11_settledIn : MethodName := ⟨RX11, "settledIn", "(I)I"⟩
abbrev cX11_durationOf : ByteArray := prog_13_method_127_code
def yX11_durationOf : MethodName := ⟨RX11, "durationOf", "(II)I"⟩
abbrev cX11_duration : ByteArray := prog_13_method_128_code
def yX11_duration : MethodName := ⟨RX11, "duration", "(II)I"⟩
abbrev cX11_shortest : ByteArray := prog_13_method_129_code
def yX11_shortest : MethodName := ⟨RX11, "shortest", "(I)I"⟩
abbrev cX11_capacityIf : ByteArray := prog_13_method_130_code
def yX11_capacityIf : MethodName := ⟨RX11, "capacityIf", "(II)I"⟩
abbrev cX11_isSafe : ByteArray := prog_13_method_131_code
def yX11_isSafe : MethodName := ⟨RX11, "isSafe", "(III)Z"⟩
abbrev cX11_safeCurrent : ByteArray := prog_13_method_132_code
def yX11_safeCurrent : MethodName := ⟨RX11, "safeCurrent", "(II)I"⟩
abbrev cX11_noSlot : ByteArray := prog_13_method_133_code
def yX11_noSlot : MethodName := ⟨RX11, "noSlot", "(I)Z"⟩
abbrev cX11_saveSnapshot : ByteArray := prog_13_method_134_code
def yX11_saveSnapshot : MethodName := ⟨RX11, "saveSnapshot", "(I)I"⟩
abbrev cX11_restoreSnapshot : ByteArray := prog_13_method_135_code
def yX11_restoreSnapshot : MethodName := ⟨RX11, "restoreSnapshot", "(I)I"⟩
def RJ6 : String := "java/lang/Integer"
def TJ6 : u_T := fun k => match k with
  | _ => ("", "", "", false)
def tyJ6 : Nat → FieldType := fun k => match k with
  | _ => .int
abbrev cJ6_compare_7cf53 : ByteArray := prog_17_method_40_code
def yJ6_compare_7cf53 : MethodName := ⟨RJ6, "compare", "(II)I"⟩
abbrev cJ6_bitCount_0f7a4 : ByteArray := prog_17_method_49_code
def yJ6_bitCount_0f7a4 : MethodName := ⟨RJ6, "bitCount", "(I)I"⟩
def RJ9 : String := "java/lang/Math"
def TJ9 : u_T := fun k => match k with
  | _ => ("", "", "", false)
def tyJ9 : Nat → FieldType := fun k => match k with
  | _ => .int
abbrev cJ9_abs_0f7a4 : ByteArray := prog_18_method_59_code
def yJ9_abs_0f7a4 : MethodName := ⟨RJ9, "abs", "(I)I"⟩
abbrev cJ9_max_7cf53 : ByteArray := prog_18_method_65_code
def yJ9_max_7cf53 : MethodName := ⟨RJ9, "max", "(II)I"⟩
abbrev cJ9_max_f86c9 : ByteArray := prog_18_method_66_code
def yJ9_max_f86c9 : MethodName := ⟨RJ9, "max", "(JJ)J"⟩
abbrev cJ9_min_7cf53 : ByteArray := prog_18_method_69_code
def yJ9_min_7cf53 : MethodName := ⟨RJ9, "min", "(II)I"⟩
abbrev cJ9_min_f86c9 : ByteArray := prog_18_method_70_code
def yJ9_min_f86c9 : MethodName := ⟨RJ9, "min", "(JJ)J"⟩
def RJ0 : String := "java/lang/String"
def TJ0 : u_T := fun k => match k with
  | _ => ("", "", "", false)
def tyJ0 : Nat → FieldType := fun k => match k with
  | _ => .int
abbrev cJ0_length_8abf5 : ByteArray := prog_20_method_54_code
def yJ0_length_8abf5 : MethodName := ⟨RJ0, "length", "()I"⟩
abbrev cJ0_charAt_5068e : ByteArray := prog_20_method_56_code
def yJ0_charAt_5068e : MethodName := ⟨RJ0, "charAt", "(I)C"⟩
abbrev cJ0_coder_7d493 : ByteArray := prog_20_method_152_code
def yJ0_coder_7d493 : MethodName := ⟨RJ0, "coder", "()B"⟩
abbrev cJ0_isLatin1_aae02 : ByteArray := prog_20_method_154_code
def yJ0_isLatin1_aae02 : MethodName := ⟨RJ0, "isLatin1", "()Z"⟩
abbrev cJ0_checkIndex_df160 : ByteArray := prog_20_method_155_code
def yJ0_checkIndex_df160 : MethodName := ⟨RJ0, "checkIndex", "(II)V"⟩
def RJ1 : String := "java/lang/StringLatin1"
def TJ1 : u_T := fun k => match k with
  | _ => ("", "", "", false)
def tyJ1 : Nat → FieldType := fun k => match k with
  | _ => .int
abbrev cJ1_charAt_3b067 : ByteArray := prog_21_method_2_code
def yJ1_charAt_3b067 : MethodName := ⟨RJ1, "charAt", "([BI)C"⟩
def RJ2 : String := "java/lang/StringUTF16"
def TJ2 : u_T := fun k => match k with
  | _ => ("", "", "", false)
def tyJ2 : Nat → FieldType := fun k => match k with
  | _ => .int
abbrev cJ2_getChar_3b067 : ByteArray := prog_22_method_5_code
def yJ2_getChar_3b067 : MethodName := ⟨RJ2, "getChar", "([BI)C"⟩
abbrev cJ2_length_9d52b : ByteArray := prog_22_method_6_code
def yJ2_length_9d52b : MethodName := ⟨RJ2, "length", "([B)I"⟩
abbrev cJ2_charAt_3b067 : ByteArray := prog_22_method_83_code
def yJ2_charAt_3b067 : MethodName := ⟨RJ2, "charAt", "([BI)C"⟩
abbrev cJ2_checkIndex_2214a : ByteArray := prog_22_method_91_code
def yJ2_checkIndex_2214a : MethodName := ⟨RJ2, "checkIndex", "(I[B)V"⟩
def RJ10 : String := "java/lang/System"
def TJ10 : u_T := fun k => match k with
  | _ => ("", "", "", false)
def tyJ10 : Nat → FieldType := fun k => match k with
  | _ => .int
def RJ3 : String := "jdk/internal/util/Preconditions"
def TJ3 : u_T := fun k => match k with
  | _ => ("", "", "", false)
def tyJ3 : Nat → FieldType := fun k => match k with
  | _ => .int
abbrev cJ3_checkIndex_8e157 : ByteArray := prog_25_method_11_code
def yJ3_checkIndex_8e157 : MethodName := ⟨RJ3, "checkIndex", "(IILjava/util/function/BiFunction;)I"⟩
def RL : String := "CellCyclerLaw"
abbrev cL_count : ByteArray := method_3_code
def yL_count : MethodName := ⟨RL, "count", "(LCellCycler;I[J)I"⟩
abbrev cL_setting : ByteArray := method_4_code
def yL_setting : MethodName := ⟨RL, "setting", "(LCellCycler;I[J)I"⟩
abbrev cL_setAmbient : ByteArray := method_5_code
def yL_setAmbient : MethodName := ⟨RL, "setAmbient", "(LCellCycler;I[J)I"⟩
abbrev cL_setLimits : ByteArray := method_6_code
def yL_setLimits : MethodName := ⟨RL, "setLimits", "(LCellCycler;II[J)I"⟩
abbrev cL_setDerate : ByteArray := method_7_code
def yL_setDerate : MethodName := ⟨RL, "setDerate", "(LCellCycler;I[J)I"⟩
abbrev cL_stepValue : ByteArray := method_8_code
def yL_stepValue : MethodName := ⟨RL, "stepValue", "(LCellCycler;III[J)I"⟩
abbrev cL_advance : ByteArray := method_9_code
def yL_advance : MethodName := ⟨RL, "advance", "(LCellCycler;I[J)I"⟩
abbrev cL_start : ByteArray := method_10_code
def yL_start : MethodName := ⟨RL, "start", "(LCellCycler;II[J)I"⟩
abbrev cL_pause : ByteArray := method_11_code
def yL_pause : MethodName := ⟨RL, "pause", "(LCellCycler;I[J)I"⟩
abbrev cL_resume : ByteArray := method_12_code
def yL_resume : MethodName := ⟨RL, "resume", "(LCellCycler;I[J)I"⟩
abbrev cL_stop : ByteArray := method_13_code
def yL_stop : MethodName := ⟨RL, "stop", "(LCellCycler;I[J)I"⟩
abbrev cL_skip : ByteArray := method_14_code
def yL_skip : MethodName := ⟨RL, "skip", "(LCellCycler;I[J)I"⟩
abbrev cL_replace : ByteArray := method_15_code
def yL_replace : MethodName := ⟨RL, "replace", "(LCellCycler;II[J)I"⟩
abbrev cL_enqueue : ByteArray := method_16_code
def yL_enqueue : MethodName := ⟨RL, "enqueue", "(LCellCycler;II[J)I"⟩
abbrev cL_dequeue : ByteArray := method_17_code
def yL_dequeue : MethodName := ⟨RL, "dequeue", "(LCellCycler;I[J)I"⟩
abbrev cL_startNext : ByteArray := method_18_code
def yL_startNext : MethodName := ⟨RL, "startNext", "(LCellCycler;I[J)I"⟩
abbrev cL_queueAt : ByteArray := method_19_code
def yL_queueAt : MethodName := ⟨RL, "queueAt", "(LCellCycler;II[J)I"⟩
abbrev cL_queueSize : ByteArray := method_20_code
def yL_queueSize : MethodName := ⟨RL, "queueSize", "(LCellCycler;I[J)I"⟩
abbrev cL_value : ByteArray := method_21_code
def yL_value : MethodName := ⟨RL, "value", "(LCellCycler;II[J)I"⟩
abbrev cL_restVoltage : ByteArray := method_22_code
def yL_restVoltage : MethodName := ⟨RL, "restVoltage", "(LCellCycler;II[J)I"⟩
abbrev cL_chargeFor : ByteArray := method_23_code
def yL_chargeFor : MethodName := ⟨RL, "chargeFor", "(LCellCycler;II[J)I"⟩
abbrev cL_filling : ByteArray := method_24_code
def yL_filling : MethodName := ⟨RL, "filling", "(LCellCycler;I[J)I"⟩
abbrev cL_ledger : ByteArray := method_25_code
def yL_ledger : MethodName := ⟨RL, "ledger", "(LCellCycler;II[J)I"⟩
abbrev cL_chargeEfficiency : ByteArray := method_26_code
def yL_chargeEfficiency : MethodName := ⟨RL, "chargeEfficiency", "(LCellCycler;I[D)I"⟩
abbrev cL_energyEfficiency : ByteArray := method_27_code
def yL_energyEfficiency : MethodName := ⟨RL, "energyEfficiency", "(LCellCycler;I[D)I"⟩
abbrev cL_power : ByteArray := method_28_code
def yL_power : MethodName := ⟨RL, "power", "(LCellCycler;I[J)I"⟩
abbrev cL_measuredRest : ByteArray := method_29_code
def yL_measuredRest : MethodName := ⟨RL, "measuredRest", "(LCellCycler;I[J)I"⟩
abbrev cL_capacityByRule : ByteArray := method_30_code
def yL_capacityByRule : MethodName := ⟨RL, "capacityByRule", "(LCellCycler;I[J)I"⟩
abbrev cL_internalResistance : ByteArray := method_31_code
def yL_internalResistance : MethodName := ⟨RL, "internalResistance", "(LCellCycler;I[J)I"⟩
abbrev cL_ticksIn : ByteArray := method_32_code
def yL_ticksIn : MethodName := ⟨RL, "ticksIn", "(LCellCycler;II[J)I"⟩
abbrev cL_warnings : ByteArray := method_33_code
def yL_warnings : MethodName := ⟨RL, "warnings", "(LCellCycler;I[J)I"⟩
abbrev cL_warned : ByteArray := method_34_code
def yL_warned : MethodName := ⟨RL, "warned", "(LCellCycler;I[J)I"⟩
abbrev cL_repeats : ByteArray := method_35_code
def yL_repeats : MethodName := ⟨RL, "repeats", "(LCellCycler;II[J)I"⟩
abbrev cL_inState : ByteArray := method_36_code
def yL_inState : MethodName := ⟨RL, "inState", "(LCellCycler;I[J)I"⟩
abbrev cL_record : ByteArray := method_37_code
def yL_record : MethodName := ⟨RL, "record", "(LCellCycler;II[J)I"⟩
abbrev cL_counting : ByteArray := method_38_code
def yL_counting : MethodName := ⟨RL, "counting", "(LCellCycler;I[J)I"⟩
abbrev cL_loss : ByteArray := method_39_code
def yL_loss : MethodName := ⟨RL, "loss", "(LCellCycler;I[J)I"⟩
abbrev cL_logEntry : ByteArray := method_40_code
def yL_logEntry : MethodName := ⟨RL, "logEntry", "(LCellCycler;II[J)I"⟩
abbrev cL_eventsOf : ByteArray := method_41_code
def yL_eventsOf : MethodName := ⟨RL, "eventsOf", "(LCellCycler;II[J)I"⟩
abbrev cL_stepEndsIn : ByteArray := method_42_code
def yL_stepEndsIn : MethodName := ⟨RL, "stepEndsIn", "(LCellCycler;I[J)I"⟩
abbrev cL_doneIn : ByteArray := method_43_code
def yL_doneIn : MethodName := ⟨RL, "doneIn", "(LCellCycler;I[J)I"⟩
abbrev cL_tripsIn : ByteArray := method_44_code
def yL_tripsIn : MethodName := ⟨RL, "tripsIn", "(LCellCycler;I[J)I"⟩
abbrev cL_valueAfter : ByteArray := method_45_code
def yL_valueAfter : MethodName := ⟨RL, "valueAfter", "(LCellCycler;III[J)I"⟩
abbrev cL_peakTemperature : ByteArray := method_46_code
def yL_peakTemperature : MethodName := ⟨RL, "peakTemperature", "(LCellCycler;II[J)I"⟩
abbrev cL_settledIn : ByteArray := method_47_code
def yL_settledIn : MethodName := ⟨RL, "settledIn", "(LCellCycler;I[J)I"⟩
abbrev cL_duration : ByteArray := method_48_code
def yL_duration : MethodName := ⟨RL, "duration", "(LCellCycler;II[J)I"⟩
abbrev cL_shortest : ByteArray := method_49_code
def yL_shortest : MethodName := ⟨RL, "shortest", "(LCellCycler;I[J)I"⟩
abbrev cL_capacityIf : ByteArray := method_50_code
def yL_capacityIf : MethodName := ⟨RL, "capacityIf", "(LCellCycler;II[J)I"⟩
abbrev cL_safeCurrent : ByteArray := method_51_code
def yL_safeCurrent : MethodName := ⟨RL, "safeCurrent", "(LCellCycler;II[J)I"⟩
abbrev cL_saveSnapshot : ByteArray := method_52_code
def yL_saveSnapshot : MethodName := ⟨RL, "saveSnapshot", "(LCellCycler;I[J)I"⟩
abbrev cL_restoreSnapshot : ByteArray := method_53_code
def yL_restoreSnapshot : MethodName := ⟨RL, "restoreSnapshot", "(LCellCycler;I[J)I"⟩
abbrev cL_law : ByteArray := code
def yL_law : MethodName := ⟨RL, "law", "([I)Z"⟩
abbrev vwCl : List vw_C := [(RX0, TX0, 16), (RX1, TX1, 14), (RX2, TX2, 4), (RX3, TX3, 4), (RX4, TX4, 7), (RX5, TX5, 5), (RX6, TX6, 7), (RX7, TX7, 12), (RX8, TX8, 5), (RX9, TX9, 8), (RX10, TX10, 6), (RX11, TX11, 19)]
end
section
/-! the layer: which words keep, one list of words for all methods, the shape of contracts, calls with their frame -/
def cm_good (w : Cond) : Bool := (w.onTables && w.keepsH) || (match w with
  | .arrayClass _ => true
  | .castable _ _ => true
  | .declares _ => true
  | .arrayOver (.object _) => true
  | _ => false)
theorem cm_word {args a' : Array Value} {s U : State} (hW : s.WarmedH U.vm) {w : Cond} (hg : cm_good w = true) (h : w.before args s = true) : w.before a' U = true := by
  unfold cm_good at hg
  rw [Bool.or_eq_true] at hg
  rcases hg with hg | hg
  · rw [Bool.and_eq_true] at hg
    have h1 := Cond.onTables_warmH (T := U) (args' := a') hW hg.1 hg.2 h
    rwa [State.setVm_self] at h1
  · split at hg
    · exact word_at hW (Or.inr ⟨_, rfl⟩) h
    · exact va_Nw.use rfl (va_Nw.warmC hW (va_Nw.of rfl h))
    · exact va_Nw.use rfl (va_Nw.warmD hW (va_Nw.of rfl h))
    · exact va_AO.use (va_AO.moved hW.alike (va_AO.of h))
    · cases hg
def cm_all : List Cond := lw_tbl.filter cm_good
theorem cm_in {w : Cond} (h : w ∈ lw_tbl) (g : cm_good w = true) : w ∈ cm_all := List.mem_filter.mpr ⟨h, g⟩
theorem cm_inT {w : Cond} (h : w ∈ tables_1) (g : cm_good w = true) : w ∈ cm_all := cm_in (List.mem_append_right _ h) g
theorem cm_places {ws : List Cond} (T : List Cond) (ps : List Nat) (hT : ∀ w ∈ T, w ∈ tables_1) (hp : ws = ps.filterMap (fun i => T[i]?)) (hg : ws.all cm_good = true) : ∀ w ∈ ws, w ∈ cm_all := by
  intro w hw
  have g := List.all_eq_true.mp hg w hw
  rw [hp] at hw
  obtain ⟨i, -, hi⟩ := List.mem_filterMap.mp hw
  exact cm_inT (hT w (List.mem_of_getElem? hi)) g
theorem cm_pay {args : Array Value} {s : State} (hts : ∀ w ∈ cm_all, w.before args s = true) {c : Cond} (hc : c ∈ cm_all) : ∀ w ∈ c :: cm_all, ∀ (a' : Array Value) (U : State), s.WarmedH U.vm → w.before a' U = true := by
  have k : ∀ w ∈ cm_all, ∀ (a' : Array Value) (U : State), s.WarmedH U.vm → w.before a' U = true := fun w hw a' U hW => cm_word hW (List.mem_filter.mp hw).2 (hts w hw)
  intro w hw a' U hW
  rcases List.mem_cons.mp hw with rfl | hw
  · exact k _ hc a' U hW
  · exact k _ hw a' U hW
/-- the words of a method -/
abbrev ws_ (y : MethodName) (cc : ByteArray) (n : Nat) (r : Option FieldType) : List Cond := Cond.code y cc n r :: cm_all
theorem ws_all {y : MethodName} {cc : ByteArray} {n : Nat} {r : Option FieldType} {args : Array Value} {s : State} (h : ∀ w ∈ ws_ y cc n r, w.before args s = true) : ∀ w ∈ cm_all, w.before args s = true := fun w hw => h w (List.mem_cons_of_mem _ hw)
/-- the classes of the arrays -/
abbrev cT (ct : Nat → ClassId) : List (ClassId × FieldType) := [(ct 0, .int), (ct 1, .long), (ct 2, .boolean), (ct 3, .object "CellCycler$Channel"), (ct 4, .object "CellCycler$World"), (ct 5, .double)]
/-- the static references that a throw reads -/
def cmX (A : Nat → Prop) (U : State) (H : Heap) : Prop := vx_Zq Bundle.tN "UNASSIGNED_STACK" Bundle.steD A U H ∧ vx_Zq Bundle.tN "SUPPRESSED_SENTINEL" Bundle.listD A U H
theorem cmX.moved {A : Nat → Prop} {u U : State} {H : Heap} (hvm : u.vm.Alike U.vm) (h : cmX A u H) : cmX A U H := ⟨vx_Zq.moved hvm h.1, vx_Zq.moved hvm h.2⟩
theorem cmX.kept {A : Nat → Prop} {U : State} {H H1 : Heap} (h : cmX A U H) (hq : ∀ a : Nat, a < H.size → ¬ A a → H1[a]? = H[a]?) : cmX A U H1 := ⟨vx_Zq.kept h.1 hq, vx_Zq.kept h.2 hq⟩
theorem cmX.narrow {A B : Nat → Prop} {U : State} {H : Heap} (h : cmX A U H) (hAB : ∀ q, B q → A q) : cmX B U H := ⟨vx_Zq.narrow h.1 hAB, vx_Zq.narrow h.2 hAB⟩
/-- a method's start: its cells W0, the tables, what a throw reads -/
def cmP (D : va_G) (ct : Nat → ClassId) (sz : Nat) (W0 : va_W) (U : State) : Prop := U.heap.size = sz ∧ va_P D vwCl W0 U.heap ∧ va_K D vwCl (cT ct) U ∧ va_D (fun _ => True) W0 ∧ cmX (va_A W0 sz) U U.heap
/-- its end: the cells that it leaves -/
def cmB (D : va_G) (W0 : va_W) (sz : Nat) {S : Type} (OUT : S → va_W) (u : S) (t : State) : Prop := va_P D vwCl (OUT u) t.heap ∧ va_D (va_A W0 sz) (OUT u)
def cmBX (D : va_G) (W0 : va_W) (sz : Nat) {S : Type} (EX : String) (OX : S → va_W) (E : String) (u : S) (t : State) : Prop := E = EX ∧ va_P D vwCl (OX u) t.heap ∧ va_D (va_A W0 sz) (OX u)
abbrev cm_names : List String := ["java/lang/RuntimeException", "java/lang/Exception"]
theorem cm_sub {ws : List Cond} (h : ws.all (fun w => decide (w ∈ tables_1)) = true) (g : ws.all cm_good = true) : ∀ w ∈ ws, w ∈ cm_all := fun w hw => cm_inT (of_decide_eq_true (List.all_eq_true.mp h w hw)) (List.all_eq_true.mp g w hw)
theorem cm_blind {D : va_G} {ct : Nat → ClassId} {sz : Nat} {W0 : va_W} {av : List Value} : FrameBlind (va_Pc av (cmP D ct sz W0)) := by
  intro a U g mk h
  obtain ⟨h0, h1, h2, h3, h4, h5⟩ := h
  exact ⟨h0, h1, h2, va_K.moved (u := U) (U := U.calling g mk a) (Vm.Alike.refl U.vm) h3, h4, cmX.moved (u := U) (U := U.calling g mk a) (Vm.Alike.refl U.vm) h5⟩
section CM
variable {p : Program} {l : Launch} {e : Env} {R : Room} {s : State} {m : MethodId} {args : Array Value} {below : List Frame} {meth : Method} {c : Code} {H : Heap} {locs : List Loc} {cells slots : Nat} {Q : State → Prop}
variable {mc ms : Nat} {A : Nat → Prop} {H0 : Heap} {a : Array Value} {pc : Nat} {ls : Array Slot} {st0 rest : List Value} {D : va_G} {ct : Nat → ClassId} {ws wc wr : va_W} {free : Addr → Prop}
theorem cm_preS {As : List Value} (hP : va_P D vwCl ws H) (hK : va_K D vwCl (cT ct) s) (hD : va_D A ws) (hS : va_S A s.heap H locs) (hA : ∀ q, s.heap.size ≤ q → A q) (hX : cmX A s s.heap) (isC : List Nat) (hC : isC.map (fun i => ws[i]?) = wc.map some) (hn : va_nd isC = true) (hf : isC.filterMap (fun i => ws[i]?) = wc) : PreS s H (va_Pc As (cmP D ct H.size wc)) As := by
  refine ⟨cm_blind, fun U hU hW => ⟨rfl, by rw [hU], ?_, va_K.moved hW.alike hK, (hD.sub isC hn hC).weaken (fun _ _ _ _ => trivial), ?_⟩⟩
  · rw [hU]; exact hP.sub isC hf
  · rw [hU]
    exact (cmX.moved hW.alike (hX.kept hS.2.1)).narrow (va_free hD hS hA isC hC)
theorem cm_preV {b q0 ci : Nat} {q : vw_C} {fs : List Value} {As : List Value} (hP : va_P D vwCl ws H) (hK : va_K D vwCl (cT ct) s) (hD : va_D A ws) (hS : va_S A s.heap H locs) (hA : ∀ q, s.heap.size ≤ q → A q) (hX : cmX A s s.heap) (isC : List Nat) (hC : isC.map (fun i => ws[i]?) = wc.map some) (hn : va_nd isC = true) (hf : isC.filterMap (fun i => ws[i]?) = wc) (hc : vwCl[ci]? = some q) (he : ws[q0]? = some (b, .inr (ci, fs))) : PreV s H q.1 b (va_Pc (.ref b :: As) (cmP D ct H.size wc)) As := by
  have h := cm_preS (As := .ref b :: As) hP hK hD hS hA hX isC hC hn hf
  exact ⟨h.1, va_recv hK hP hc he, h.2⟩
/-- behind a call: the rest beside what came back -/
theorem cm_ki {S : Type} {post : Int32 → S → Prop} {OUT : S → va_W} (hr : va_Run p l e R s m args below meth c H locs cells slots mc ms (F0 m pc ls st0) rest (va_Qi post (cmB D wc H.size OUT) (va_A wc H.size) a) (va_A wc H.size)) (hP : va_P D vwCl ws H) (hD : va_D A ws) (hS : va_S A H0 H locs) (hA : ∀ q, H0.size ≤ q → A q) (isC isR : List Nat) (hC : isC.map (fun i => ws[i]?) = wc.map some) (hR : isR.map (fun i => ws[i]?) = wr.map some) (hn : va_nd isR = true) (hdis : ∀ i ∈ isR, i ∉ isC)
    (kk : ∀ (r : Int32) (u : S) (H1 : Heap) (locs1 : List Loc), post r u → va_P D vwCl (wr ++ OUT u) H1 → va_D A (wr ++ OUT u) → va_S A H0 H1 locs1 → W p l e R s m args below meth c H1 locs1 (cells + mc) (slots + ms) Q (F0 m (pc + 3) ls (.int r :: rest))) : W p l e R s m args below meth c H locs cells slots Q (F0 m pc ls st0) := by
  have hF := va_free hD hS hA isC hC
  refine va_calli hr hS (fun q _ h => hF q h) hF (fun r u t H1 locs1 ht hvm hw hB hz1 hk1 hS1 => ?_)
  obtain ⟨hP1, hD1⟩ := hB
  rw [ht] at hP1
  obtain ⟨hP2, hD2⟩ := va_join hP hD isC isR hC hR hn hdis hk1 hF hP1 hD1
  exact kk r u H1 locs1 hw hP2 hD2 hS1
theorem cm_kl {S : Type} {post : Int64 → S → Prop} {OUT : S → va_W} (hr : va_Run p l e R s m args below meth c H locs cells slots mc ms (F0 m pc ls st0) rest (va_Ql post (cmB D wc H.size OUT) (va_A wc H.size) a) (va_A wc H.size)) (hP : va_P D vwCl ws H) (hD : va_D A ws) (hS : va_S A H0 H locs) (hA : ∀ q, H0.size ≤ q → A q) (isC isR : List Nat) (hC : isC.map (fun i => ws[i]?) = wc.map some) (hR : isR.map (fun i => ws[i]?) = wr.map some) (hn : va_nd isR = true) (hdis : ∀ i ∈ isR, i ∉ isC)
    (kk : ∀ (r : Int64) (u : S) (H1 : Heap) (locs1 : List Loc), post r u → va_P D vwCl (wr ++ OUT u) H1 → va_D A (wr ++ OUT u) → va_S A H0 H1 locs1 → W p l e R s m args below meth c H1 locs1 (cells + mc) (slots + ms) Q (F0 m (pc + 3) ls (.long r :: rest))) : W p l e R s m args below meth c H locs cells slots Q (F0 m pc ls st0) := by
  have hF := va_free hD hS hA isC hC
  refine va_calll hr hS (fun q _ h => hF q h) hF (fun r u t H1 locs1 ht hvm hw hB hz1 hk1 hS1 => ?_)
  obtain ⟨hP1, hD1⟩ := hB
  rw [ht] at hP1
  obtain ⟨hP2, hD2⟩ := va_join hP hD isC isR hC hR hn hdis hk1 hF hP1 hD1
  exact kk r u H1 locs1 hw hP2 hD2 hS1
theorem cm_kv {S : Type} {post : S → Prop} {OUT : S → va_W} (hr : va_Run p l e R s m args below meth c H locs cells slots mc ms (F0 m pc ls st0) rest (va_Qv post (cmB D wc H.size OUT) (va_A wc H.size) a) (va_A wc H.size)) (hP : va_P D vwCl ws H) (hD : va_D A ws) (hS : va_S A H0 H locs) (hA : ∀ q, H0.size ≤ q → A q) (isC isR : List Nat) (hC : isC.map (fun i => ws[i]?) = wc.map some) (hR : isR.map (fun i => ws[i]?) = wr.map some) (hn : va_nd isR = true) (hdis : ∀ i ∈ isR, i ∉ isC)
    (kk : ∀ (u : S) (H1 : Heap) (locs1 : List Loc), post u → va_P D vwCl (wr ++ OUT u) H1 → va_D A (wr ++ OUT u) → va_S A H0 H1 locs1 → W p l e R s m args below meth c H1 locs1 (cells + mc) (slots + ms) Q (F0 m (pc + 3) ls rest)) : W p l e R s m args below meth c H locs cells slots Q (F0 m pc ls st0) := by
  have hF := va_free hD hS hA isC hC
  refine va_callv hr hS (fun q _ h => hF q h) hF (fun u t H1 locs1 ht hvm hw hB hz1 hk1 hS1 => ?_)
  obtain ⟨hP1, hD1⟩ := hB
  rw [ht] at hP1
  obtain ⟨hP2, hD2⟩ := va_join hP hD isC isR hC hR hn hdis hk1 hF hP1 hD1
  exact kk u H1 locs1 hw hP2 hD2 hS1
theorem cm_kq {S : Type} {post : Option Nat → S → Prop} {OUT : S → va_W} (hr : va_Run p l e R s m args below meth c H locs cells slots mc ms (F0 m pc ls st0) rest (va_Qq post (cmB D wc H.size OUT) (va_A wc H.size) a) (va_A wc H.size)) (hP : va_P D vwCl ws H) (hD : va_D A ws) (hS : va_S A H0 H locs) (hA : ∀ q, H0.size ≤ q → A q) (isC isR : List Nat) (hC : isC.map (fun i => ws[i]?) = wc.map some) (hR : isR.map (fun i => ws[i]?) = wr.map some) (hn : va_nd isR = true) (hdis : ∀ i ∈ isR, i ∉ isC)
    (kk : ∀ (r : Option Nat) (u : S) (H1 : Heap) (locs1 : List Loc), post r u → va_P D vwCl (wr ++ OUT u) H1 → va_D A (wr ++ OUT u) → va_S A H0 H1 locs1 → W p l e R s m args below meth c H1 locs1 (cells + mc) (slots + ms) Q (F0 m (pc + 3) ls (va_rf r :: rest))) : W p l e R s m args below meth c H locs cells slots Q (F0 m pc ls st0) := by
  have hF := va_free hD hS hA isC hC
  refine va_callq hr hS (fun q _ h => hF q h) hF (fun r u t H1 locs1 ht hvm hw hB hz1 hk1 hS1 => ?_)
  obtain ⟨hP1, hD1⟩ := hB
  rw [ht] at hP1
  obtain ⟨hP2, hD2⟩ := va_join hP hD isC isR hC hR hn hdis hk1 hF hP1 hD1
  exact kk r u H1 locs1 hw hP2 hD2 hS1
/-- the words of a call -/
theorem cm_B {own : String} {index maxL : Nat} {y : MethodName} {bytes : ByteArray} {ret : Option FieldType} {rm : Room} (n : Nat) (hts : ∀ w ∈ cm_all, w.before args s = true) (hc : Cond.code y bytes maxL ret ∈ cm_all) (hini : Cond.initialized y.cls ∈ cm_all) (hl : Cond.methodLink own index y ∈ cm_all)
    (hd : y.cls ≠ "java/lang/invoke/MethodHandle" ∧ y.cls ≠ "java/lang/invoke/VarHandle" ∧ (parseMethodDescriptor y.desc).map (fun d => d.parameters.length) = some n) (hR : rm.frames + 1 ≤ R.frames ∧ 8 + (maxL + 11) + rm.locals ≤ R.locals) : CallB R s args own index y bytes maxL ret (ws_ y bytes maxL ret) rm rm.cells rm.slots n := by
  refine ⟨rfl, rfl, hR.1, hR.2, cm_pay hts hc, List.mem_cons_self, hts _ hc, hts _ hini, ⟨hd.1, hd.2.1⟩, fun sig h => ?_, hts _ hl⟩
  have h2 := hd.2.2
  rw [h] at h2
  exact (Option.some.inj h2).symm
theorem cm_V {own : String} {index maxL : Nat} {y : MethodName} {bytes : ByteArray} {ret : Option FieldType} {rm : Room} (n : Nat) (hts : ∀ w ∈ cm_all, w.before args s = true) (hc : Cond.code y bytes maxL ret ∈ cm_all) (hini : Cond.initialized y.cls ∈ cm_all) (hl : Cond.methodLink own index y ∈ cm_all) (hi : Cond.instanceMethod y ∈ cm_all) (hs : Cond.selects y.cls y y ∈ cm_all)
    (hd : y.cls ≠ "java/lang/invoke/MethodHandle" ∧ y.cls ≠ "java/lang/invoke/VarHandle" ∧ (parseMethodDescriptor y.desc).map (fun d => d.parameters.length) = some n) (hR : rm.frames + 1 ≤ R.frames ∧ 8 + (maxL + 11) + rm.locals ≤ R.locals) : CallW R s args own y.cls index y bytes maxL ret (ws_ y bytes maxL ret) rm rm.cells rm.slots n := ⟨cm_B n hts hc hini hl hd hR, hts _ hi, hts _ hs⟩
theorem cm_S {own : String} {index maxL : Nat} {y : MethodName} {bytes : ByteArray} {ret : Option FieldType} {rm : Room} (n : Nat) (hts : ∀ w ∈ cm_all, w.before args s = true) (hc : Cond.code y bytes maxL ret ∈ cm_all) (hini : Cond.initialized y.cls ∈ cm_all) (hl : Cond.methodLink own index y ∈ cm_all) (hi : Cond.static y ∈ cm_all)
    (hd : y.cls ≠ "java/lang/invoke/MethodHandle" ∧ y.cls ≠ "java/lang/invoke/VarHandle" ∧ (parseMethodDescriptor y.desc).map (fun d => d.parameters.length) = some n) (hR : rm.frames + 1 ≤ R.frames ∧ 8 + (maxL + 11) + rm.locals ≤ R.locals) : CallB R s args own index y bytes maxL ret (ws_ y bytes maxL ret) rm rm.cells rm.slots n ∧ (Cond.static y).before args s = true := ⟨cm_B n hts hc hini hl hd hR, hts _ hi⟩
theorem cm_I {own : String} {index maxL : Nat} {y : MethodName} {bytes : ByteArray} {rm : Room} (n : Nat) (hts : ∀ w ∈ cm_all, w.before args s = true) (hc : Cond.code y bytes maxL none ∈ cm_all) (hini : Cond.initialized y.cls ∈ cm_all) (hl : Cond.methodLink own index y ∈ cm_all) (hi : Cond.instanceMethod y ∈ cm_all) (hy : y.name = "<init>")
    (hd : y.cls ≠ "java/lang/invoke/MethodHandle" ∧ y.cls ≠ "java/lang/invoke/VarHandle" ∧ (parseMethodDescriptor y.desc).map (fun d => d.parameters.length) = some n) (hR : rm.frames + 1 ≤ R.frames ∧ 8 + (maxL + 11) + rm.locals ≤ R.locals) : CallB R s args own index y bytes maxL none (ws_ y bytes maxL none) rm rm.cells rm.slots n ∧ y.name = "<init>" ∧ (Cond.instanceMethod y).before args s = true := ⟨cm_B n hts hc hini hl hd hR, hy, hts _ hi⟩
theorem cm_N {own host : String} {index maxL : Nat} {y : MethodName} {bytes : ByteArray} {ret : Option FieldType} {rm : Room} (n : Nat) (hts : ∀ w ∈ cm_all, w.before args s = true) (hc : Cond.code y bytes maxL ret ∈ cm_all) (hini : Cond.initialized y.cls ∈ cm_all) (hl : Cond.methodLinkNest own index y host ∈ cm_all)
    (hd : y.cls ≠ "java/lang/invoke/MethodHandle" ∧ y.cls ≠ "java/lang/invoke/VarHandle" ∧ (parseMethodDescriptor y.desc).map (fun d => d.parameters.length) = some n) (hR : rm.frames + 1 ≤ R.frames ∧ 8 + (maxL + 11) + rm.locals ≤ R.locals) : va_CN R s args own index y host bytes maxL ret (ws_ y bytes maxL ret) rm rm.cells rm.slots n := by
  refine ⟨⟨rfl, rfl, hR.1, hR.2, cm_pay hts hc, List.mem_cons_self⟩, hts _ hc, hts _ hini, ⟨hd.1, hd.2.1⟩, fun sig h => ?_, hts _ hl⟩
  have h2 := hd.2.2
  rw [h] at h2
  exact (Option.some.inj h2).symm
theorem cm_VN {own host : String} {index maxL : Nat} {y : MethodName} {bytes : ByteArray} {ret : Option FieldType} {rm : Room} (n : Nat) (hts : ∀ w ∈ cm_all, w.before args s = true) (hc : Cond.code y bytes maxL ret ∈ cm_all) (hini : Cond.initialized y.cls ∈ cm_all) (hl : Cond.methodLinkNest own index y host ∈ cm_all) (hi : Cond.instanceMethod y ∈ cm_all) (hs : Cond.selects y.cls y y ∈ cm_all)
    (hd : y.cls ≠ "java/lang/invoke/MethodHandle" ∧ y.cls ≠ "java/lang/invoke/VarHandle" ∧ (parseMethodDescriptor y.desc).map (fun d => d.parameters.length) = some n) (hR : rm.frames + 1 ≤ R.frames ∧ 8 + (maxL + 11) + rm.locals ≤ R.locals) : va_CN R s args own index y host bytes maxL ret (ws_ y bytes maxL ret) rm rm.cells rm.slots n ∧ (Cond.instanceMethod y).before args s = true ∧ (Cond.selects y.cls y y).before args s = true := ⟨cm_N n hts hc hini hl hd hR, hts _ hi, hts _ hs⟩
theorem cm_SN {own host : String} {index maxL : Nat} {y : MethodName} {bytes : ByteArray} {ret : Option FieldType} {rm : Room} (n : Nat) (hts : ∀ w ∈ cm_all, w.before args s = true) (hc : Cond.code y bytes maxL ret ∈ cm_all) (hini : Cond.initialized y.cls ∈ cm_all) (hl : Cond.methodLinkNest own index y host ∈ cm_all) (hi : Cond.static y ∈ cm_all)
    (hd : y.cls ≠ "java/lang/invoke/MethodHandle" ∧ y.cls ≠ "java/lang/invoke/VarHandle" ∧ (parseMethodDescriptor y.desc).map (fun d => d.parameters.length) = some n) (hR : rm.frames + 1 ≤ R.frames ∧ 8 + (maxL + 11) + rm.locals ≤ R.locals) : va_CN R s args own index y host bytes maxL ret (ws_ y bytes maxL ret) rm rm.cells rm.slots n ∧ (Cond.static y).before args s = true ∧ True := ⟨cm_N n hts hc hini hl hd hR, hts _ hi, trivial⟩
theorem cm_IN {own host : String} {index maxL : Nat} {y : MethodName} {bytes : ByteArray} {rm : Room} (n : Nat) (hts : ∀ w ∈ cm_all, w.before args s = true) (hc : Cond.code y bytes maxL none ∈ cm_all) (hini : Cond.initialized y.cls ∈ cm_all) (hl : Cond.methodLinkNest own index y host ∈ cm_all) (hi : Cond.instanceMethod y ∈ cm_all) (hy : y.name = "<init>")
    (hd : y.cls ≠ "java/lang/invoke/MethodHandle" ∧ y.cls ≠ "java/lang/invoke/VarHandle" ∧ (parseMethodDescriptor y.desc).map (fun d => d.parameters.length) = some n) (hR : rm.frames + 1 ≤ R.frames ∧ 8 + (maxL + 11) + rm.locals ≤ R.locals) : va_CN R s args own index y host bytes maxL none (ws_ y bytes maxL none) rm rm.cells rm.slots n ∧ y.name = "<init>" ∧ (Cond.instanceMethod y).before args s = true := ⟨cm_N n hts hc hini hl hd hR, hy, hts _ hi⟩
/-- a new array of a known class -/
theorem cm_newa {cc : ByteArray} (hexec : p.tables.exec = Jvm.exec) (hb : c.code = cc) {atype : ArrayType} {ty : FieldType} (harr : (Cond.arrayClass (newarray.typeOf atype)).before args s = true) (hty : newarray.typeOf atype = ty) (hK : va_K D vwCl (cT ct) s) (k : Nat) (hk : (cT ct)[k]? = some (ct k, ty)) (hra : ∀ (x y : ClassId), va_RA s x ty → va_RA s y ty → x = y) (hP : va_P D vwCl ws H) (hD : va_D A ws) (hS : va_S A H0 H locs) (hA : ∀ q, H0.size ≤ q → A q)
    {n : Int32} {N' : Nat} {a0 : vp_A} (ha : ∀ cA : ClassId, vp_cell cA a0 = arrV cA N' (fun _ => defaultValue ty)) (hn : ¬ n < 0) (hN : n.toNatClampNeg = N') (hbytes : N' * componentBytes ty ≤ 536870912) (hcells : cells + 1 ≤ R.cells) (hslots : slots + N' ≤ R.slots) (hdg : decode cc pc = .ok (.newarray atype, 2))
    (kk : ∀ (q : Nat) (H1 : Heap), va_P D vwCl (ws ++ [(q, .inl (ct k, a0))]) H1 → va_D A (ws ++ [(q, .inl (ct k, a0))]) → va_S A H0 H1 locs →
      W p l e R s m args below meth c H1 locs (cells + 1) (slots + N') Q (F0 m (pc + 2) ls (.ref q :: rest))) : W p l e R s m args below meth c H locs cells slots Q (F0 m pc ls (.int n :: rest)) := by
  refine va_newa hexec hb harr hty hK hP hD hS hA ha hn hN hbytes hcells hslots hdg (fun q cA H1 hK1 hP1 hD1 hS1 => ?_)
  have e : cA = ct k := hra _ _ (hK1.2 6 _ rfl).2 (hK.2 k _ hk).2
  subst e
  exact kk q H1 hP1 hD1 hS1
theorem cm_raI (x y : ClassId) (h1 : va_RA s x .int) (h2 : va_RA s y .int) : x = y := Option.some.inj (h1.symm.trans h2)
theorem cm_raJ (x y : ClassId) (h1 : va_RA s x .long) (h2 : va_RA s y .long) : x = y := Option.some.inj (h1.symm.trans h2)
theorem cm_raZ (x y : ClassId) (h1 : va_RA s x .boolean) (h2 : va_RA s y .boolean) : x = y := Option.some.inj (h1.symm.trans h2)
theorem cm_raD (x y : ClassId) (h1 : va_RA s x .double) (h2 : va_RA s y .double) : x = y := Option.some.inj (h1.symm.trans h2)
theorem cm_raO {C : String} (x y : ClassId) (h1 : va_RA s x (.object C)) (h2 : va_RA s y (.object C)) : x = y := by
  obtain ⟨_, _, _, _, _, g1⟩ := h1
  obtain ⟨_, _, _, _, _, g2⟩ := h2
  exact Option.some.inj (g1.symm.trans g2)
theorem cm_newq {cc : ByteArray} (hexec : p.tables.exec = Jvm.exec) (hb : c.code = cc) {own C : String} {index : Nat} (hown : s.vm.findClass own = some m.cls) (hclink : (Cond.classLink own index C).before args s = true) (hover : va_AO C s) (hK : va_K D vwCl (cT ct) s) (k : Nat) (hk : (cT ct)[k]? = some (ct k, .object C)) (hP : va_P D vwCl ws H) (hD : va_D A ws) (hS : va_S A H0 H locs) (hA : ∀ q, H0.size ≤ q → A q)
    {n : Int32} {N' : Nat} (hn : ¬ n < 0) (hN : n.toNatClampNeg = N') (hbytes : N' * 4 ≤ 536870912) (hcells : cells + 1 ≤ R.cells) (hslots : slots + N' ≤ R.slots) (hdg : decode cc pc = .ok (.anewarray index, 3))
    (kk : ∀ (q : Nat) (H1 : Heap), va_P D vwCl (ws ++ [(q, .inl (ct k, N', .inr (.inr (.inr (.inr (fun _ => none))))))]) H1 → va_D A (ws ++ [(q, .inl (ct k, N', .inr (.inr (.inr (.inr (fun _ => none))))))]) → va_S A H0 H1 locs →
      W p l e R s m args below meth c H1 locs (cells + 1) (slots + N') Q (F0 m (pc + 3) ls (.ref q :: rest))) : W p l e R s m args below meth c H locs cells slots Q (F0 m pc ls (.int n :: rest)) := by
  refine va_newq hexec hb hown hclink hover hK hP hD hS hA hn hN hbytes hcells hslots hdg (fun q cA H1 hK1 hP1 hD1 hS1 => ?_)
  have e : cA = ct k := cm_raO _ _ (hK1.2 6 _ rfl).2 (hK.2 k _ hk).2
  subst e
  exact kk q H1 hP1 hD1 hS1
theorem cm_cst {x y : Int32} (h : x = y) (k : W p l e R s m args below meth c H locs cells slots Q (F0 m pc ls (.int y :: rest))) : W p l e R s m args below meth c H locs cells slots Q (F0 m pc ls (.int x :: rest)) := by
  rw [h]
  exact k
theorem cm_cstl {x y : Int64} (h : x = y) (k : W p l e R s m args below meth c H locs cells slots Q (F0 m pc ls (.long y :: rest))) : W p l e R s m args below meth c H locs cells slots Q (F0 m pc ls (.long x :: rest)) := by
  rw [h]
  exact k
theorem cm_F {t : State} (hS : va_S A s.heap H locs) (hz : H.size ≤ t.heap.size) (hk : ∀ q : Nat, q < H.size → t.heap[q]? = H[q]?) : va_F A s t := ⟨Nat.le_trans hS.1 hz, fun q h1 h2 => (hk q (Nat.lt_of_lt_of_le h1 hS.1)).trans (hS.2.1 q h1 h2)⟩
theorem cm_at0 {own X : String} {ic : Nat} {names : List String} (h : ∀ w ∈ vx_at0 own ic X names, w ∈ cm_all) (hts : ∀ w ∈ cm_all, w.before args s = true) : ∀ w ∈ vx_at0 own ic X names, w.before args s = true := fun w hw => hts w (h w hw)
theorem cm_xi {S SX : Type} {post : Int32 → S → Prop} {px : SX → Prop} {EX : String} {OUT : S → va_W} {OX : SX → va_W} (hr : vx_Run p l e R s m args below meth c H locs cells slots mc ms (F0 m pc ls st0) rest (va_Qi post (cmB D wc H.size OUT) (va_A wc H.size) a) (vx_X px (cmBX D wc H.size EX OX) (va_A wc H.size)) (va_A wc H.size)) (hP : va_P D vwCl ws H) (hD : va_D A ws) (hS : va_S A H0 H locs) (hA : ∀ q, H0.size ≤ q → A q) (isC isR : List Nat) (hC : isC.map (fun i => ws[i]?) = wc.map some) (hR : isR.map (fun i => ws[i]?) = wr.map some) (hn : va_nd isR = true) (hdis : ∀ i ∈ isR, i ∉ isC)
    (kx : ∀ (E : String) (ce : Cell) (q9 : Addr) (u : SX) (H1 : Heap) (locs1 : List Loc), px u → E = EX → va_P D vwCl (wr ++ OX u) H1 → va_D A (wr ++ OX u) → va_S A H0 H1 locs1 → H1[q9]? = some ce → ce.vm = .none → s.vm.findClass E = some ce.cls → vx_W p l e R s m args below meth c H1 locs1 (cells + mc) (slots + ms) Q (F0 m pc ls rest) q9)
    (kk : ∀ (r : Int32) (u : S) (H1 : Heap) (locs1 : List Loc), post r u → va_P D vwCl (wr ++ OUT u) H1 → va_D A (wr ++ OUT u) → va_S A H0 H1 locs1 → W p l e R s m args below meth c H1 locs1 (cells + mc) (slots + ms) Q (F0 m (pc + 3) ls (.int r :: rest))) : W p l e R s m args below meth c H locs cells slots Q (F0 m pc ls st0) := by
  have hF := va_free hD hS hA isC hC
  refine vx_calli hr hS (fun q _ h => hF q h) hF (fun q _ h => hF q h) (fun E ce q9 u t H1 locs1 ht hvm hu hB hz1 hk1 hS1 hce hcv hcl => ?_) (fun r u t H1 locs1 ht hvm hw hB hz1 hk1 hS1 => ?_)
  · obtain ⟨hE, hP1, hD1⟩ := hB
    rw [ht] at hP1
    obtain ⟨hP2, hD2⟩ := va_join hP hD isC isR hC hR hn hdis hk1 hF hP1 hD1
    exact kx E ce q9 u H1 locs1 hu hE hP2 hD2 hS1 hce hcv hcl
  · obtain ⟨hP1, hD1⟩ := hB
    rw [ht] at hP1
    obtain ⟨hP2, hD2⟩ := va_join hP hD isC isR hC hR hn hdis hk1 hF hP1 hD1
    exact kk r u H1 locs1 hw hP2 hD2 hS1
theorem cm_xl {S SX : Type} {post : Int64 → S → Prop} {px : SX → Prop} {EX : String} {OUT : S → va_W} {OX : SX → va_W} (hr : vx_Run p l e R s m args below meth c H locs cells slots mc ms (F0 m pc ls st0) rest (va_Ql post (cmB D wc H.size OUT) (va_A wc H.size) a) (vx_X px (cmBX D wc H.size EX OX) (va_A wc H.size)) (va_A wc H.size)) (hP : va_P D vwCl ws H) (hD : va_D A ws) (hS : va_S A H0 H locs) (hA : ∀ q, H0.size ≤ q → A q) (isC isR : List Nat) (hC : isC.map (fun i => ws[i]?) = wc.map some) (hR : isR.map (fun i => ws[i]?) = wr.map some) (hn : va_nd isR = true) (hdis : ∀ i ∈ isR, i ∉ isC)
    (kx : ∀ (E : String) (ce : Cell) (q9 : Addr) (u : SX) (H1 : Heap) (locs1 : List Loc), px u → E = EX → va_P D vwCl (wr ++ OX u) H1 → va_D A (wr ++ OX u) → va_S A H0 H1 locs1 → H1[q9]? = some ce → ce.vm = .none → s.vm.findClass E = some ce.cls → vx_W p l e R s m args below meth c H1 locs1 (cells + mc) (slots + ms) Q (F0 m pc ls rest) q9)
    (kk : ∀ (r : Int64) (u : S) (H1 : Heap) (locs1 : List Loc), post r u → va_P D vwCl (wr ++ OUT u) H1 → va_D A (wr ++ OUT u) → va_S A H0 H1 locs1 → W p l e R s m args below meth c H1 locs1 (cells + mc) (slots + ms) Q (F0 m (pc + 3) ls (.long r :: rest))) : W p l e R s m args below meth c H locs cells slots Q (F0 m pc ls st0) := by
  have hF := va_free hD hS hA isC hC
  refine vx_calll hr hS (fun q _ h => hF q h) hF (fun q _ h => hF q h) (fun E ce q9 u t H1 locs1 ht hvm hu hB hz1 hk1 hS1 hce hcv hcl => ?_) (fun r u t H1 locs1 ht hvm hw hB hz1 hk1 hS1 => ?_)
  · obtain ⟨hE, hP1, hD1⟩ := hB
    rw [ht] at hP1
    obtain ⟨hP2, hD2⟩ := va_join hP hD isC isR hC hR hn hdis hk1 hF hP1 hD1
    exact kx E ce q9 u H1 locs1 hu hE hP2 hD2 hS1 hce hcv hcl
  · obtain ⟨hP1, hD1⟩ := hB
    rw [ht] at hP1
    obtain ⟨hP2, hD2⟩ := va_join hP hD isC isR hC hR hn hdis hk1 hF hP1 hD1
    exact kk r u H1 locs1 hw hP2 hD2 hS1
theorem cm_xf {S SX : Type} {post : UInt32 → S → Prop} {px : SX → Prop} {EX : String} {OUT : S → va_W} {OX : SX → va_W} (hr : vx_Run p l e R s m args below meth c H locs cells slots mc ms (F0 m pc ls st0) rest (va_Qf post (cmB D wc H.size OUT) (va_A wc H.size) a) (vx_X px (cmBX D wc H.size EX OX) (va_A wc H.size)) (va_A wc H.size)) (hP : va_P D vwCl ws H) (hD : va_D A ws) (hS : va_S A H0 H locs) (hA : ∀ q, H0.size ≤ q → A q) (isC isR : List Nat) (hC : isC.map (fun i => ws[i]?) = wc.map some) (hR : isR.map (fun i => ws[i]?) = wr.map some) (hn : va_nd isR = true) (hdis : ∀ i ∈ isR, i ∉ isC)
    (kx : ∀ (E : String) (ce : Cell) (q9 : Addr) (u : SX) (H1 : Heap) (locs1 : List Loc), px u → E = EX → va_P D vwCl (wr ++ OX u) H1 → va_D A (wr ++ OX u) → va_S A H0 H1 locs1 → H1[q9]? = some ce → ce.vm = .none → s.vm.findClass E = some ce.cls → vx_W p l e R s m args below meth c H1 locs1 (cells + mc) (slots + ms) Q (F0 m pc ls rest) q9)
    (kk : ∀ (r : UInt32) (u : S) (H1 : Heap) (locs1 : List Loc), post r u → va_P D vwCl (wr ++ OUT u) H1 → va_D A (wr ++ OUT u) → va_S A H0 H1 locs1 → W p l e R s m args below meth c H1 locs1 (cells + mc) (slots + ms) Q (F0 m (pc + 3) ls (.float r :: rest))) : W p l e R s m args below meth c H locs cells slots Q (F0 m pc ls st0) := by
  have hF := va_free hD hS hA isC hC
  refine vx_callf hr hS (fun q _ h => hF q h) hF (fun q _ h => hF q h) (fun E ce q9 u t H1 locs1 ht hvm hu hB hz1 hk1 hS1 hce hcv hcl => ?_) (fun r u t H1 locs1 ht hvm hw hB hz1 hk1 hS1 => ?_)
  · obtain ⟨hE, hP1, hD1⟩ := hB
    rw [ht] at hP1
    obtain ⟨hP2, hD2⟩ := va_join hP hD isC isR hC hR hn hdis hk1 hF hP1 hD1
    exact kx E ce q9 u H1 locs1 hu hE hP2 hD2 hS1 hce hcv hcl
  · obtain ⟨hP1, hD1⟩ := hB
    rw [ht] at hP1
    obtain ⟨hP2, hD2⟩ := va_join hP hD isC isR hC hR hn hdis hk1 hF hP1 hD1
    exact kk r u H1 locs1 hw hP2 hD2 hS1
theorem cm_xd {S SX : Type} {post : UInt64 → S → Prop} {px : SX → Prop} {EX : String} {OUT : S → va_W} {OX : SX → va_W} (hr : vx_Run p l e R s m args below meth c H locs cells slots mc ms (F0 m pc ls st0) rest (va_Qd post (cmB D wc H.size OUT) (va_A wc H.size) a) (vx_X px (cmBX D wc H.size EX OX) (va_A wc H.size)) (va_A wc H.size)) (hP : va_P D vwCl ws H) (hD : va_D A ws) (hS : va_S A H0 H locs) (hA : ∀ q, H0.size ≤ q → A q) (isC isR : List Nat) (hC : isC.map (fun i => ws[i]?) = wc.map some) (hR : isR.map (fun i => ws[i]?) = wr.map some) (hn : va_nd isR = true) (hdis : ∀ i ∈ isR, i ∉ isC)
    (kx : ∀ (E : String) (ce : Cell) (q9 : Addr) (u : SX) (H1 : Heap) (locs1 : List Loc), px u → E = EX → va_P D vwCl (wr ++ OX u) H1 → va_D A (wr ++ OX u) → va_S A H0 H1 locs1 → H1[q9]? = some ce → ce.vm = .none → s.vm.findClass E = some ce.cls → vx_W p l e R s m args below meth c H1 locs1 (cells + mc) (slots + ms) Q (F0 m pc ls rest) q9)
    (kk : ∀ (r : UInt64) (u : S) (H1 : Heap) (locs1 : List Loc), post r u → va_P D vwCl (wr ++ OUT u) H1 → va_D A (wr ++ OUT u) → va_S A H0 H1 locs1 → W p l e R s m args below meth c H1 locs1 (cells + mc) (slots + ms) Q (F0 m (pc + 3) ls (.double r :: rest))) : W p l e R s m args below meth c H locs cells slots Q (F0 m pc ls st0) := by
  have hF := va_free hD hS hA isC hC
  refine vx_calld hr hS (fun q _ h => hF q h) hF (fun q _ h => hF q h) (fun E ce q9 u t H1 locs1 ht hvm hu hB hz1 hk1 hS1 hce hcv hcl => ?_) (fun r u t H1 locs1 ht hvm hw hB hz1 hk1 hS1 => ?_)
  · obtain ⟨hE, hP1, hD1⟩ := hB
    rw [ht] at hP1
    obtain ⟨hP2, hD2⟩ := va_join hP hD isC isR hC hR hn hdis hk1 hF hP1 hD1
    exact kx E ce q9 u H1 locs1 hu hE hP2 hD2 hS1 hce hcv hcl
  · obtain ⟨hP1, hD1⟩ := hB
    rw [ht] at hP1
    obtain ⟨hP2, hD2⟩ := va_join hP hD isC isR hC hR hn hdis hk1 hF hP1 hD1
    exact kk r u H1 locs1 hw hP2 hD2 hS1
theorem cm_xv {S SX : Type} {post : S → Prop} {px : SX → Prop} {EX : String} {OUT : S → va_W} {OX : SX → va_W} (hr : vx_Run p l e R s m args below meth c H locs cells slots mc ms (F0 m pc ls st0) rest (va_Qv post (cmB D wc H.size OUT) (va_A wc H.size) a) (vx_X px (cmBX D wc H.size EX OX) (va_A wc H.size)) (va_A wc H.size)) (hP : va_P D vwCl ws H) (hD : va_D A ws) (hS : va_S A H0 H locs) (hA : ∀ q, H0.size ≤ q → A q) (isC isR : List Nat) (hC : isC.map (fun i => ws[i]?) = wc.map some) (hR : isR.map (fun i => ws[i]?) = wr.map some) (hn : va_nd isR = true) (hdis : ∀ i ∈ isR, i ∉ isC)
    (kx : ∀ (E : String) (ce : Cell) (q9 : Addr) (u : SX) (H1 : Heap) (locs1 : List Loc), px u → E = EX → va_P D vwCl (wr ++ OX u) H1 → va_D A (wr ++ OX u) → va_S A H0 H1 locs1 → H1[q9]? = some ce → ce.vm = .none → s.vm.findClass E = some ce.cls → vx_W p l e R s m args below meth c H1 locs1 (cells + mc) (slots + ms) Q (F0 m pc ls rest) q9)
    (kk : ∀ (u : S) (H1 : Heap) (locs1 : List Loc), post u → va_P D vwCl (wr ++ OUT u) H1 → va_D A (wr ++ OUT u) → va_S A H0 H1 locs1 → W p l e R s m args below meth c H1 locs1 (cells + mc) (slots + ms) Q (F0 m (pc + 3) ls (rest))) : W p l e R s m args below meth c H locs cells slots Q (F0 m pc ls st0) := by
  have hF := va_free hD hS hA isC hC
  refine vx_callv hr hS (fun q _ h => hF q h) hF (fun q _ h => hF q h) (fun E ce q9 u t H1 locs1 ht hvm hu hB hz1 hk1 hS1 hce hcv hcl => ?_) (fun u t H1 locs1 ht hvm hw hB hz1 hk1 hS1 => ?_)
  · obtain ⟨hE, hP1, hD1⟩ := hB
    rw [ht] at hP1
    obtain ⟨hP2, hD2⟩ := va_join hP hD isC isR hC hR hn hdis hk1 hF hP1 hD1
    exact kx E ce q9 u H1 locs1 hu hE hP2 hD2 hS1 hce hcv hcl
  · obtain ⟨hP1, hD1⟩ := hB
    rw [ht] at hP1
    obtain ⟨hP2, hD2⟩ := va_join hP hD isC isR hC hR hn hdis hk1 hF hP1 hD1
    exact kk u H1 locs1 hw hP2 hD2 hS1
theorem cm_xq {S SX : Type} {post : Option Nat → S → Prop} {px : SX → Prop} {EX : String} {OUT : S → va_W} {OX : SX → va_W} (hr : vx_Run p l e R s m args below meth c H locs cells slots mc ms (F0 m pc ls st0) rest (va_Qq post (cmB D wc H.size OUT) (va_A wc H.size) a) (vx_X px (cmBX D wc H.size EX OX) (va_A wc H.size)) (va_A wc H.size)) (hP : va_P D vwCl ws H) (hD : va_D A ws) (hS : va_S A H0 H locs) (hA : ∀ q, H0.size ≤ q → A q) (isC isR : List Nat) (hC : isC.map (fun i => ws[i]?) = wc.map some) (hR : isR.map (fun i => ws[i]?) = wr.map some) (hn : va_nd isR = true) (hdis : ∀ i ∈ isR, i ∉ isC)
    (kx : ∀ (E : String) (ce : Cell) (q9 : Addr) (u : SX) (H1 : Heap) (locs1 : List Loc), px u → E = EX → va_P D vwCl (wr ++ OX u) H1 → va_D A (wr ++ OX u) → va_S A H0 H1 locs1 → H1[q9]? = some ce → ce.vm = .none → s.vm.findClass E = some ce.cls → vx_W p l e R s m args below meth c H1 locs1 (cells + mc) (slots + ms) Q (F0 m pc ls rest) q9)
    (kk : ∀ (r : Option Nat) (u : S) (H1 : Heap) (locs1 : List Loc), post r u → va_P D vwCl (wr ++ OUT u) H1 → va_D A (wr ++ OUT u) → va_S A H0 H1 locs1 → W p l e R s m args below meth c H1 locs1 (cells + mc) (slots + ms) Q (F0 m (pc + 3) ls (va_rf r :: rest))) : W p l e R s m args below meth c H locs cells slots Q (F0 m pc ls st0) := by
  have hF := va_free hD hS hA isC hC
  refine vx_callq hr hS (fun q _ h => hF q h) hF (fun q _ h => hF q h) (fun E ce q9 u t H1 locs1 ht hvm hu hB hz1 hk1 hS1 hce hcv hcl => ?_) (fun r u t H1 locs1 ht hvm hw hB hz1 hk1 hS1 => ?_)
  · obtain ⟨hE, hP1, hD1⟩ := hB
    rw [ht] at hP1
    obtain ⟨hP2, hD2⟩ := va_join hP hD isC isR hC hR hn hdis hk1 hF hP1 hD1
    exact kx E ce q9 u H1 locs1 hu hE hP2 hD2 hS1 hce hcv hcl
  · obtain ⟨hP1, hD1⟩ := hB
    rw [ht] at hP1
    obtain ⟨hP2, hD2⟩ := va_join hP hD isC isR hC hR hn hdis hk1 hF hP1 hD1
    exact kk r u H1 locs1 hw hP2 hD2 hS1
end CM
end
section
/-! words of the tables, by name -/
theorem cm_t1 : ∀ w ∈ tables_1_1, w ∈ tables_1 := fun _ h => List.mem_append_left _ h
theorem cm_t2 : ∀ w ∈ tables_1_2, w ∈ tables_1 := fun _ h => List.mem_append_right _ (List.mem_append_left _ h)
theorem cm_t3 : ∀ w ∈ tables_1_3, w ∈ tables_1 := fun _ h => List.mem_append_right _ (List.mem_append_right _ (List.mem_append_left _ h))
theorem cm_t4 : ∀ w ∈ tables_1_4, w ∈ tables_1 := fun _ h => List.mem_append_right _ (List.mem_append_right _ (List.mem_append_right _ (List.mem_append_left _ h)))
theorem cm_t5 : ∀ w ∈ tables_1_5, w ∈ tables_1 := fun _ h => List.mem_append_right _ (List.mem_append_right _ (List.mem_append_right _ (List.mem_append_right _ (List.mem_append_left _ h))))
theorem cm_t6 : ∀ w ∈ tables_1_6, w ∈ tables_1 := fun _ h => List.mem_append_right _ (List.mem_append_right _ (List.mem_append_right _ (List.mem_append_right _ (List.mem_append_right _ (List.mem_append_left _ h)))))
theorem cm_t7 : ∀ w ∈ tables_1_7, w ∈ tables_1 := fun _ h => List.mem_append_right _ (List.mem_append_right _ (List.mem_append_right _ (List.mem_append_right _ (List.mem_append_right _ (List.mem_append_right _ (List.mem_append_left _ h))))))
theorem cm_t8 : ∀ w ∈ tables_1_8, w ∈ tables_1 := fun _ h => List.mem_append_right _ (List.mem_append_right _ (List.mem_append_right _ (List.mem_append_right _ (List.mem_append_right _ (List.mem_append_right _ (List.mem_append_right _ (List.mem_append_left _ h)))))))
theorem cm_t9 : ∀ w ∈ tables_1_9, w ∈ tables_1 := fun _ h => List.mem_append_right _ (List.mem_append_right _ (List.mem_append_right _ (List.mem_append_right _ (List.mem_append_right _ (List.mem_append_right _ (List.mem_append_right _ (List.mem_append_right _ (h))))))))
theorem cm_sel {q : MethodName × Nat} (h : q ∈ lw_privs) : Cond.selects q.1.cls q.1 q.1 ∈ cm_all := cm_in (List.mem_append_left _ (List.mem_map.mpr ⟨q, h, rfl⟩)) rfl
theorem cm_p1 : ∀ q ∈ lw_privs_1, q ∈ lw_privs := fun _ h => List.mem_append_left _ h
theorem cm_p2 : ∀ q ∈ lw_privs_2, q ∈ lw_privs := fun _ h => List.mem_append_right _ (List.mem_append_left _ h)
theorem cm_p3 : ∀ q ∈ lw_privs_3, q ∈ lw_privs := fun _ h => List.mem_append_right _ (List.mem_append_right _ (List.mem_append_left _ h))
theorem cm_p4 : ∀ q ∈ lw_privs_4, q ∈ lw_privs := fun _ h => List.mem_append_right _ (List.mem_append_right _ (List.mem_append_right _ (List.mem_append_left _ h)))
theorem cm_p5 : ∀ q ∈ lw_privs_5, q ∈ lw_privs := fun _ h => List.mem_append_right _ (List.mem_append_right _ (List.mem_append_right _ (List.mem_append_right _ (List.mem_append_left _ h))))
theorem cm_p6 : ∀ q ∈ lw_privs_6, q ∈ lw_privs := fun _ h => List.mem_append_right _ (List.mem_append_right _ (List.mem_append_right _ (List.mem_append_right _ (List.mem_append_right _ (List.mem_append_left _ h)))))
theorem cm_p7 : ∀ q ∈ lw_privs_7, q ∈ lw_privs := fun _ h => List.mem_append_right _ (List.mem_append_right _ (List.mem_append_right _ (List.mem_append_right _ (List.mem_append_right _ (List.mem_append_right _ (List.mem_append_left _ h))))))
theorem cm_p8 : ∀ q ∈ lw_privs_8, q ∈ lw_privs := fun _ h => List.mem_append_right _ (List.mem_append_right _ (List.mem_append_right _ (List.mem_append_right _ (List.mem_append_right _ (List.mem_append_right _ (List.mem_append_right _ (List.mem_append_left _ h)))))))
theorem cm_p9 : ∀ q ∈ lw_privs_9, q ∈ lw_privs := fun _ h => List.mem_append_right _ (List.mem_append_right _ (List.mem_append_right _ (List.mem_append_right _ (List.mem_append_right _ (List.mem_append_right _ (List.mem_append_right _ (List.mem_append_right _ (List.mem_append_left _ h))))))))
theorem cm_p10 : ∀ q ∈ lw_privs_10, q ∈ lw_privs := fun _ h => List.mem_append_right _ (List.mem_append_right _ (List.mem_append_right _ (List.mem_append_right _ (List.mem_append_right _ (List.mem_append_right _ (List.mem_append_right _ (List.mem_append_right _ (List.mem_append_right _ (h)))))))))
theorem ki_RL : Cond.initialized RL ∈ cm_all := cm_inT (cm_t1 _ (List.mem_of_getElem? (i := 0) (by decide +kernel))) rfl
theorem ki_RX10 : Cond.initialized RX10 ∈ cm_all := cm_inT (cm_t1 _ (List.mem_of_getElem? (i := 1) (by decide +kernel))) rfl
theorem ki_RX9 : Cond.initialized RX9 ∈ cm_all := cm_inT (cm_t1 _ (List.mem_of_getElem? (i := 2) (by decide +kernel))) rfl
theorem ki_RX7 : Cond.initialized RX7 ∈ cm_all := cm_inT (cm_t1 _ (List.mem_of_getElem? (i := 3) (by decide +kernel))) rfl
theorem ki_RX2 : Cond.initialized RX2 ∈ cm_all := cm_inT (cm_t1 _ (List.mem_of_getElem? (i := 4) (by decide +kernel))) rfl
theorem ki_RX5 : Cond.initialized RX5 ∈ cm_all := cm_inT (cm_t1 _ (List.mem_of_getElem? (i := 5) (by decide +kernel))) rfl
theorem ki_RX1 : Cond.initialized RX1 ∈ cm_all := cm_inT (cm_t1 _ (List.mem_of_getElem? (i := 6) (by decide +kernel))) rfl
theorem ki_RX0 : Cond.initialized RX0 ∈ cm_all := cm_inT (cm_t1 _ (List.mem_of_getElem? (i := 7) (by decide +kernel))) rfl
theorem ki_RX3 : Cond.initialized RX3 ∈ cm_all := cm_inT (cm_t1 _ (List.mem_of_getElem? (i := 8) (by decide +kernel))) rfl
theorem ki_RX4 : Cond.initialized RX4 ∈ cm_all := cm_inT (cm_t1 _ (List.mem_of_getElem? (i := 9) (by decide +kernel))) rfl
theorem ki_RX8 : Cond.initialized RX8 ∈ cm_all := cm_inT (cm_t1 _ (List.mem_of_getElem? (i := 10) (by decide +kernel))) rfl
theorem ki_RJ9 : Cond.initialized RJ9 ∈ cm_all := cm_inT (cm_t1 _ (List.mem_of_getElem? (i := 11) (by decide +kernel))) rfl
theorem ki_RX11 : Cond.initialized RX11 ∈ cm_all := cm_inT (cm_t1 _ (List.mem_of_getElem? (i := 12) (by decide +kernel))) rfl
theorem ki_RX6 : Cond.initialized RX6 ∈ cm_all := cm_inT (cm_t1 _ (List.mem_of_getElem? (i := 13) (by decide +kernel))) rfl
theorem ki_RJ0 : Cond.initialized RJ0 ∈ cm_all := cm_inT (cm_t1 _ (List.mem_of_getElem? (i := 14) (by decide +kernel))) rfl
theorem ki_RJ1 : Cond.initialized RJ1 ∈ cm_all := cm_inT (cm_t1 _ (List.mem_of_getElem? (i := 15) (by decide +kernel))) rfl
theorem ki_RJ3 : Cond.initialized RJ3 ∈ cm_all := cm_inT (cm_t1 _ (List.mem_of_getElem? (i := 16) (by decide +kernel))) rfl
theorem ki_RJ2 : Cond.initialized RJ2 ∈ cm_all := cm_inT (cm_t1 _ (List.mem_of_getElem? (i := 17) (by decide +kernel))) rfl
theorem ki_RJ10 : Cond.initialized RJ10 ∈ cm_all := cm_inT (cm_t1 _ (List.mem_of_getElem? (i := 18) (by decide +kernel))) rfl
theorem ki_java_lang_Throwable : Cond.initialized "java/lang/Throwable" ∈ cm_all := cm_inT (cm_t1 _ (List.mem_of_getElem? (i := 19) (by decide +kernel))) rfl
theorem ki_java_lang_Exception : Cond.initialized "java/lang/Exception" ∈ cm_all := cm_inT (cm_t1 _ (List.mem_of_getElem? (i := 20) (by decide +kernel))) rfl
theorem ki_java_lang_RuntimeException : Cond.initialized "java/lang/RuntimeException" ∈ cm_all := cm_inT (cm_t1 _ (List.mem_of_getElem? (i := 21) (by decide +kernel))) rfl
theorem ki_java_lang_IllegalArgumentException : Cond.initialized "java/lang/IllegalArgumentException" ∈ cm_all := cm_inT (cm_t1 _ (List.mem_of_getElem? (i := 22) (by decide +kernel))) rfl
theorem ki_java_lang_IndexOutOfBoundsException : Cond.initialized "java/lang/IndexOutOfBoundsException" ∈ cm_all := cm_inT (cm_t1 _ (List.mem_of_getElem? (i := 23) (by decide +kernel))) rfl
theorem ki_RJ6 : Cond.initialized RJ6 ∈ cm_all := cm_inT (cm_t1 _ (List.mem_of_getElem? (i := 24) (by decide +kernel))) rfl
theorem kl_RL_8 : Cond.classLink RL 8 RX10 ∈ cm_all := cm_inT (cm_t1 _ (List.mem_of_getElem? (i := 25) (by decide +kernel))) rfl
theorem kn_RX10 : Cond.instantiable RX10 6 ∈ cm_all := cm_inT (cm_t1 _ (List.mem_of_getElem? (i := 26) (by decide +kernel))) rfl
theorem kl_RL_172 : Cond.methodLink RL 172 yX10_init ∈ cm_all := cm_inT (cm_t1 _ (List.mem_of_getElem? (i := 27) (by decide +kernel))) rfl
theorem kv_X10_init : Cond.instanceMethod yX10_init ∈ cm_all := cm_inT (cm_t1 _ (List.mem_of_getElem? (i := 28) (by decide +kernel))) rfl
theorem kc_X10_init : Cond.code yX10_init cX10_init 1 none ∈ cm_all := cm_inT (cm_t1 _ (List.mem_of_getElem? (i := 29) (by decide +kernel))) rfl
theorem kl_RX10_1 : Cond.methodLink RX10 1 ⟨"java/lang/Object", "<init>", "()V"⟩ ∈ cm_all := cm_inT (cm_t1 _ (List.mem_of_getElem? (i := 30) (by decide +kernel))) rfl
theorem kv_java_lang_Object_init : Cond.instanceMethod ⟨"java/lang/Object", "<init>", "()V"⟩ ∈ cm_all := cm_inT (cm_t1 _ (List.mem_of_getElem? (i := 31) (by decide +kernel))) rfl
theorem kc_java_lang_Object_init : Cond.code ⟨"java/lang/Object", "<init>", "()V"⟩ object_method_1_code 1 none ∈ cm_all := cm_inT (cm_t1 _ (List.mem_of_getElem? (i := 32) (by decide +kernel))) rfl
theorem kl_RX10_7 : Cond.classLink RX10 7 RX9 ∈ cm_all := cm_inT (cm_t1 _ (List.mem_of_getElem? (i := 33) (by decide +kernel))) rfl
theorem kn_RX9 : Cond.instantiable RX9 8 ∈ cm_all := cm_inT (cm_t1 _ (List.mem_of_getElem? (i := 34) (by decide +kernel))) rfl
theorem kl_RX10_9 : Cond.methodLinkNest RX10 9 yX9_init "CellCycler" ∈ cm_all := cm_inT (cm_t1 _ (List.mem_of_getElem? (i := 35) (by decide +kernel))) rfl
theorem kv_X9_init : Cond.instanceMethod yX9_init ∈ cm_all := cm_inT (cm_t1 _ (List.mem_of_getElem? (i := 36) (by decide +kernel))) rfl
theorem kc_X9_init : Cond.code yX9_init cX9_init 2 none ∈ cm_all := cm_inT (cm_t1 _ (List.mem_of_getElem? (i := 37) (by decide +kernel))) rfl
theorem kl_RX9_3 : Cond.methodLink RX9 3 ⟨"java/lang/Object", "<init>", "()V"⟩ ∈ cm_all := cm_inT (cm_t1 _ (List.mem_of_getElem? (i := 38) (by decide +kernel))) rfl
theorem kl_RX9_9 : Cond.classLink RX9 9 RX7 ∈ cm_all := cm_inT (cm_t1 _ (List.mem_of_getElem? (i := 39) (by decide +kernel))) rfl
theorem kn_RX7 : Cond.instantiable RX7 12 ∈ cm_all := cm_inT (cm_t1 _ (List.mem_of_getElem? (i := 40) (by decide +kernel))) rfl
theorem kl_RX9_11 : Cond.methodLinkNest RX9 11 yX7_init "CellCycler" ∈ cm_all := cm_inT (cm_t1 _ (List.mem_of_getElem? (i := 41) (by decide +kernel))) rfl
theorem kv_X7_init : Cond.instanceMethod yX7_init ∈ cm_all := cm_inT (cm_t1 _ (List.mem_of_getElem? (i := 42) (by decide +kernel))) rfl
theorem kc_X7_init : Cond.code yX7_init cX7_init 1 none ∈ cm_all := cm_inT (cm_t1 _ (List.mem_of_getElem? (i := 43) (by decide +kernel))) rfl
theorem kl_RX7_1 : Cond.methodLink RX7 1 ⟨"java/lang/Object", "<init>", "()V"⟩ ∈ cm_all := cm_inT (cm_t1 _ (List.mem_of_getElem? (i := 44) (by decide +kernel))) rfl
theorem kl_RX7_7 : Cond.methodLink RX7 7 yX7_clear ∈ cm_all := cm_inT (cm_t1 _ (List.mem_of_getElem? (i := 45) (by decide +kernel))) rfl
theorem kv_X7_clear : Cond.instanceMethod yX7_clear ∈ cm_all := cm_inT (cm_t1 _ (List.mem_of_getElem? (i := 47) (by decide +kernel))) rfl
theorem kc_X7_clear : Cond.code yX7_clear cX7_clear 1 none ∈ cm_all := cm_inT (cm_t1 _ (List.mem_of_getElem? (i := 48) (by decide +kernel))) rfl
theorem kl_RX7_16 : Cond.constant RX7 16 (100000) ∈ cm_all := cm_inT (cm_t1 _ (List.mem_of_getElem? (i := 49) (by decide +kernel))) rfl
theorem kl_RX7_12 : Cond.fieldLink RX7 12 "CellCycler$Settings" "efficiency" "I" ∈ cm_all := cm_inT (cm_t1 _ (List.mem_of_getElem? (i := 50) (by decide +kernel))) rfl
theorem kl_RX6_78 : Cond.fieldLinkNest RX6 78 "CellCycler$Settings" "efficiency" "I" "CellCycler" ∈ cm_all := cm_inT (cm_t1 _ (List.mem_of_getElem? (i := 51) (by decide +kernel))) rfl
theorem kl_RX10_99 : Cond.fieldLinkNest RX10 99 "CellCycler$Settings" "efficiency" "I" "CellCycler" ∈ cm_all := cm_inT (cm_t1 _ (List.mem_of_getElem? (i := 52) (by decide +kernel))) rfl
theorem kl_RX0_143 : Cond.fieldLinkNest RX0 143 "CellCycler$Settings" "efficiency" "I" "CellCycler" ∈ cm_all := cm_inT (cm_t1 _ (List.mem_of_getElem? (i := 53) (by decide +kernel))) rfl
theorem kl_RX7_17 : Cond.fieldLink RX7 17 "CellCycler$Settings" "fade" "I" ∈ cm_all := cm_inT (cm_t1 _ (List.mem_of_getElem? (i := 54) (by decide +kernel))) rfl
theorem kl_RX6_85 : Cond.fieldLinkNest RX6 85 "CellCycler$Settings" "fade" "I" "CellCycler" ∈ cm_all := cm_inT (cm_t1 _ (List.mem_of_getElem? (i := 55) (by decide +kernel))) rfl
theorem kl_RX10_104 : Cond.fieldLinkNest RX10 104 "CellCycler$Settings" "fade" "I" "CellCycler" ∈ cm_all := cm_inT (cm_t1 _ (List.mem_of_getElem? (i := 56) (by decide +kernel))) rfl
theorem kl_RX0_151 : Cond.fieldLinkNest RX0 151 "CellCycler$Settings" "fade" "I" "CellCycler" ∈ cm_all := cm_inT (cm_t1 _ (List.mem_of_getElem? (i := 57) (by decide +kernel))) rfl
theorem kl_RX7_20 : Cond.fieldLink RX7 20 "CellCycler$Settings" "heat" "I" ∈ cm_all := cm_inT (cm_t1 _ (List.mem_of_getElem? (i := 58) (by decide +kernel))) rfl
theorem kl_RX6_89 : Cond.fieldLinkNest RX6 89 "CellCycler$Settings" "heat" "I" "CellCycler" ∈ cm_all := cm_inT (cm_t1 _ (List.mem_of_getElem? (i := 59) (by decide +kernel))) rfl
theorem kl_RX10_107 : Cond.fieldLinkNest RX10 107 "CellCycler$Settings" "heat" "I" "CellCycler" ∈ cm_all := cm_inT (cm_t1 _ (List.mem_of_getElem? (i := 60) (by decide +kernel))) rfl
theorem kl_RX0_163 : Cond.fieldLinkNest RX0 163 "CellCycler$Settings" "heat" "I" "CellCycler" ∈ cm_all := cm_inT (cm_t1 _ (List.mem_of_getElem? (i := 61) (by decide +kernel))) rfl
theorem kl_RX7_23 : Cond.fieldLink RX7 23 "CellCycler$Settings" "cool" "I" ∈ cm_all := cm_inT (cm_t1 _ (List.mem_of_getElem? (i := 62) (by decide +kernel))) rfl
theorem kl_RX6_96 : Cond.fieldLinkNest RX6 96 "CellCycler$Settings" "cool" "I" "CellCycler" ∈ cm_all := cm_inT (cm_t1 _ (List.mem_of_getElem? (i := 63) (by decide +kernel))) rfl
theorem kl_RX10_110 : Cond.fieldLinkNest RX10 110 "CellCycler$Settings" "cool" "I" "CellCycler" ∈ cm_all := cm_inT (cm_t1 _ (List.mem_of_getElem? (i := 64) (by decide +kernel))) rfl
theorem kl_RX0_160 : Cond.fieldLinkNest RX0 160 "CellCycler$Settings" "cool" "I" "CellCycler" ∈ cm_all := cm_inT (cm_t1 _ (List.mem_of_getElem? (i := 65) (by decide +kernel))) rfl
theorem kl_RX7_26 : Cond.fieldLink RX7 26 "CellCycler$Settings" "low" "I" ∈ cm_all := cm_inT (cm_t1 _ (List.mem_of_getElem? (i := 66) (by decide +kernel))) rfl
theorem kl_RX6_101 : Cond.fieldLinkNest RX6 101 "CellCycler$Settings" "low" "I" "CellCycler" ∈ cm_all := cm_inT (cm_t1 _ (List.mem_of_getElem? (i := 67) (by decide +kernel))) rfl
theorem kl_RX10_113 : Cond.fieldLinkNest RX10 113 "CellCycler$Settings" "low" "I" "CellCycler" ∈ cm_all := cm_inT (cm_t1 _ (List.mem_of_getElem? (i := 68) (by decide +kernel))) rfl
theorem kl_RX1_225 : Cond.fieldLinkNest RX1 225 "CellCycler$Settings" "low" "I" "CellCycler" ∈ cm_all := cm_inT (cm_t1 _ (List.mem_of_getElem? (i := 69) (by decide +kernel))) rfl
theorem kl_RX7_29 : Cond.fieldLink RX7 29 "CellCycler$Settings" "high" "I" ∈ cm_all := cm_inT (cm_t1 _ (List.mem_of_getElem? (i := 70) (by decide +kernel))) rfl
theorem kl_RX6_104 : Cond.fieldLinkNest RX6 104 "CellCycler$Settings" "high" "I" "CellCycler" ∈ cm_all := cm_inT (cm_t1 _ (List.mem_of_getElem? (i := 71) (by decide +kernel))) rfl
theorem kl_RX10_116 : Cond.fieldLinkNest RX10 116 "CellCycler$Settings" "high" "I" "CellCycler" ∈ cm_all := cm_inT (cm_t1 _ (List.mem_of_getElem? (i := 72) (by decide +kernel))) rfl
theorem kl_RX1_222 : Cond.fieldLinkNest RX1 222 "CellCycler$Settings" "high" "I" "CellCycler" ∈ cm_all := cm_inT (cm_t1 _ (List.mem_of_getElem? (i := 73) (by decide +kernel))) rfl
theorem kl_RX7_32 : Cond.fieldLink RX7 32 "CellCycler$Settings" "hot" "I" ∈ cm_all := cm_inT (cm_t1 _ (List.mem_of_getElem? (i := 74) (by decide +kernel))) rfl
theorem kl_RX6_107 : Cond.fieldLinkNest RX6 107 "CellCycler$Settings" "hot" "I" "CellCycler" ∈ cm_all := cm_inT (cm_t1 _ (List.mem_of_getElem? (i := 75) (by decide +kernel))) rfl
theorem kl_RX10_119 : Cond.fieldLinkNest RX10 119 "CellCycler$Settings" "hot" "I" "CellCycler" ∈ cm_all := cm_inT (cm_t1 _ (List.mem_of_getElem? (i := 76) (by decide +kernel))) rfl
theorem kl_RX0_103 : Cond.fieldLinkNest RX0 103 "CellCycler$Settings" "hot" "I" "CellCycler" ∈ cm_all := cm_inT (cm_t1 _ (List.mem_of_getElem? (i := 77) (by decide +kernel))) rfl
theorem kl_RX1_228 : Cond.fieldLinkNest RX1 228 "CellCycler$Settings" "hot" "I" "CellCycler" ∈ cm_all := cm_inT (cm_t1 _ (List.mem_of_getElem? (i := 78) (by decide +kernel))) rfl
theorem kl_RX7_35 : Cond.fieldLink RX7 35 "CellCycler$Settings" "ambient" "I" ∈ cm_all := cm_inT (cm_t1 _ (List.mem_of_getElem? (i := 79) (by decide +kernel))) rfl
theorem kl_RX6_112 : Cond.fieldLinkNest RX6 112 "CellCycler$Settings" "ambient" "I" "CellCycler" ∈ cm_all := cm_inT (cm_t1 _ (List.mem_of_getElem? (i := 80) (by decide +kernel))) rfl
theorem kl_RX9_84 : Cond.fieldLinkNest RX9 84 "CellCycler$Settings" "ambient" "I" "CellCycler" ∈ cm_all := cm_inT (cm_t1 _ (List.mem_of_getElem? (i := 81) (by decide +kernel))) rfl
theorem kl_RX10_122 : Cond.fieldLinkNest RX10 122 "CellCycler$Settings" "ambient" "I" "CellCycler" ∈ cm_all := cm_inT (cm_t1 _ (List.mem_of_getElem? (i := 82) (by decide +kernel))) rfl
theorem kl_RX0_157 : Cond.fieldLinkNest RX0 157 "CellCycler$Settings" "ambient" "I" "CellCycler" ∈ cm_all := cm_inT (cm_t1 _ (List.mem_of_getElem? (i := 83) (by decide +kernel))) rfl
theorem kl_RX7_38 : Cond.fieldLink RX7 38 "CellCycler$Settings" "warnLow" "I" ∈ cm_all := cm_inT (cm_t1 _ (List.mem_of_getElem? (i := 84) (by decide +kernel))) rfl
theorem kl_RX6_116 : Cond.fieldLinkNest RX6 116 "CellCycler$Settings" "warnLow" "I" "CellCycler" ∈ cm_all := cm_inT (cm_t1 _ (List.mem_of_getElem? (i := 85) (by decide +kernel))) rfl
theorem kl_RX1_213 : Cond.fieldLinkNest RX1 213 "CellCycler$Settings" "warnLow" "I" "CellCycler" ∈ cm_all := cm_inT (cm_t1 _ (List.mem_of_getElem? (i := 86) (by decide +kernel))) rfl
theorem kl_RX7_41 : Cond.fieldLink RX7 41 "CellCycler$Settings" "warnHigh" "I" ∈ cm_all := cm_inT (cm_t1 _ (List.mem_of_getElem? (i := 87) (by decide +kernel))) rfl
theorem kl_RX6_119 : Cond.fieldLinkNest RX6 119 "CellCycler$Settings" "warnHigh" "I" "CellCycler" ∈ cm_all := cm_inT (cm_t1 _ (List.mem_of_getElem? (i := 88) (by decide +kernel))) rfl
theorem kl_RX1_208 : Cond.fieldLinkNest RX1 208 "CellCycler$Settings" "warnHigh" "I" "CellCycler" ∈ cm_all := cm_inT (cm_t1 _ (List.mem_of_getElem? (i := 89) (by decide +kernel))) rfl
theorem kl_RX7_44 : Cond.fieldLink RX7 44 "CellCycler$Settings" "warnHot" "I" ∈ cm_all := cm_inT (cm_t1 _ (List.mem_of_getElem? (i := 90) (by decide +kernel))) rfl
theorem kl_RX6_122 : Cond.fieldLinkNest RX6 122 "CellCycler$Settings" "warnHot" "I" "CellCycler" ∈ cm_all := cm_inT (cm_t1 _ (List.mem_of_getElem? (i := 91) (by decide +kernel))) rfl
theorem kl_RX1_216 : Cond.fieldLinkNest RX1 216 "CellCycler$Settings" "warnHot" "I" "CellCycler" ∈ cm_all := cm_inT (cm_t1 _ (List.mem_of_getElem? (i := 92) (by decide +kernel))) rfl
theorem kl_RX7_47 : Cond.fieldLink RX7 47 "CellCycler$Settings" "span" "I" ∈ cm_all := cm_inT (cm_t1 _ (List.mem_of_getElem? (i := 93) (by decide +kernel))) rfl
theorem kl_RX6_127 : Cond.fieldLinkNest RX6 127 "CellCycler$Settings" "span" "I" "CellCycler" ∈ cm_all := cm_inT (cm_t1 _ (List.mem_of_getElem? (i := 94) (by decide +kernel))) rfl
theorem kl_RX0_98 : Cond.fieldLinkNest RX0 98 "CellCycler$Settings" "span" "I" "CellCycler" ∈ cm_all := cm_inT (cm_t1 _ (List.mem_of_getElem? (i := 95) (by decide +kernel))) rfl
theorem kl_RX10_143 : Cond.fieldLinkNest RX10 143 "CellCycler$Settings" "span" "I" "CellCycler" ∈ cm_all := cm_inT (cm_t1 _ (List.mem_of_getElem? (i := 96) (by decide +kernel))) rfl
theorem kl_RX9_18 : Cond.classLink RX9 18 RX2 ∈ cm_all := cm_inT (cm_t1 _ (List.mem_of_getElem? (i := 122) (by decide +kernel))) rfl
theorem kn_RX2 : Cond.instantiable RX2 4 ∈ cm_all := cm_inT (cm_t1 _ (List.mem_of_getElem? (i := 123) (by decide +kernel))) rfl
theorem kl_RX9_20 : Cond.methodLinkNest RX9 20 yX2_init "CellCycler" ∈ cm_all := cm_inT (cm_t1 _ (List.mem_of_getElem? (i := 124) (by decide +kernel))) rfl
theorem kv_X2_init : Cond.instanceMethod yX2_init ∈ cm_all := cm_inT (cm_t1 _ (List.mem_of_getElem? (i := 125) (by decide +kernel))) rfl
theorem kc_X2_init : Cond.code yX2_init cX2_init 1 none ∈ cm_all := cm_inT (cm_t1 _ (List.mem_of_getElem? (i := 126) (by decide +kernel))) rfl
theorem kl_RX2_3 : Cond.methodLink RX2 3 ⟨"java/lang/Object", "<init>", "()V"⟩ ∈ cm_all := cm_inT (cm_t1 _ (List.mem_of_getElem? (i := 127) (by decide +kernel))) rfl
theorem kl_RX2_22 : Cond.fieldLink RX2 22 "CellCycler$Curves" "count" "I" ∈ cm_all := cm_inT (cm_t1 _ (List.mem_of_getElem? (i := 128) (by decide +kernel))) rfl
theorem kl_RX9_60 : Cond.fieldLinkNest RX9 60 "CellCycler$Curves" "count" "I" "CellCycler" ∈ cm_all := cm_inT (cm_t1 _ (List.mem_of_getElem? (i := 129) (by decide +kernel))) rfl
theorem kl_RX6_137 : Cond.fieldLinkNest RX6 137 "CellCycler$Curves" "count" "I" "CellCycler" ∈ cm_all := cm_inT (cm_t1 _ (List.mem_of_getElem? (i := 130) (by decide +kernel))) rfl
theorem kl_RX10_94 : Cond.fieldLinkNest RX10 94 "CellCycler$Curves" "count" "I" "CellCycler" ∈ cm_all := cm_inT (cm_t1 _ (List.mem_of_getElem? (i := 131) (by decide +kernel))) rfl
theorem kl_RX2_9 : Cond.fieldLink RX2 9 "CellCycler$Curves" "names" "[J" ∈ cm_all := cm_inT (cm_t1 _ (List.mem_of_getElem? (i := 132) (by decide +kernel))) rfl
theorem kl_RX2_15 : Cond.fieldLink RX2 15 "CellCycler$Curves" "points" "[I" ∈ cm_all := cm_inT (cm_t1 _ (List.mem_of_getElem? (i := 133) (by decide +kernel))) rfl
theorem kl_RX0_22 : Cond.fieldLinkNest RX0 22 "CellCycler$Curves" "points" "[I" "CellCycler" ∈ cm_all := cm_inT (cm_t1 _ (List.mem_of_getElem? (i := 134) (by decide +kernel))) rfl
theorem kl_RX2_19 : Cond.fieldLink RX2 19 "CellCycler$Curves" "voltages" "[I" ∈ cm_all := cm_inT (cm_t1 _ (List.mem_of_getElem? (i := 135) (by decide +kernel))) rfl
theorem ka_long : Cond.arrayClass .long ∈ cm_all := cm_inT (cm_t1 _ (List.mem_of_getElem? (i := 145) (by decide +kernel))) rfl
theorem ka_int : Cond.arrayClass .int ∈ cm_all := cm_inT (cm_t1 _ (List.mem_of_getElem? (i := 146) (by decide +kernel))) rfl
theorem kl_RX9_25 : Cond.classLink RX9 25 RX5 ∈ cm_all := cm_inT (cm_t1 _ (List.mem_of_getElem? (i := 147) (by decide +kernel))) rfl
theorem kn_RX5 : Cond.instantiable RX5 5 ∈ cm_all := cm_inT (cm_t1 _ (List.mem_of_getElem? (i := 148) (by decide +kernel))) rfl
theorem kl_RX9_27 : Cond.methodLinkNest RX9 27 yX5_init "CellCycler" ∈ cm_all := cm_inT (cm_t1 _ (List.mem_of_getElem? (i := 149) (by decide +kernel))) rfl
theorem kv_X5_init : Cond.instanceMethod yX5_init ∈ cm_all := cm_inT (cm_t1 _ (List.mem_of_getElem? (i := 150) (by decide +kernel))) rfl
theorem kc_X5_init : Cond.code yX5_init cX5_init 1 none ∈ cm_all := cm_inT (cm_t1 _ (List.mem_of_getElem? (i := 151) (by decide +kernel))) rfl
theorem kl_RX5_3 : Cond.methodLink RX5 3 ⟨"java/lang/Object", "<init>", "()V"⟩ ∈ cm_all := cm_inT (cm_t1 _ (List.mem_of_getElem? (i := 152) (by decide +kernel))) rfl
theorem kl_RX5_24 : Cond.fieldLink RX5 24 "CellCycler$Programs" "count" "I" ∈ cm_all := cm_inT (cm_t1 _ (List.mem_of_getElem? (i := 153) (by decide +kernel))) rfl
theorem kl_RX9_63 : Cond.fieldLinkNest RX9 63 "CellCycler$Programs" "count" "I" "CellCycler" ∈ cm_all := cm_inT (cm_t1 _ (List.mem_of_getElem? (i := 154) (by decide +kernel))) rfl
theorem kl_RX6_197 : Cond.fieldLinkNest RX6 197 "CellCycler$Programs" "count" "I" "CellCycler" ∈ cm_all := cm_inT (cm_t1 _ (List.mem_of_getElem? (i := 155) (by decide +kernel))) rfl
theorem kl_RX10_89 : Cond.fieldLinkNest RX10 89 "CellCycler$Programs" "count" "I" "CellCycler" ∈ cm_all := cm_inT (cm_t1 _ (List.mem_of_getElem? (i := 156) (by decide +kernel))) rfl
theorem kl_RX5_9 : Cond.fieldLink RX5 9 "CellCycler$Programs" "steps" "[I" ∈ cm_all := cm_inT (cm_t1 _ (List.mem_of_getElem? (i := 157) (by decide +kernel))) rfl
theorem kl_RX5_15 : Cond.fieldLink RX5 15 "CellCycler$Programs" "kinds" "[I" ∈ cm_all := cm_inT (cm_t1 _ (List.mem_of_getElem? (i := 158) (by decide +kernel))) rfl
theorem kl_RX5_18 : Cond.fieldLink RX5 18 "CellCycler$Programs" "firsts" "[I" ∈ cm_all := cm_inT (cm_t1 _ (List.mem_of_getElem? (i := 159) (by decide +kernel))) rfl
theorem kl_RX5_21 : Cond.fieldLink RX5 21 "CellCycler$Programs" "seconds" "[I" ∈ cm_all := cm_inT (cm_t1 _ (List.mem_of_getElem? (i := 160) (by decide +kernel))) rfl
theorem kl_RX9_32 : Cond.classLink RX9 32 RX1 ∈ cm_all := cm_inT (cm_t1 _ (List.mem_of_getElem? (i := 172) (by decide +kernel))) rfl
theorem kao_RX1 : Cond.arrayOver (.object "CellCycler$Channel") ∈ cm_all := cm_inT (cm_t1 _ (List.mem_of_getElem? (i := 173) (by decide +kernel))) rfl
theorem kn_RX1 : Cond.instantiable RX1 14 ∈ cm_all := cm_inT (cm_t1 _ (List.mem_of_getElem? (i := 174) (by decide +kernel))) rfl
theorem kl_RX9_38 : Cond.methodLinkNest RX9 38 yX1_init "CellCycler" ∈ cm_all := cm_inT (cm_t1 _ (List.mem_of_getElem? (i := 175) (by decide +kernel))) rfl
theorem kv_X1_init : Cond.instanceMethod yX1_init ∈ cm_all := cm_inT (cm_t1 _ (List.mem_of_getElem? (i := 176) (by decide +kernel))) rfl
theorem kc_X1_init : Cond.code yX1_init cX1_init 2 none ∈ cm_all := cm_inT (cm_t1 _ (List.mem_of_getElem? (i := 177) (by decide +kernel))) rfl
theorem kl_RX1_3 : Cond.methodLink RX1 3 ⟨"java/lang/Object", "<init>", "()V"⟩ ∈ cm_all := cm_inT (cm_t1 _ (List.mem_of_getElem? (i := 178) (by decide +kernel))) rfl
theorem kl_RX1_15 : Cond.classLink RX1 15 RX0 ∈ cm_all := cm_inT (cm_t1 _ (List.mem_of_getElem? (i := 179) (by decide +kernel))) rfl
theorem kn_RX0 : Cond.instantiable RX0 16 ∈ cm_all := cm_inT (cm_t1 _ (List.mem_of_getElem? (i := 180) (by decide +kernel))) rfl
theorem kl_RX1_17 : Cond.methodLinkNest RX1 17 yX0_init "CellCycler" ∈ cm_all := cm_inT (cm_t1 _ (List.mem_of_getElem? (i := 181) (by decide +kernel))) rfl
theorem kv_X0_init : Cond.instanceMethod yX0_init ∈ cm_all := cm_inT (cm_t1 _ (List.mem_of_getElem? (i := 182) (by decide +kernel))) rfl
theorem kc_X0_init : Cond.code yX0_init cX0_init 1 none ∈ cm_all := cm_inT (cm_t1 _ (List.mem_of_getElem? (i := 183) (by decide +kernel))) rfl
theorem kl_RX0_3 : Cond.methodLink RX0 3 ⟨"java/lang/Object", "<init>", "()V"⟩ ∈ cm_all := cm_inT (cm_t1 _ (List.mem_of_getElem? (i := 184) (by decide +kernel))) rfl
theorem kl_RX0_15 : Cond.classLink RX0 15 RX3 ∈ cm_all := cm_inT (cm_t1 _ (List.mem_of_getElem? (i := 185) (by decide +kernel))) rfl
theorem kn_RX3 : Cond.instantiable RX3 4 ∈ cm_all := cm_inT (cm_t1 _ (List.mem_of_getElem? (i := 186) (by decide +kernel))) rfl
theorem kl_RX0_17 : Cond.methodLinkNest RX0 17 yX3_init "CellCycler" ∈ cm_all := cm_inT (cm_t1 _ (List.mem_of_getElem? (i := 187) (by decide +kernel))) rfl
theorem kv_X3_init : Cond.instanceMethod yX3_init ∈ cm_all := cm_inT (cm_t1 _ (List.mem_of_getElem? (i := 188) (by decide +kernel))) rfl
theorem kc_X3_init : Cond.code yX3_init cX3_init 1 none ∈ cm_all := cm_inT (cm_t1 _ (List.mem_of_getElem? (i := 189) (by decide +kernel))) rfl
theorem kl_RX3_1 : Cond.methodLink RX3 1 ⟨"java/lang/Object", "<init>", "()V"⟩ ∈ cm_all := cm_inT (cm_t1 _ (List.mem_of_getElem? (i := 190) (by decide +kernel))) rfl
theorem kl_RX3_7 : Cond.fieldLink RX3 7 "CellCycler$Ledger" "chargeIn" "J" ∈ cm_all := cm_inT (cm_t1 _ (List.mem_of_getElem? (i := 191) (by decide +kernel))) rfl
theorem kl_RX1_114 : Cond.fieldLinkNest RX1 114 "CellCycler$Ledger" "chargeIn" "J" "CellCycler" ∈ cm_all := cm_inT (cm_t1 _ (List.mem_of_getElem? (i := 192) (by decide +kernel))) rfl
theorem kl_RX0_140 : Cond.fieldLinkNest RX0 140 "CellCycler$Ledger" "chargeIn" "J" "CellCycler" ∈ cm_all := cm_inT (cm_t1 _ (List.mem_of_getElem? (i := 193) (by decide +kernel))) rfl
theorem kl_RX10_244 : Cond.fieldLinkNest RX10 244 "CellCycler$Ledger" "chargeIn" "J" "CellCycler" ∈ cm_all := cm_inT (cm_t1 _ (List.mem_of_getElem? (i := 194) (by decide +kernel))) rfl
theorem kl_RX3_13 : Cond.fieldLink RX3 13 "CellCycler$Ledger" "chargeOut" "J" ∈ cm_all := cm_inT (cm_t1 _ (List.mem_of_getElem? (i := 195) (by decide +kernel))) rfl
theorem kl_RX1_119 : Cond.fieldLinkNest RX1 119 "CellCycler$Ledger" "chargeOut" "J" "CellCycler" ∈ cm_all := cm_inT (cm_t1 _ (List.mem_of_getElem? (i := 196) (by decide +kernel))) rfl
theorem kl_RX0_148 : Cond.fieldLinkNest RX0 148 "CellCycler$Ledger" "chargeOut" "J" "CellCycler" ∈ cm_all := cm_inT (cm_t1 _ (List.mem_of_getElem? (i := 197) (by decide +kernel))) rfl
theorem kl_RX10_250 : Cond.fieldLinkNest RX10 250 "CellCycler$Ledger" "chargeOut" "J" "CellCycler" ∈ cm_all := cm_inT (cm_t1 _ (List.mem_of_getElem? (i := 198) (by decide +kernel))) rfl
theorem kl_RX3_16 : Cond.fieldLink RX3 16 "CellCycler$Ledger" "energyIn" "J" ∈ cm_all := cm_inT (cm_t1 _ (List.mem_of_getElem? (i := 199) (by decide +kernel))) rfl
theorem kl_RX0_122 : Cond.fieldLinkNest RX0 122 "CellCycler$Ledger" "energyIn" "J" "CellCycler" ∈ cm_all := cm_inT (cm_t1 _ (List.mem_of_getElem? (i := 200) (by decide +kernel))) rfl
theorem kl_RX10_256 : Cond.fieldLinkNest RX10 256 "CellCycler$Ledger" "energyIn" "J" "CellCycler" ∈ cm_all := cm_inT (cm_t1 _ (List.mem_of_getElem? (i := 201) (by decide +kernel))) rfl
theorem kl_RX3_19 : Cond.fieldLink RX3 19 "CellCycler$Ledger" "energyOut" "J" ∈ cm_all := cm_inT (cm_t1 _ (List.mem_of_getElem? (i := 202) (by decide +kernel))) rfl
theorem kl_RX0_126 : Cond.fieldLinkNest RX0 126 "CellCycler$Ledger" "energyOut" "J" "CellCycler" ∈ cm_all := cm_inT (cm_t1 _ (List.mem_of_getElem? (i := 203) (by decide +kernel))) rfl
theorem kl_RX10_259 : Cond.fieldLinkNest RX10 259 "CellCycler$Ledger" "energyOut" "J" "CellCycler" ∈ cm_all := cm_inT (cm_t1 _ (List.mem_of_getElem? (i := 204) (by decide +kernel))) rfl
theorem kl_RX0_9 : Cond.fieldLink RX0 9 "CellCycler$Cell" "curve" "[I" ∈ cm_all := cm_inT (cm_t1 _ (List.mem_of_getElem? (i := 214) (by decide +kernel))) rfl
theorem kl_RX0_31 : Cond.fieldLink RX0 31 "CellCycler$Cell" "points" "I" ∈ cm_all := cm_inT (cm_t1 _ (List.mem_of_getElem? (i := 215) (by decide +kernel))) rfl
theorem kl_RX0_48 : Cond.fieldLink RX0 48 "CellCycler$Cell" "nominal" "I" ∈ cm_all := cm_inT (cm_t1 _ (List.mem_of_getElem? (i := 216) (by decide +kernel))) rfl
theorem kl_RX9_79 : Cond.fieldLinkNest RX9 79 "CellCycler$Cell" "nominal" "I" "CellCycler" ∈ cm_all := cm_inT (cm_t1 _ (List.mem_of_getElem? (i := 217) (by decide +kernel))) rfl
theorem kl_RX6_181 : Cond.fieldLinkNest RX6 181 "CellCycler$Cell" "nominal" "I" "CellCycler" ∈ cm_all := cm_inT (cm_t1 _ (List.mem_of_getElem? (i := 218) (by decide +kernel))) rfl
theorem kl_RX10_197 : Cond.fieldLinkNest RX10 197 "CellCycler$Cell" "nominal" "I" "CellCycler" ∈ cm_all := cm_inT (cm_t1 _ (List.mem_of_getElem? (i := 219) (by decide +kernel))) rfl
theorem kl_RX6_184 : Cond.fieldLinkNest RX6 184 "CellCycler$Cell" "ohms" "I" "CellCycler" ∈ cm_all := cm_inT (cm_t1 _ (List.mem_of_getElem? (i := 220) (by decide +kernel))) rfl
theorem kl_RX0_90 : Cond.fieldLink RX0 90 "CellCycler$Cell" "ohms" "I" ∈ cm_all := cm_inT (cm_t1 _ (List.mem_of_getElem? (i := 221) (by decide +kernel))) rfl
theorem kl_RX6_187 : Cond.fieldLinkNest RX6 187 "CellCycler$Cell" "polar" "I" "CellCycler" ∈ cm_all := cm_inT (cm_t1 _ (List.mem_of_getElem? (i := 222) (by decide +kernel))) rfl
theorem kl_RX0_129 : Cond.fieldLink RX0 129 "CellCycler$Cell" "polar" "I" ∈ cm_all := cm_inT (cm_t1 _ (List.mem_of_getElem? (i := 223) (by decide +kernel))) rfl
theorem kl_RX6_190 : Cond.fieldLinkNest RX6 190 "CellCycler$Cell" "tau" "I" "CellCycler" ∈ cm_all := cm_inT (cm_t1 _ (List.mem_of_getElem? (i := 224) (by decide +kernel))) rfl
theorem kl_RX0_132 : Cond.fieldLink RX0 132 "CellCycler$Cell" "tau" "I" ∈ cm_all := cm_inT (cm_t1 _ (List.mem_of_getElem? (i := 225) (by decide +kernel))) rfl
theorem kl_RX0_42 : Cond.fieldLink RX0 42 "CellCycler$Cell" "charge" "I" ∈ cm_all := cm_inT (cm_t1 _ (List.mem_of_getElem? (i := 226) (by decide +kernel))) rfl
theorem kl_RX1_82 : Cond.fieldLinkNest RX1 82 "CellCycler$Cell" "charge" "I" "CellCycler" ∈ cm_all := cm_inT (cm_t1 _ (List.mem_of_getElem? (i := 227) (by decide +kernel))) rfl
theorem kl_RX10_200 : Cond.fieldLinkNest RX10 200 "CellCycler$Cell" "charge" "I" "CellCycler" ∈ cm_all := cm_inT (cm_t1 _ (List.mem_of_getElem? (i := 228) (by decide +kernel))) rfl
theorem kl_RX0_45 : Cond.fieldLink RX0 45 "CellCycler$Cell" "leftOver" "I" ∈ cm_all := cm_inT (cm_t1 _ (List.mem_of_getElem? (i := 229) (by decide +kernel))) rfl
theorem kl_RX0_51 : Cond.fieldLink RX0 51 "CellCycler$Cell" "capacity" "I" ∈ cm_all := cm_inT (cm_t1 _ (List.mem_of_getElem? (i := 230) (by decide +kernel))) rfl
theorem kl_RX1_85 : Cond.fieldLinkNest RX1 85 "CellCycler$Cell" "capacity" "I" "CellCycler" ∈ cm_all := cm_inT (cm_t1 _ (List.mem_of_getElem? (i := 231) (by decide +kernel))) rfl
theorem kl_RX10_294 : Cond.fieldLinkNest RX10 294 "CellCycler$Cell" "capacity" "I" "CellCycler" ∈ cm_all := cm_inT (cm_t1 _ (List.mem_of_getElem? (i := 232) (by decide +kernel))) rfl
theorem kl_RX0_54 : Cond.fieldLink RX0 54 "CellCycler$Cell" "through" "I" ∈ cm_all := cm_inT (cm_t1 _ (List.mem_of_getElem? (i := 233) (by decide +kernel))) rfl
theorem kl_RX10_253 : Cond.fieldLinkNest RX10 253 "CellCycler$Cell" "through" "I" "CellCycler" ∈ cm_all := cm_inT (cm_t1 _ (List.mem_of_getElem? (i := 234) (by decide +kernel))) rfl
theorem kl_RX0_57 : Cond.fieldLink RX0 57 "CellCycler$Cell" "polarization" "I" ∈ cm_all := cm_inT (cm_t1 _ (List.mem_of_getElem? (i := 235) (by decide +kernel))) rfl
theorem kl_RX1_88 : Cond.fieldLinkNest RX1 88 "CellCycler$Cell" "polarization" "I" "CellCycler" ∈ cm_all := cm_inT (cm_t1 _ (List.mem_of_getElem? (i := 236) (by decide +kernel))) rfl
theorem kl_RX10_333 : Cond.fieldLinkNest RX10 333 "CellCycler$Cell" "polarization" "I" "CellCycler" ∈ cm_all := cm_inT (cm_t1 _ (List.mem_of_getElem? (i := 237) (by decide +kernel))) rfl
theorem kl_RX0_60 : Cond.fieldLink RX0 60 "CellCycler$Cell" "temperature" "I" ∈ cm_all := cm_inT (cm_t1 _ (List.mem_of_getElem? (i := 238) (by decide +kernel))) rfl
theorem kl_RX1_91 : Cond.fieldLinkNest RX1 91 "CellCycler$Cell" "temperature" "I" "CellCycler" ∈ cm_all := cm_inT (cm_t1 _ (List.mem_of_getElem? (i := 239) (by decide +kernel))) rfl
theorem kl_RX10_299 : Cond.fieldLinkNest RX10 299 "CellCycler$Cell" "temperature" "I" "CellCycler" ∈ cm_all := cm_inT (cm_t2 _ (List.mem_of_getElem? (i := 0) (by decide +kernel))) rfl
theorem kl_RX0_63 : Cond.fieldLink RX0 63 "CellCycler$Cell" "heat" "I" ∈ cm_all := cm_inT (cm_t2 _ (List.mem_of_getElem? (i := 1) (by decide +kernel))) rfl
theorem kl_RX0_66 : Cond.fieldLink RX0 66 "CellCycler$Cell" "current" "I" ∈ cm_all := cm_inT (cm_t2 _ (List.mem_of_getElem? (i := 2) (by decide +kernel))) rfl
theorem kl_RX1_76 : Cond.fieldLinkNest RX1 76 "CellCycler$Cell" "current" "I" "CellCycler" ∈ cm_all := cm_inT (cm_t2 _ (List.mem_of_getElem? (i := 3) (by decide +kernel))) rfl
theorem kl_RX10_262 : Cond.fieldLinkNest RX10 262 "CellCycler$Cell" "current" "I" "CellCycler" ∈ cm_all := cm_inT (cm_t2 _ (List.mem_of_getElem? (i := 4) (by decide +kernel))) rfl
theorem kl_RX0_69 : Cond.fieldLink RX0 69 "CellCycler$Cell" "voltage" "I" ∈ cm_all := cm_inT (cm_t2 _ (List.mem_of_getElem? (i := 5) (by decide +kernel))) rfl
theorem kl_RX1_79 : Cond.fieldLinkNest RX1 79 "CellCycler$Cell" "voltage" "I" "CellCycler" ∈ cm_all := cm_inT (cm_t2 _ (List.mem_of_getElem? (i := 6) (by decide +kernel))) rfl
theorem kl_RX10_138 : Cond.fieldLinkNest RX10 138 "CellCycler$Cell" "voltage" "I" "CellCycler" ∈ cm_all := cm_inT (cm_t2 _ (List.mem_of_getElem? (i := 7) (by decide +kernel))) rfl
theorem kl_RX0_18 : Cond.fieldLink RX0 18 "CellCycler$Cell" "books" "LCellCycler$Ledger;" ∈ cm_all := cm_inT (cm_t2 _ (List.mem_of_getElem? (i := 8) (by decide +kernel))) rfl
theorem kl_RX1_110 : Cond.fieldLinkNest RX1 110 "CellCycler$Cell" "books" "LCellCycler$Ledger;" "CellCycler" ∈ cm_all := cm_inT (cm_t2 _ (List.mem_of_getElem? (i := 9) (by decide +kernel))) rfl
theorem kl_RX10_240 : Cond.fieldLinkNest RX10 240 "CellCycler$Cell" "books" "LCellCycler$Ledger;" "CellCycler" ∈ cm_all := cm_inT (cm_t2 _ (List.mem_of_getElem? (i := 10) (by decide +kernel))) rfl
theorem kl_RX1_22 : Cond.classLink RX1 22 RX4 ∈ cm_all := cm_inT (cm_t2 _ (List.mem_of_getElem? (i := 44) (by decide +kernel))) rfl
theorem kn_RX4 : Cond.instantiable RX4 7 ∈ cm_all := cm_inT (cm_t2 _ (List.mem_of_getElem? (i := 45) (by decide +kernel))) rfl
theorem kl_RX1_24 : Cond.methodLinkNest RX1 24 yX4_init "CellCycler" ∈ cm_all := cm_inT (cm_t2 _ (List.mem_of_getElem? (i := 46) (by decide +kernel))) rfl
theorem kv_X4_init : Cond.instanceMethod yX4_init ∈ cm_all := cm_inT (cm_t2 _ (List.mem_of_getElem? (i := 47) (by decide +kernel))) rfl
theorem kc_X4_init : Cond.code yX4_init cX4_init 1 none ∈ cm_all := cm_inT (cm_t2 _ (List.mem_of_getElem? (i := 48) (by decide +kernel))) rfl
theorem kl_RX4_3 : Cond.methodLink RX4 3 ⟨"java/lang/Object", "<init>", "()V"⟩ ∈ cm_all := cm_inT (cm_t2 _ (List.mem_of_getElem? (i := 49) (by decide +kernel))) rfl
theorem kl_RX4_15 : Cond.fieldLink RX4 15 "CellCycler$Meter" "rest" "I" ∈ cm_all := cm_inT (cm_t2 _ (List.mem_of_getElem? (i := 50) (by decide +kernel))) rfl
theorem kl_RX1_237 : Cond.fieldLinkNest RX1 237 "CellCycler$Meter" "rest" "I" "CellCycler" ∈ cm_all := cm_inT (cm_t2 _ (List.mem_of_getElem? (i := 51) (by decide +kernel))) rfl
theorem kl_RX10_271 : Cond.fieldLinkNest RX10 271 "CellCycler$Meter" "rest" "I" "CellCycler" ∈ cm_all := cm_inT (cm_t2 _ (List.mem_of_getElem? (i := 52) (by decide +kernel))) rfl
theorem kl_RX4_19 : Cond.fieldLink RX4 19 "CellCycler$Meter" "capacity" "I" ∈ cm_all := cm_inT (cm_t2 _ (List.mem_of_getElem? (i := 53) (by decide +kernel))) rfl
theorem kl_RX1_261 : Cond.fieldLinkNest RX1 261 "CellCycler$Meter" "capacity" "I" "CellCycler" ∈ cm_all := cm_inT (cm_t2 _ (List.mem_of_getElem? (i := 54) (by decide +kernel))) rfl
theorem kl_RX10_276 : Cond.fieldLinkNest RX10 276 "CellCycler$Meter" "capacity" "I" "CellCycler" ∈ cm_all := cm_inT (cm_t2 _ (List.mem_of_getElem? (i := 55) (by decide +kernel))) rfl
theorem kl_RX4_22 : Cond.fieldLink RX4 22 "CellCycler$Meter" "resistance" "I" ∈ cm_all := cm_inT (cm_t2 _ (List.mem_of_getElem? (i := 56) (by decide +kernel))) rfl
theorem kl_RX1_168 : Cond.fieldLinkNest RX1 168 "CellCycler$Meter" "resistance" "I" "CellCycler" ∈ cm_all := cm_inT (cm_t2 _ (List.mem_of_getElem? (i := 57) (by decide +kernel))) rfl
theorem kl_RX10_279 : Cond.fieldLinkNest RX10 279 "CellCycler$Meter" "resistance" "I" "CellCycler" ∈ cm_all := cm_inT (cm_t2 _ (List.mem_of_getElem? (i := 58) (by decide +kernel))) rfl
theorem kl_RX4_25 : Cond.fieldLink RX4 25 "CellCycler$Meter" "tripReason" "I" ∈ cm_all := cm_inT (cm_t2 _ (List.mem_of_getElem? (i := 59) (by decide +kernel))) rfl
theorem kl_RX1_94 : Cond.fieldLinkNest RX1 94 "CellCycler$Meter" "tripReason" "I" "CellCycler" ∈ cm_all := cm_inT (cm_t2 _ (List.mem_of_getElem? (i := 60) (by decide +kernel))) rfl
theorem kl_RX4_28 : Cond.fieldLink RX4 28 "CellCycler$Meter" "warnedFor" "I" ∈ cm_all := cm_inT (cm_t2 _ (List.mem_of_getElem? (i := 61) (by decide +kernel))) rfl
theorem kl_RX1_159 : Cond.fieldLinkNest RX1 159 "CellCycler$Meter" "warnedFor" "I" "CellCycler" ∈ cm_all := cm_inT (cm_t2 _ (List.mem_of_getElem? (i := 62) (by decide +kernel))) rfl
theorem kl_RX10_288 : Cond.fieldLinkNest RX10 288 "CellCycler$Meter" "warnedFor" "I" "CellCycler" ∈ cm_all := cm_inT (cm_t2 _ (List.mem_of_getElem? (i := 63) (by decide +kernel))) rfl
theorem kl_RX4_31 : Cond.fieldLink RX4 31 "CellCycler$Meter" "warningCount" "I" ∈ cm_all := cm_inT (cm_t2 _ (List.mem_of_getElem? (i := 64) (by decide +kernel))) rfl
theorem kl_RX1_219 : Cond.fieldLinkNest RX1 219 "CellCycler$Meter" "warningCount" "I" "CellCycler" ∈ cm_all := cm_inT (cm_t2 _ (List.mem_of_getElem? (i := 65) (by decide +kernel))) rfl
theorem kl_RX10_285 : Cond.fieldLinkNest RX10 285 "CellCycler$Meter" "warningCount" "I" "CellCycler" ∈ cm_all := cm_inT (cm_t2 _ (List.mem_of_getElem? (i := 66) (by decide +kernel))) rfl
theorem kl_RX4_9 : Cond.fieldLink RX4 9 "CellCycler$Meter" "bands" "[I" ∈ cm_all := cm_inT (cm_t2 _ (List.mem_of_getElem? (i := 67) (by decide +kernel))) rfl
theorem kl_RX10_282 : Cond.fieldLinkNest RX10 282 "CellCycler$Meter" "bands" "[I" "CellCycler" ∈ cm_all := cm_inT (cm_t2 _ (List.mem_of_getElem? (i := 68) (by decide +kernel))) rfl
theorem kl_RX1_9 : Cond.fieldLink RX1 9 "CellCycler$Channel" "index" "I" ∈ cm_all := cm_inT (cm_t2 _ (List.mem_of_getElem? (i := 84) (by decide +kernel))) rfl
theorem kl_RX1_18 : Cond.fieldLink RX1 18 "CellCycler$Channel" "cell" "LCellCycler$Cell;" ∈ cm_all := cm_inT (cm_t2 _ (List.mem_of_getElem? (i := 85) (by decide +kernel))) rfl
theorem kl_RX9_75 : Cond.fieldLinkNest RX9 75 "CellCycler$Channel" "cell" "LCellCycler$Cell;" "CellCycler" ∈ cm_all := cm_inT (cm_t2 _ (List.mem_of_getElem? (i := 86) (by decide +kernel))) rfl
theorem kl_RX6_169 : Cond.fieldLinkNest RX6 169 "CellCycler$Channel" "cell" "LCellCycler$Cell;" "CellCycler" ∈ cm_all := cm_inT (cm_t2 _ (List.mem_of_getElem? (i := 87) (by decide +kernel))) rfl
theorem kl_RX10_134 : Cond.fieldLinkNest RX10 134 "CellCycler$Channel" "cell" "LCellCycler$Cell;" "CellCycler" ∈ cm_all := cm_inT (cm_t2 _ (List.mem_of_getElem? (i := 88) (by decide +kernel))) rfl
theorem kl_RX1_25 : Cond.fieldLink RX1 25 "CellCycler$Channel" "meter" "LCellCycler$Meter;" ∈ cm_all := cm_inT (cm_t2 _ (List.mem_of_getElem? (i := 89) (by decide +kernel))) rfl
theorem kl_RX10_267 : Cond.fieldLinkNest RX10 267 "CellCycler$Channel" "meter" "LCellCycler$Meter;" "CellCycler" ∈ cm_all := cm_inT (cm_t2 _ (List.mem_of_getElem? (i := 90) (by decide +kernel))) rfl
theorem kl_RX1_43 : Cond.fieldLink RX1 43 "CellCycler$Channel" "state" "I" ∈ cm_all := cm_inT (cm_t2 _ (List.mem_of_getElem? (i := 91) (by decide +kernel))) rfl
theorem kl_RX9_72 : Cond.fieldLinkNest RX9 72 "CellCycler$Channel" "state" "I" "CellCycler" ∈ cm_all := cm_inT (cm_t2 _ (List.mem_of_getElem? (i := 92) (by decide +kernel))) rfl
theorem kl_RX10_129 : Cond.fieldLinkNest RX10 129 "CellCycler$Channel" "state" "I" "CellCycler" ∈ cm_all := cm_inT (cm_t2 _ (List.mem_of_getElem? (i := 93) (by decide +kernel))) rfl
theorem kl_RX1_46 : Cond.fieldLink RX1 46 "CellCycler$Channel" "program" "I" ∈ cm_all := cm_inT (cm_t2 _ (List.mem_of_getElem? (i := 94) (by decide +kernel))) rfl
theorem kl_RX10_224 : Cond.fieldLinkNest RX10 224 "CellCycler$Channel" "program" "I" "CellCycler" ∈ cm_all := cm_inT (cm_t2 _ (List.mem_of_getElem? (i := 95) (by decide +kernel))) rfl
theorem kl_RX1_49 : Cond.fieldLink RX1 49 "CellCycler$Channel" "step" "I" ∈ cm_all := cm_inT (cm_t2 _ (List.mem_of_getElem? (i := 96) (by decide +kernel))) rfl
theorem kl_RX10_191 : Cond.fieldLinkNest RX10 191 "CellCycler$Channel" "step" "I" "CellCycler" ∈ cm_all := cm_inT (cm_t2 _ (List.mem_of_getElem? (i := 97) (by decide +kernel))) rfl
theorem kl_RX1_52 : Cond.fieldLink RX1 52 "CellCycler$Channel" "lasted" "I" ∈ cm_all := cm_inT (cm_t2 _ (List.mem_of_getElem? (i := 98) (by decide +kernel))) rfl
theorem kl_RX1_29 : Cond.fieldLink RX1 29 "CellCycler$Channel" "timesBack" "[I" ∈ cm_all := cm_inT (cm_t2 _ (List.mem_of_getElem? (i := 99) (by decide +kernel))) rfl
theorem kl_RX10_291 : Cond.fieldLinkNest RX10 291 "CellCycler$Channel" "timesBack" "[I" "CellCycler" ∈ cm_all := cm_inT (cm_t2 _ (List.mem_of_getElem? (i := 100) (by decide +kernel))) rfl
theorem kl_RX1_33 : Cond.fieldLink RX1 33 "CellCycler$Channel" "queue" "[I" ∈ cm_all := cm_inT (cm_t2 _ (List.mem_of_getElem? (i := 101) (by decide +kernel))) rfl
theorem kl_RX10_213 : Cond.fieldLinkNest RX10 213 "CellCycler$Channel" "queue" "[I" "CellCycler" ∈ cm_all := cm_inT (cm_t2 _ (List.mem_of_getElem? (i := 102) (by decide +kernel))) rfl
theorem kl_RX1_59 : Cond.fieldLink RX1 59 "CellCycler$Channel" "waiting" "I" ∈ cm_all := cm_inT (cm_t2 _ (List.mem_of_getElem? (i := 103) (by decide +kernel))) rfl
theorem kl_RX10_210 : Cond.fieldLinkNest RX10 210 "CellCycler$Channel" "waiting" "I" "CellCycler" ∈ cm_all := cm_inT (cm_t2 _ (List.mem_of_getElem? (i := 104) (by decide +kernel))) rfl
theorem kl_RX1_62 : Cond.fieldLink RX1 62 "CellCycler$Channel" "baseIn" "J" ∈ cm_all := cm_inT (cm_t2 _ (List.mem_of_getElem? (i := 105) (by decide +kernel))) rfl
theorem kl_RX1_66 : Cond.fieldLink RX1 66 "CellCycler$Channel" "baseOut" "J" ∈ cm_all := cm_inT (cm_t2 _ (List.mem_of_getElem? (i := 106) (by decide +kernel))) rfl
theorem kl_RX1_69 : Cond.fieldLink RX1 69 "CellCycler$Channel" "heldSince" "Z" ∈ cm_all := cm_inT (cm_t2 _ (List.mem_of_getElem? (i := 107) (by decide +kernel))) rfl
theorem kl_RX1_73 : Cond.fieldLink RX1 73 "CellCycler$Channel" "stepBaseOut" "J" ∈ cm_all := cm_inT (cm_t2 _ (List.mem_of_getElem? (i := 108) (by decide +kernel))) rfl
theorem kl_RX9_41 : Cond.classLink RX9 41 RX8 ∈ cm_all := cm_inT (cm_t2 _ (List.mem_of_getElem? (i := 138) (by decide +kernel))) rfl
theorem kn_RX8 : Cond.instantiable RX8 5 ∈ cm_all := cm_inT (cm_t2 _ (List.mem_of_getElem? (i := 139) (by decide +kernel))) rfl
theorem kl_RX9_43 : Cond.methodLinkNest RX9 43 yX8_init "CellCycler" ∈ cm_all := cm_inT (cm_t2 _ (List.mem_of_getElem? (i := 140) (by decide +kernel))) rfl
theorem kv_X8_init : Cond.instanceMethod yX8_init ∈ cm_all := cm_inT (cm_t2 _ (List.mem_of_getElem? (i := 141) (by decide +kernel))) rfl
theorem kc_X8_init : Cond.code yX8_init cX8_init 3 none ∈ cm_all := cm_inT (cm_t2 _ (List.mem_of_getElem? (i := 142) (by decide +kernel))) rfl
theorem kl_RX8_1 : Cond.methodLink RX8 1 ⟨"java/lang/Object", "<init>", "()V"⟩ ∈ cm_all := cm_inT (cm_t2 _ (List.mem_of_getElem? (i := 143) (by decide +kernel))) rfl
theorem kl_RX8_7 : Cond.methodLink RX8 7 yJ9_max_7cf53 ∈ cm_all := cm_inT (cm_t2 _ (List.mem_of_getElem? (i := 144) (by decide +kernel))) rfl
theorem ks_J9_max_7cf53 : Cond.static yJ9_max_7cf53 ∈ cm_all := cm_inT (cm_t2 _ (List.mem_of_getElem? (i := 145) (by decide +kernel))) rfl
theorem kc_J9_max_7cf53 : Cond.code yJ9_max_7cf53 cJ9_max_7cf53 2 (some .int) ∈ cm_all := cm_inT (cm_t2 _ (List.mem_of_getElem? (i := 146) (by decide +kernel))) rfl
theorem kl_RX8_13 : Cond.fieldLink RX8 13 "CellCycler$Table" "limit" "I" ∈ cm_all := cm_inT (cm_t2 _ (List.mem_of_getElem? (i := 147) (by decide +kernel))) rfl
theorem kl_RX8_19 : Cond.fieldLink RX8 19 "CellCycler$Table" "width" "I" ∈ cm_all := cm_inT (cm_t2 _ (List.mem_of_getElem? (i := 148) (by decide +kernel))) rfl
theorem kl_RX8_22 : Cond.fieldLink RX8 22 "CellCycler$Table" "numbers" "[I" ∈ cm_all := cm_inT (cm_t2 _ (List.mem_of_getElem? (i := 149) (by decide +kernel))) rfl
theorem kl_RX9_100 : Cond.fieldLinkNest RX9 100 "CellCycler$Table" "numbers" "[I" "CellCycler" ∈ cm_all := cm_inT (cm_t2 _ (List.mem_of_getElem? (i := 150) (by decide +kernel))) rfl
theorem kl_RX1_249 : Cond.fieldLinkNest RX1 249 "CellCycler$Table" "numbers" "[I" "CellCycler" ∈ cm_all := cm_inT (cm_t2 _ (List.mem_of_getElem? (i := 151) (by decide +kernel))) rfl
theorem kl_RX8_26 : Cond.fieldLink RX8 26 "CellCycler$Table" "oldest" "I" ∈ cm_all := cm_inT (cm_t2 _ (List.mem_of_getElem? (i := 152) (by decide +kernel))) rfl
theorem kl_RX8_29 : Cond.fieldLink RX8 29 "CellCycler$Table" "size" "I" ∈ cm_all := cm_inT (cm_t2 _ (List.mem_of_getElem? (i := 153) (by decide +kernel))) rfl
theorem kl_RX9_93 : Cond.fieldLinkNest RX9 93 "CellCycler$Table" "size" "I" "CellCycler" ∈ cm_all := cm_inT (cm_t2 _ (List.mem_of_getElem? (i := 154) (by decide +kernel))) rfl
theorem kl_RX1_252 : Cond.fieldLinkNest RX1 252 "CellCycler$Table" "size" "I" "CellCycler" ∈ cm_all := cm_inT (cm_t2 _ (List.mem_of_getElem? (i := 155) (by decide +kernel))) rfl
theorem kl_RX10_306 : Cond.fieldLinkNest RX10 306 "CellCycler$Table" "size" "I" "CellCycler" ∈ cm_all := cm_inT (cm_t2 _ (List.mem_of_getElem? (i := 156) (by decide +kernel))) rfl
theorem kl_RX9_53 : Cond.fieldLink RX9 53 "CellCycler$World" "time" "I" ∈ cm_all := cm_inT (cm_t2 _ (List.mem_of_getElem? (i := 168) (by decide +kernel))) rfl
theorem kl_RX10_164 : Cond.fieldLinkNest RX10 164 "CellCycler$World" "time" "I" "CellCycler" ∈ cm_all := cm_inT (cm_t2 _ (List.mem_of_getElem? (i := 169) (by decide +kernel))) rfl
theorem kl_RX1_258 : Cond.fieldLinkNest RX1 258 "CellCycler$World" "time" "I" "CellCycler" ∈ cm_all := cm_inT (cm_t2 _ (List.mem_of_getElem? (i := 170) (by decide +kernel))) rfl
theorem kl_RX9_12 : Cond.fieldLink RX9 12 "CellCycler$World" "settings" "LCellCycler$Settings;" ∈ cm_all := cm_inT (cm_t2 _ (List.mem_of_getElem? (i := 171) (by decide +kernel))) rfl
theorem kl_RX6_45 : Cond.fieldLinkNest RX6 45 "CellCycler$World" "settings" "LCellCycler$Settings;" "CellCycler" ∈ cm_all := cm_inT (cm_t2 _ (List.mem_of_getElem? (i := 172) (by decide +kernel))) rfl
theorem kl_RX10_95 : Cond.fieldLinkNest RX10 95 "CellCycler$World" "settings" "LCellCycler$Settings;" "CellCycler" ∈ cm_all := cm_inT (cm_t2 _ (List.mem_of_getElem? (i := 173) (by decide +kernel))) rfl
theorem kl_RX1_140 : Cond.fieldLinkNest RX1 140 "CellCycler$World" "settings" "LCellCycler$Settings;" "CellCycler" ∈ cm_all := cm_inT (cm_t2 _ (List.mem_of_getElem? (i := 174) (by decide +kernel))) rfl
theorem kl_RX9_21 : Cond.fieldLink RX9 21 "CellCycler$World" "curves" "LCellCycler$Curves;" ∈ cm_all := cm_inT (cm_t2 _ (List.mem_of_getElem? (i := 175) (by decide +kernel))) rfl
theorem kl_RX6_133 : Cond.fieldLinkNest RX6 133 "CellCycler$World" "curves" "LCellCycler$Curves;" "CellCycler" ∈ cm_all := cm_inT (cm_t2 _ (List.mem_of_getElem? (i := 176) (by decide +kernel))) rfl
theorem kl_RX10_67 : Cond.fieldLinkNest RX10 67 "CellCycler$World" "curves" "LCellCycler$Curves;" "CellCycler" ∈ cm_all := cm_inT (cm_t2 _ (List.mem_of_getElem? (i := 177) (by decide +kernel))) rfl
theorem kl_RX9_28 : Cond.fieldLink RX9 28 "CellCycler$World" "programs" "LCellCycler$Programs;" ∈ cm_all := cm_inT (cm_t2 _ (List.mem_of_getElem? (i := 178) (by decide +kernel))) rfl
theorem kl_RX6_193 : Cond.fieldLinkNest RX6 193 "CellCycler$World" "programs" "LCellCycler$Programs;" "CellCycler" ∈ cm_all := cm_inT (cm_t2 _ (List.mem_of_getElem? (i := 179) (by decide +kernel))) rfl
theorem kl_RX10_85 : Cond.fieldLinkNest RX10 85 "CellCycler$World" "programs" "LCellCycler$Programs;" "CellCycler" ∈ cm_all := cm_inT (cm_t2 _ (List.mem_of_getElem? (i := 180) (by decide +kernel))) rfl
theorem kl_RX1_175 : Cond.fieldLinkNest RX1 175 "CellCycler$World" "programs" "LCellCycler$Programs;" "CellCycler" ∈ cm_all := cm_inT (cm_t2 _ (List.mem_of_getElem? (i := 181) (by decide +kernel))) rfl
theorem kl_RX9_64 : Cond.fieldLink RX9 64 "CellCycler$World" "channelCount" "I" ∈ cm_all := cm_inT (cm_t2 _ (List.mem_of_getElem? (i := 182) (by decide +kernel))) rfl
theorem kl_RX10_64 : Cond.fieldLinkNest RX10 64 "CellCycler$World" "channelCount" "I" "CellCycler" ∈ cm_all := cm_inT (cm_t2 _ (List.mem_of_getElem? (i := 183) (by decide +kernel))) rfl
theorem kl_RX6_162 : Cond.fieldLinkNest RX6 162 "CellCycler$World" "channelCount" "I" "CellCycler" ∈ cm_all := cm_inT (cm_t2 _ (List.mem_of_getElem? (i := 184) (by decide +kernel))) rfl
theorem kl_RX9_34 : Cond.fieldLink RX9 34 "CellCycler$World" "channels" "[LCellCycler$Channel;" ∈ cm_all := cm_inT (cm_t2 _ (List.mem_of_getElem? (i := 185) (by decide +kernel))) rfl
theorem kl_RX9_46 : Cond.fieldLink RX9 46 "CellCycler$World" "records" "LCellCycler$Table;" ∈ cm_all := cm_inT (cm_t2 _ (List.mem_of_getElem? (i := 186) (by decide +kernel))) rfl
theorem kl_RX1_240 : Cond.fieldLinkNest RX1 240 "CellCycler$World" "records" "LCellCycler$Table;" "CellCycler" ∈ cm_all := cm_inT (cm_t2 _ (List.mem_of_getElem? (i := 187) (by decide +kernel))) rfl
theorem kl_RX10_302 : Cond.fieldLinkNest RX10 302 "CellCycler$World" "records" "LCellCycler$Table;" "CellCycler" ∈ cm_all := cm_inT (cm_t2 _ (List.mem_of_getElem? (i := 188) (by decide +kernel))) rfl
theorem kl_RX9_50 : Cond.fieldLink RX9 50 "CellCycler$World" "log" "LCellCycler$Table;" ∈ cm_all := cm_inT (cm_t2 _ (List.mem_of_getElem? (i := 189) (by decide +kernel))) rfl
theorem kl_RX10_318 : Cond.fieldLinkNest RX10 318 "CellCycler$World" "log" "LCellCycler$Table;" "CellCycler" ∈ cm_all := cm_inT (cm_t2 _ (List.mem_of_getElem? (i := 190) (by decide +kernel))) rfl
theorem kao_RX9 : Cond.arrayOver (.object "CellCycler$World") ∈ cm_all := cm_inT (cm_t2 _ (List.mem_of_getElem? (i := 208) (by decide +kernel))) rfl
theorem kl_RX10_10 : Cond.fieldLink RX10 10 "CellCycler" "world" "LCellCycler$World;" ∈ cm_all := cm_inT (cm_t2 _ (List.mem_of_getElem? (i := 209) (by decide +kernel))) rfl
theorem kl_RX10_16 : Cond.fieldLink RX10 16 "CellCycler" "spare" "LCellCycler$World;" ∈ cm_all := cm_inT (cm_t2 _ (List.mem_of_getElem? (i := 210) (by decide +kernel))) rfl
theorem kl_RX10_19 : Cond.fieldLink RX10 19 "CellCycler" "saved" "[LCellCycler$World;" ∈ cm_all := cm_inT (cm_t2 _ (List.mem_of_getElem? (i := 211) (by decide +kernel))) rfl
theorem kl_RX10_23 : Cond.fieldLink RX10 23 "CellCycler" "buffer" "[I" ∈ cm_all := cm_inT (cm_t2 _ (List.mem_of_getElem? (i := 212) (by decide +kernel))) rfl
theorem kl_RX10_27 : Cond.fieldLink RX10 27 "CellCycler" "bufferLength" "I" ∈ cm_all := cm_inT (cm_t2 _ (List.mem_of_getElem? (i := 213) (by decide +kernel))) rfl
theorem kl_RX10_31 : Cond.fieldLink RX10 31 "CellCycler" "latestError" "I" ∈ cm_all := cm_inT (cm_t2 _ (List.mem_of_getElem? (i := 214) (by decide +kernel))) rfl
theorem kl_RL_178 : Cond.methodLink RL 178 yX10_append ∈ cm_all := cm_inT (cm_t2 _ (List.mem_of_getElem? (i := 228) (by decide +kernel))) rfl
theorem kv_X10_append : Cond.instanceMethod yX10_append ∈ cm_all := cm_inT (cm_t2 _ (List.mem_of_getElem? (i := 229) (by decide +kernel))) rfl
theorem kx_X10_append : Cond.selects yX10_append.cls yX10_append yX10_append ∈ cm_all := cm_inT (cm_t2 _ (List.mem_of_getElem? (i := 230) (by decide +kernel))) rfl
theorem kc_X10_append : Cond.code yX10_append cX10_append 6 (some .int) ∈ cm_all := cm_inT (cm_t2 _ (List.mem_of_getElem? (i := 231) (by decide +kernel))) rfl
theorem kl_RX10_34 : Cond.constantLong RX10 34 (255) ∈ cm_all := cm_inT (cm_t2 _ (List.mem_of_getElem? (i := 232) (by decide +kernel))) rfl
theorem kl_RX10_36 : Cond.methodLink RX10 36 yX10_put ∈ cm_all := cm_inT (cm_t2 _ (List.mem_of_getElem? (i := 233) (by decide +kernel))) rfl
theorem ks_X10_put : Cond.static yX10_put ∈ cm_all := cm_inT (cm_t2 _ (List.mem_of_getElem? (i := 234) (by decide +kernel))) rfl
theorem kc_X10_put : Cond.code yX10_put cX10_put 3 none ∈ cm_all := cm_inT (cm_t2 _ (List.mem_of_getElem? (i := 235) (by decide +kernel))) rfl
theorem kl_RL_183 : Cond.methodLink RL 183 yX10_load ∈ cm_all := cm_inT (cm_t2 _ (List.mem_of_getElem? (i := 236) (by decide +kernel))) rfl
theorem kv_X10_load : Cond.instanceMethod yX10_load ∈ cm_all := cm_inT (cm_t2 _ (List.mem_of_getElem? (i := 237) (by decide +kernel))) rfl
theorem kx_X10_load : Cond.selects yX10_load.cls yX10_load yX10_load ∈ cm_all := cm_inT (cm_t2 _ (List.mem_of_getElem? (i := 238) (by decide +kernel))) rfl
theorem kc_X10_load : Cond.code yX10_load cX10_load 2 (some .int) ∈ cm_all := cm_inT (cm_t2 _ (List.mem_of_getElem? (i := 239) (by decide +kernel))) rfl
theorem kl_RX10_40 : Cond.methodLinkNest RX10 40 yX9_clear "CellCycler" ∈ cm_all := cm_inT (cm_t3 _ (List.mem_of_getElem? (i := 0) (by decide +kernel))) rfl
theorem kv_X9_clear : Cond.instanceMethod yX9_clear ∈ cm_all := cm_inT (cm_t3 _ (List.mem_of_getElem? (i := 2) (by decide +kernel))) rfl
theorem kc_X9_clear : Cond.code yX9_clear cX9_clear 1 none ∈ cm_all := cm_inT (cm_t3 _ (List.mem_of_getElem? (i := 3) (by decide +kernel))) rfl
theorem kl_RX9_57 : Cond.methodLinkNest RX9 57 yX7_clear "CellCycler" ∈ cm_all := cm_inT (cm_t3 _ (List.mem_of_getElem? (i := 4) (by decide +kernel))) rfl
theorem kl_RX9_67 : Cond.methodLinkNest RX9 67 yX8_clear "CellCycler" ∈ cm_all := cm_inT (cm_t3 _ (List.mem_of_getElem? (i := 5) (by decide +kernel))) rfl
theorem kv_X8_clear : Cond.instanceMethod yX8_clear ∈ cm_all := cm_inT (cm_t3 _ (List.mem_of_getElem? (i := 7) (by decide +kernel))) rfl
theorem kc_X8_clear : Cond.code yX8_clear cX8_clear 1 none ∈ cm_all := cm_inT (cm_t3 _ (List.mem_of_getElem? (i := 8) (by decide +kernel))) rfl
theorem kl_RX10_43 : Cond.classLink RX10 43 RX6 ∈ cm_all := cm_inT (cm_t3 _ (List.mem_of_getElem? (i := 9) (by decide +kernel))) rfl
theorem kn_RX6 : Cond.instantiable RX6 7 ∈ cm_all := cm_inT (cm_t3 _ (List.mem_of_getElem? (i := 10) (by decide +kernel))) rfl
theorem kl_RX10_45 : Cond.methodLinkNest RX10 45 yX6_init "CellCycler" ∈ cm_all := cm_inT (cm_t3 _ (List.mem_of_getElem? (i := 11) (by decide +kernel))) rfl
theorem kv_X6_init : Cond.instanceMethod yX6_init ∈ cm_all := cm_inT (cm_t3 _ (List.mem_of_getElem? (i := 12) (by decide +kernel))) rfl
theorem kc_X6_init : Cond.code yX6_init cX6_init 4 none ∈ cm_all := cm_inT (cm_t3 _ (List.mem_of_getElem? (i := 13) (by decide +kernel))) rfl
theorem kl_RX6_3 : Cond.methodLink RX6 3 ⟨"java/lang/Object", "<init>", "()V"⟩ ∈ cm_all := cm_inT (cm_t3 _ (List.mem_of_getElem? (i := 14) (by decide +kernel))) rfl
theorem kl_RX6_9 : Cond.fieldLink RX6 9 "CellCycler$Reader" "text" "[I" ∈ cm_all := cm_inT (cm_t3 _ (List.mem_of_getElem? (i := 15) (by decide +kernel))) rfl
theorem kl_RX6_15 : Cond.fieldLink RX6 15 "CellCycler$Reader" "length" "I" ∈ cm_all := cm_inT (cm_t3 _ (List.mem_of_getElem? (i := 16) (by decide +kernel))) rfl
theorem kl_RX6_19 : Cond.fieldLink RX6 19 "CellCycler$Reader" "target" "LCellCycler$World;" ∈ cm_all := cm_inT (cm_t3 _ (List.mem_of_getElem? (i := 17) (by decide +kernel))) rfl
theorem kl_RX6_65 : Cond.fieldLink RX6 65 "CellCycler$Reader" "place" "I" ∈ cm_all := cm_inT (cm_t3 _ (List.mem_of_getElem? (i := 18) (by decide +kernel))) rfl
theorem kl_RX6_130 : Cond.fieldLink RX6 130 "CellCycler$Reader" "wordStart" "I" ∈ cm_all := cm_inT (cm_t3 _ (List.mem_of_getElem? (i := 19) (by decide +kernel))) rfl
theorem kl_RX6_58 : Cond.fieldLink RX6 58 "CellCycler$Reader" "error" "I" ∈ cm_all := cm_inT (cm_t3 _ (List.mem_of_getElem? (i := 20) (by decide +kernel))) rfl
theorem kl_RX10_51 : Cond.fieldLinkNest RX10 51 "CellCycler$Reader" "error" "I" "CellCycler" ∈ cm_all := cm_inT (cm_t3 _ (List.mem_of_getElem? (i := 21) (by decide +kernel))) rfl
theorem kl_RX10_54 : Cond.fieldLinkNest RX10 54 "CellCycler$Reader" "errorPlace" "I" "CellCycler" ∈ cm_all := cm_inT (cm_t3 _ (List.mem_of_getElem? (i := 22) (by decide +kernel))) rfl
theorem kl_RX6_236 : Cond.fieldLink RX6 236 "CellCycler$Reader" "errorPlace" "I" ∈ cm_all := cm_inT (cm_t3 _ (List.mem_of_getElem? (i := 23) (by decide +kernel))) rfl
theorem kl_RX10_48 : Cond.methodLinkNest RX10 48 yX6_readText "CellCycler" ∈ cm_all := cm_inT (cm_t3 _ (List.mem_of_getElem? (i := 39) (by decide +kernel))) rfl
theorem kv_X6_readText : Cond.instanceMethod yX6_readText ∈ cm_all := cm_inT (cm_t3 _ (List.mem_of_getElem? (i := 41) (by decide +kernel))) rfl
theorem kc_X6_readText : Cond.code yX6_readText cX6_readText 2 none ∈ cm_all := cm_inT (cm_t3 _ (List.mem_of_getElem? (i := 42) (by decide +kernel))) rfl
theorem kl_RX6_23 : Cond.methodLink RX6 23 yX6_readWord ∈ cm_all := cm_inT (cm_t3 _ (List.mem_of_getElem? (i := 43) (by decide +kernel))) rfl
theorem kv_X6_readWord : Cond.instanceMethod yX6_readWord ∈ cm_all := cm_inT (cm_t3 _ (List.mem_of_getElem? (i := 45) (by decide +kernel))) rfl
theorem kc_X6_readWord : Cond.code yX6_readWord cX6_readWord 1 none ∈ cm_all := cm_inT (cm_t3 _ (List.mem_of_getElem? (i := 46) (by decide +kernel))) rfl
theorem kl_RX6_55 : Cond.methodLink RX6 55 yX6_skipSpaces ∈ cm_all := cm_inT (cm_t3 _ (List.mem_of_getElem? (i := 47) (by decide +kernel))) rfl
theorem kv_X6_skipSpaces : Cond.instanceMethod yX6_skipSpaces ∈ cm_all := cm_inT (cm_t3 _ (List.mem_of_getElem? (i := 49) (by decide +kernel))) rfl
theorem kc_X6_skipSpaces : Cond.code yX6_skipSpaces cX6_skipSpaces 1 none ∈ cm_all := cm_inT (cm_t3 _ (List.mem_of_getElem? (i := 50) (by decide +kernel))) rfl
theorem kl_RX6_61 : Cond.methodLink RX6 61 yX6_next ∈ cm_all := cm_inT (cm_t3 _ (List.mem_of_getElem? (i := 51) (by decide +kernel))) rfl
theorem kv_X6_next : Cond.instanceMethod yX6_next ∈ cm_all := cm_inT (cm_t3 _ (List.mem_of_getElem? (i := 53) (by decide +kernel))) rfl
theorem kc_X6_next : Cond.code yX6_next cX6_next 1 (some .int) ∈ cm_all := cm_inT (cm_t3 _ (List.mem_of_getElem? (i := 54) (by decide +kernel))) rfl
theorem kl_RX6_202 : Cond.methodLink RX6 202 yX6_isLetter ∈ cm_all := cm_inT (cm_t3 _ (List.mem_of_getElem? (i := 55) (by decide +kernel))) rfl
theorem ks_X6_isLetter : Cond.static yX6_isLetter ∈ cm_all := cm_inT (cm_t3 _ (List.mem_of_getElem? (i := 56) (by decide +kernel))) rfl
theorem kc_X6_isLetter : Cond.code yX6_isLetter cX6_isLetter 1 (some .boolean) ∈ cm_all := cm_inT (cm_t3 _ (List.mem_of_getElem? (i := 57) (by decide +kernel))) rfl
theorem kl_RX6_68 : Cond.methodLink RX6 68 yX6_fail ∈ cm_all := cm_inT (cm_t3 _ (List.mem_of_getElem? (i := 58) (by decide +kernel))) rfl
theorem kv_X6_fail : Cond.instanceMethod yX6_fail ∈ cm_all := cm_inT (cm_t3 _ (List.mem_of_getElem? (i := 60) (by decide +kernel))) rfl
theorem kc_X6_fail : Cond.code yX6_fail cX6_fail 3 none ∈ cm_all := cm_inT (cm_t3 _ (List.mem_of_getElem? (i := 61) (by decide +kernel))) rfl
theorem kl_RX6_28 : Cond.methodLink RX6 28 yX6_wordIs ∈ cm_all := cm_inT (cm_t3 _ (List.mem_of_getElem? (i := 63) (by decide +kernel))) rfl
theorem kv_X6_wordIs : Cond.instanceMethod yX6_wordIs ∈ cm_all := cm_inT (cm_t3 _ (List.mem_of_getElem? (i := 65) (by decide +kernel))) rfl
theorem kc_X6_wordIs : Cond.code yX6_wordIs cX6_wordIs 3 (some .boolean) ∈ cm_all := cm_inT (cm_t3 _ (List.mem_of_getElem? (i := 66) (by decide +kernel))) rfl
theorem kl_RX6_223 : Cond.methodLink RX6 223 yJ0_length_8abf5 ∈ cm_all := cm_inT (cm_t3 _ (List.mem_of_getElem? (i := 67) (by decide +kernel))) rfl
theorem kv_J0_length_8abf5 : Cond.instanceMethod yJ0_length_8abf5 ∈ cm_all := cm_inT (cm_t3 _ (List.mem_of_getElem? (i := 68) (by decide +kernel))) rfl
theorem kx_J0_length_8abf5 : Cond.selects yJ0_length_8abf5.cls yJ0_length_8abf5 yJ0_length_8abf5 ∈ cm_all := cm_inT (cm_t3 _ (List.mem_of_getElem? (i := 69) (by decide +kernel))) rfl
theorem kc_J0_length_8abf5 : Cond.code yJ0_length_8abf5 cJ0_length_8abf5 1 (some .int) ∈ cm_all := cm_inT (cm_t3 _ (List.mem_of_getElem? (i := 70) (by decide +kernel))) rfl
theorem kl_RJ0_335 : Cond.methodLink RJ0 335 yJ0_coder_7d493 ∈ cm_all := cm_inT (cm_t3 _ (List.mem_of_getElem? (i := 71) (by decide +kernel))) rfl
theorem kv_J0_coder_7d493 : Cond.instanceMethod yJ0_coder_7d493 ∈ cm_all := cm_inT (cm_t3 _ (List.mem_of_getElem? (i := 72) (by decide +kernel))) rfl
theorem kx_J0_coder_7d493 : Cond.selects yJ0_coder_7d493.cls yJ0_coder_7d493 yJ0_coder_7d493 ∈ cm_all := cm_inT (cm_t3 _ (List.mem_of_getElem? (i := 73) (by decide +kernel))) rfl
theorem kc_J0_coder_7d493 : Cond.code yJ0_coder_7d493 cJ0_coder_7d493 1 (some .byte) ∈ cm_all := cm_inT (cm_t3 _ (List.mem_of_getElem? (i := 74) (by decide +kernel))) rfl
theorem kl_RJ0_38 : Cond.fieldLink RJ0 38 "java/lang/String" "COMPACT_STRINGS" "Z" ∈ cm_all := cm_inT (cm_t3 _ (List.mem_of_getElem? (i := 75) (by decide +kernel))) rfl
theorem kl_RX6_227 : Cond.methodLinkNest RX6 227 yX10_at "CellCycler" ∈ cm_all := cm_inT (cm_t3 _ (List.mem_of_getElem? (i := 77) (by decide +kernel))) rfl
theorem ks_X10_at : Cond.static yX10_at ∈ cm_all := cm_inT (cm_t3 _ (List.mem_of_getElem? (i := 78) (by decide +kernel))) rfl
theorem kc_X10_at : Cond.code yX10_at cX10_at 2 (some .int) ∈ cm_all := cm_inT (cm_t3 _ (List.mem_of_getElem? (i := 79) (by decide +kernel))) rfl
theorem kl_RX6_231 : Cond.methodLink RX6 231 yJ0_charAt_5068e ∈ cm_all := cm_inT (cm_t3 _ (List.mem_of_getElem? (i := 80) (by decide +kernel))) rfl
theorem kv_J0_charAt_5068e : Cond.instanceMethod yJ0_charAt_5068e ∈ cm_all := cm_inT (cm_t3 _ (List.mem_of_getElem? (i := 81) (by decide +kernel))) rfl
theorem kx_J0_charAt_5068e : Cond.selects yJ0_charAt_5068e.cls yJ0_charAt_5068e yJ0_charAt_5068e ∈ cm_all := cm_inT (cm_t3 _ (List.mem_of_getElem? (i := 82) (by decide +kernel))) rfl
theorem kc_J0_charAt_5068e : Cond.code yJ0_charAt_5068e cJ0_charAt_5068e 2 (some .char) ∈ cm_all := cm_inT (cm_t3 _ (List.mem_of_getElem? (i := 83) (by decide +kernel))) rfl
theorem kl_RJ0_492 : Cond.methodLink RJ0 492 yJ0_isLatin1_aae02 ∈ cm_all := cm_inT (cm_t3 _ (List.mem_of_getElem? (i := 84) (by decide +kernel))) rfl
theorem kv_J0_isLatin1_aae02 : Cond.instanceMethod yJ0_isLatin1_aae02 ∈ cm_all := cm_inT (cm_t3 _ (List.mem_of_getElem? (i := 85) (by decide +kernel))) rfl
theorem kx_J0_isLatin1_aae02 : Cond.selects yJ0_isLatin1_aae02.cls yJ0_isLatin1_aae02 yJ0_isLatin1_aae02 ∈ cm_all := cm_inT (cm_t3 _ (List.mem_of_getElem? (i := 86) (by decide +kernel))) rfl
theorem kc_J0_isLatin1_aae02 : Cond.code yJ0_isLatin1_aae02 cJ0_isLatin1_aae02 1 (some .boolean) ∈ cm_all := cm_inT (cm_t3 _ (List.mem_of_getElem? (i := 87) (by decide +kernel))) rfl
theorem kl_RJ0_495 : Cond.methodLink RJ0 495 yJ1_charAt_3b067 ∈ cm_all := cm_inT (cm_t3 _ (List.mem_of_getElem? (i := 88) (by decide +kernel))) rfl
theorem ks_J1_charAt_3b067 : Cond.static yJ1_charAt_3b067 ∈ cm_all := cm_inT (cm_t3 _ (List.mem_of_getElem? (i := 89) (by decide +kernel))) rfl
theorem kc_J1_charAt_3b067 : Cond.code yJ1_charAt_3b067 cJ1_charAt_3b067 2 (some .char) ∈ cm_all := cm_inT (cm_t3 _ (List.mem_of_getElem? (i := 90) (by decide +kernel))) rfl
theorem kl_RJ1_9 : Cond.methodLink RJ1 9 yJ0_checkIndex_df160 ∈ cm_all := cm_inT (cm_t3 _ (List.mem_of_getElem? (i := 91) (by decide +kernel))) rfl
theorem ks_J0_checkIndex_df160 : Cond.static yJ0_checkIndex_df160 ∈ cm_all := cm_inT (cm_t3 _ (List.mem_of_getElem? (i := 92) (by decide +kernel))) rfl
theorem kc_J0_checkIndex_df160 : Cond.code yJ0_checkIndex_df160 cJ0_checkIndex_df160 2 none ∈ cm_all := cm_inT (cm_t3 _ (List.mem_of_getElem? (i := 93) (by decide +kernel))) rfl
theorem kl_RJ0_1053 : Cond.fieldLink RJ0 1053 "jdk/internal/util/Preconditions" "SIOOBE_FORMATTER" "Ljava/util/function/BiFunction;" ∈ cm_all := cm_inT (cm_t3 _ (List.mem_of_getElem? (i := 94) (by decide +kernel))) rfl
theorem kl_RJ0_1059 : Cond.methodLink RJ0 1059 yJ3_checkIndex_8e157 ∈ cm_all := cm_inT (cm_t3 _ (List.mem_of_getElem? (i := 96) (by decide +kernel))) rfl
theorem ks_J3_checkIndex_8e157 : Cond.static yJ3_checkIndex_8e157 ∈ cm_all := cm_inT (cm_t3 _ (List.mem_of_getElem? (i := 97) (by decide +kernel))) rfl
theorem kc_J3_checkIndex_8e157 : Cond.code yJ3_checkIndex_8e157 cJ3_checkIndex_8e157 3 (some .int) ∈ cm_all := cm_inT (cm_t3 _ (List.mem_of_getElem? (i := 98) (by decide +kernel))) rfl
theorem kl_RJ0_498 : Cond.methodLink RJ0 498 yJ2_charAt_3b067 ∈ cm_all := cm_inT (cm_t3 _ (List.mem_of_getElem? (i := 99) (by decide +kernel))) rfl
theorem ks_J2_charAt_3b067 : Cond.static yJ2_charAt_3b067 ∈ cm_all := cm_inT (cm_t3 _ (List.mem_of_getElem? (i := 100) (by decide +kernel))) rfl
theorem kc_J2_charAt_3b067 : Cond.code yJ2_charAt_3b067 cJ2_charAt_3b067 2 (some .char) ∈ cm_all := cm_inT (cm_t3 _ (List.mem_of_getElem? (i := 101) (by decide +kernel))) rfl
theorem kl_RJ2_67 : Cond.methodLink RJ2 67 yJ2_checkIndex_2214a ∈ cm_all := cm_inT (cm_t3 _ (List.mem_of_getElem? (i := 102) (by decide +kernel))) rfl
theorem ks_J2_checkIndex_2214a : Cond.static yJ2_checkIndex_2214a ∈ cm_all := cm_inT (cm_t3 _ (List.mem_of_getElem? (i := 103) (by decide +kernel))) rfl
theorem kc_J2_checkIndex_2214a : Cond.code yJ2_checkIndex_2214a cJ2_checkIndex_2214a 2 none ∈ cm_all := cm_inT (cm_t3 _ (List.mem_of_getElem? (i := 104) (by decide +kernel))) rfl
theorem kl_RJ2_48 : Cond.methodLink RJ2 48 yJ2_length_9d52b ∈ cm_all := cm_inT (cm_t3 _ (List.mem_of_getElem? (i := 105) (by decide +kernel))) rfl
theorem ks_J2_length_9d52b : Cond.static yJ2_length_9d52b ∈ cm_all := cm_inT (cm_t3 _ (List.mem_of_getElem? (i := 106) (by decide +kernel))) rfl
theorem kc_J2_length_9d52b : Cond.code yJ2_length_9d52b cJ2_length_9d52b 1 (some .int) ∈ cm_all := cm_inT (cm_t3 _ (List.mem_of_getElem? (i := 107) (by decide +kernel))) rfl
theorem kl_RJ2_414 : Cond.methodLink RJ2 414 yJ0_checkIndex_df160 ∈ cm_all := cm_inT (cm_t3 _ (List.mem_of_getElem? (i := 108) (by decide +kernel))) rfl
theorem kl_RJ2_71 : Cond.methodLink RJ2 71 yJ2_getChar_3b067 ∈ cm_all := cm_inT (cm_t3 _ (List.mem_of_getElem? (i := 109) (by decide +kernel))) rfl
theorem ks_J2_getChar_3b067 : Cond.static yJ2_getChar_3b067 ∈ cm_all := cm_inT (cm_t3 _ (List.mem_of_getElem? (i := 110) (by decide +kernel))) rfl
theorem kc_J2_getChar_3b067 : Cond.code yJ2_getChar_3b067 cJ2_getChar_3b067 2 (some .char) ∈ cm_all := cm_inT (cm_t3 _ (List.mem_of_getElem? (i := 111) (by decide +kernel))) rfl
theorem kl_RJ2_44 : Cond.fieldLink RJ2 44 "java/lang/StringUTF16" "$assertionsDisabled" "Z" ∈ cm_all := cm_inT (cm_t3 _ (List.mem_of_getElem? (i := 112) (by decide +kernel))) rfl
theorem kl_RJ2_59 : Cond.fieldLink RJ2 59 "java/lang/StringUTF16" "HI_BYTE_SHIFT" "I" ∈ cm_all := cm_inT (cm_t3 _ (List.mem_of_getElem? (i := 114) (by decide +kernel))) rfl
theorem kl_RJ2_63 : Cond.fieldLink RJ2 63 "java/lang/StringUTF16" "LO_BYTE_SHIFT" "I" ∈ cm_all := cm_inT (cm_t3 _ (List.mem_of_getElem? (i := 116) (by decide +kernel))) rfl
theorem kl_RX6_32 : Cond.methodLink RX6 32 yX6_readCurve ∈ cm_all := cm_inT (cm_t3 _ (List.mem_of_getElem? (i := 118) (by decide +kernel))) rfl
theorem kv_X6_readCurve : Cond.instanceMethod yX6_readCurve ∈ cm_all := cm_inT (cm_t3 _ (List.mem_of_getElem? (i := 120) (by decide +kernel))) rfl
theorem kc_X6_readCurve : Cond.code yX6_readCurve cX6_readCurve 6 none ∈ cm_all := cm_inT (cm_t3 _ (List.mem_of_getElem? (i := 121) (by decide +kernel))) rfl
theorem kl_RX6_142 : Cond.methodLinkNest RX6 142 yX10_nameCode "CellCycler" ∈ cm_all := cm_inT (cm_t3 _ (List.mem_of_getElem? (i := 122) (by decide +kernel))) rfl
theorem ks_X10_nameCode : Cond.static yX10_nameCode ∈ cm_all := cm_inT (cm_t3 _ (List.mem_of_getElem? (i := 123) (by decide +kernel))) rfl
theorem kc_X10_nameCode : Cond.code yX10_nameCode cX10_nameCode 6 (some .long) ∈ cm_all := cm_inT (cm_t3 _ (List.mem_of_getElem? (i := 124) (by decide +kernel))) rfl
theorem kl_RX10_377 : Cond.constantLong RX10 377 (256) ∈ cm_all := cm_inT (cm_t3 _ (List.mem_of_getElem? (i := 125) (by decide +kernel))) rfl
theorem kl_RX10_216 : Cond.methodLink RX10 216 yX10_at ∈ cm_all := cm_inT (cm_t3 _ (List.mem_of_getElem? (i := 126) (by decide +kernel))) rfl
theorem kl_RX6_146 : Cond.methodLinkNest RX6 146 yX2_find "CellCycler" ∈ cm_all := cm_inT (cm_t3 _ (List.mem_of_getElem? (i := 127) (by decide +kernel))) rfl
theorem kv_X2_find : Cond.instanceMethod yX2_find ∈ cm_all := cm_inT (cm_t3 _ (List.mem_of_getElem? (i := 129) (by decide +kernel))) rfl
theorem kc_X2_find : Cond.code yX2_find cX2_find 4 (some .int) ∈ cm_all := cm_inT (cm_t3 _ (List.mem_of_getElem? (i := 130) (by decide +kernel))) rfl
theorem kl_RX6_150 : Cond.methodLinkNest RX6 150 yX2_add "CellCycler" ∈ cm_all := cm_inT (cm_t3 _ (List.mem_of_getElem? (i := 131) (by decide +kernel))) rfl
theorem kv_X2_add : Cond.instanceMethod yX2_add ∈ cm_all := cm_inT (cm_t3 _ (List.mem_of_getElem? (i := 133) (by decide +kernel))) rfl
theorem kc_X2_add : Cond.code yX2_add cX2_add 3 none ∈ cm_all := cm_inT (cm_t3 _ (List.mem_of_getElem? (i := 134) (by decide +kernel))) rfl
theorem kl_RX2_26 : Cond.methodLinkNest RX2 26 yX10_put "CellCycler" ∈ cm_all := cm_inT (cm_t3 _ (List.mem_of_getElem? (i := 135) (by decide +kernel))) rfl
theorem kl_RX6_154 : Cond.methodLink RX6 154 yX6_isDigit ∈ cm_all := cm_inT (cm_t3 _ (List.mem_of_getElem? (i := 136) (by decide +kernel))) rfl
theorem ks_X6_isDigit : Cond.static yX6_isDigit ∈ cm_all := cm_inT (cm_t3 _ (List.mem_of_getElem? (i := 137) (by decide +kernel))) rfl
theorem kc_X6_isDigit : Cond.code yX6_isDigit cX6_isDigit 1 (some .boolean) ∈ cm_all := cm_inT (cm_t3 _ (List.mem_of_getElem? (i := 138) (by decide +kernel))) rfl
theorem kl_RX6_74 : Cond.methodLink RX6 74 yX6_readNumber ∈ cm_all := cm_inT (cm_t3 _ (List.mem_of_getElem? (i := 139) (by decide +kernel))) rfl
theorem kv_X6_readNumber : Cond.instanceMethod yX6_readNumber ∈ cm_all := cm_inT (cm_t3 _ (List.mem_of_getElem? (i := 141) (by decide +kernel))) rfl
theorem kc_X6_readNumber : Cond.code yX6_readNumber cX6_readNumber 5 (some .int) ∈ cm_all := cm_inT (cm_t3 _ (List.mem_of_getElem? (i := 142) (by decide +kernel))) rfl
theorem kl_RX6_235 : Cond.constant RX6 235 (100000000) ∈ cm_all := cm_inT (cm_t3 _ (List.mem_of_getElem? (i := 143) (by decide +kernel))) rfl
theorem kl_RX6_91 : Cond.methodLink RX6 91 yJ9_min_7cf53 ∈ cm_all := cm_inT (cm_t3 _ (List.mem_of_getElem? (i := 144) (by decide +kernel))) rfl
theorem ks_J9_min_7cf53 : Cond.static yJ9_min_7cf53 ∈ cm_all := cm_inT (cm_t3 _ (List.mem_of_getElem? (i := 145) (by decide +kernel))) rfl
theorem kc_J9_min_7cf53 : Cond.code yJ9_min_7cf53 cJ9_min_7cf53 2 (some .int) ∈ cm_all := cm_inT (cm_t3 _ (List.mem_of_getElem? (i := 146) (by decide +kernel))) rfl
theorem kl_RX6_158 : Cond.methodLinkNest RX6 158 yX2_addVoltageToLast "CellCycler" ∈ cm_all := cm_inT (cm_t3 _ (List.mem_of_getElem? (i := 147) (by decide +kernel))) rfl
theorem kv_X2_addVoltageToLast : Cond.instanceMethod yX2_addVoltageToLast ∈ cm_all := cm_inT (cm_t3 _ (List.mem_of_getElem? (i := 149) (by decide +kernel))) rfl
theorem kc_X2_addVoltageToLast : Cond.code yX2_addVoltageToLast cX2_addVoltageToLast 4 none ∈ cm_all := cm_inT (cm_t3 _ (List.mem_of_getElem? (i := 150) (by decide +kernel))) rfl
theorem kl_RX2_30 : Cond.methodLinkNest RX2 30 yX10_at "CellCycler" ∈ cm_all := cm_inT (cm_t3 _ (List.mem_of_getElem? (i := 151) (by decide +kernel))) rfl
theorem kl_RX6_37 : Cond.methodLink RX6 37 yX6_readCell ∈ cm_all := cm_inT (cm_t3 _ (List.mem_of_getElem? (i := 153) (by decide +kernel))) rfl
theorem kv_X6_readCell : Cond.instanceMethod yX6_readCell ∈ cm_all := cm_inT (cm_t3 _ (List.mem_of_getElem? (i := 155) (by decide +kernel))) rfl
theorem kc_X6_readCell : Cond.code yX6_readCell cX6_readCell 5 none ∈ cm_all := cm_inT (cm_t3 _ (List.mem_of_getElem? (i := 156) (by decide +kernel))) rfl
theorem kl_RX6_165 : Cond.methodLinkNest RX6 165 yX9_channelAt "CellCycler" ∈ cm_all := cm_inT (cm_t3 _ (List.mem_of_getElem? (i := 157) (by decide +kernel))) rfl
theorem kv_X9_channelAt : Cond.instanceMethod yX9_channelAt ∈ cm_all := cm_inT (cm_t3 _ (List.mem_of_getElem? (i := 159) (by decide +kernel))) rfl
theorem kc_X9_channelAt : Cond.code yX9_channelAt cX9_channelAt 2 (some (.object "CellCycler$Channel")) ∈ cm_all := cm_inT (cm_t3 _ (List.mem_of_getElem? (i := 160) (by decide +kernel))) rfl
theorem kl_RX6_174 : Cond.methodLinkNest RX6 174 yX0_takeCurve "CellCycler" ∈ cm_all := cm_inT (cm_t3 _ (List.mem_of_getElem? (i := 161) (by decide +kernel))) rfl
theorem kv_X0_takeCurve : Cond.instanceMethod yX0_takeCurve ∈ cm_all := cm_inT (cm_t3 _ (List.mem_of_getElem? (i := 163) (by decide +kernel))) rfl
theorem kc_X0_takeCurve : Cond.code yX0_takeCurve cX0_takeCurve 4 none ∈ cm_all := cm_inT (cm_t3 _ (List.mem_of_getElem? (i := 164) (by decide +kernel))) rfl
theorem kl_RX0_27 : Cond.methodLinkNest RX0 27 yX10_at "CellCycler" ∈ cm_all := cm_inT (cm_t3 _ (List.mem_of_getElem? (i := 165) (by decide +kernel))) rfl
theorem kl_RX0_34 : Cond.methodLinkNest RX0 34 yX2_voltageOf "CellCycler" ∈ cm_all := cm_inT (cm_t3 _ (List.mem_of_getElem? (i := 166) (by decide +kernel))) rfl
theorem kv_X2_voltageOf : Cond.instanceMethod yX2_voltageOf ∈ cm_all := cm_inT (cm_t3 _ (List.mem_of_getElem? (i := 168) (by decide +kernel))) rfl
theorem kc_X2_voltageOf : Cond.code yX2_voltageOf cX2_voltageOf 3 (some .int) ∈ cm_all := cm_inT (cm_t3 _ (List.mem_of_getElem? (i := 169) (by decide +kernel))) rfl
theorem kl_RX0_38 : Cond.methodLinkNest RX0 38 yX10_put "CellCycler" ∈ cm_all := cm_inT (cm_t3 _ (List.mem_of_getElem? (i := 170) (by decide +kernel))) rfl
theorem kl_RX6_180 : Cond.constant RX6 180 (100000) ∈ cm_all := cm_inT (cm_t3 _ (List.mem_of_getElem? (i := 171) (by decide +kernel))) rfl
theorem kl_RX6_42 : Cond.methodLink RX6 42 yX6_readProgram ∈ cm_all := cm_inT (cm_t3 _ (List.mem_of_getElem? (i := 173) (by decide +kernel))) rfl
theorem kv_X6_readProgram : Cond.instanceMethod yX6_readProgram ∈ cm_all := cm_inT (cm_t3 _ (List.mem_of_getElem? (i := 175) (by decide +kernel))) rfl
theorem kc_X6_readProgram : Cond.code yX6_readProgram cX6_readProgram 3 none ∈ cm_all := cm_inT (cm_t3 _ (List.mem_of_getElem? (i := 176) (by decide +kernel))) rfl
theorem kl_RX6_200 : Cond.methodLinkNest RX6 200 yX5_add "CellCycler" ∈ cm_all := cm_inT (cm_t3 _ (List.mem_of_getElem? (i := 177) (by decide +kernel))) rfl
theorem kv_X5_add : Cond.instanceMethod yX5_add ∈ cm_all := cm_inT (cm_t3 _ (List.mem_of_getElem? (i := 179) (by decide +kernel))) rfl
theorem kc_X5_add : Cond.code yX5_add cX5_add 1 none ∈ cm_all := cm_inT (cm_t3 _ (List.mem_of_getElem? (i := 180) (by decide +kernel))) rfl
theorem kl_RX5_28 : Cond.methodLinkNest RX5 28 yX10_put "CellCycler" ∈ cm_all := cm_inT (cm_t3 _ (List.mem_of_getElem? (i := 181) (by decide +kernel))) rfl
theorem kl_RX6_205 : Cond.methodLink RX6 205 yX6_readStep ∈ cm_all := cm_inT (cm_t3 _ (List.mem_of_getElem? (i := 182) (by decide +kernel))) rfl
theorem kv_X6_readStep : Cond.instanceMethod yX6_readStep ∈ cm_all := cm_inT (cm_t3 _ (List.mem_of_getElem? (i := 184) (by decide +kernel))) rfl
theorem kc_X6_readStep : Cond.code yX6_readStep cX6_readStep 4 none ∈ cm_all := cm_inT (cm_t3 _ (List.mem_of_getElem? (i := 185) (by decide +kernel))) rfl
theorem kl_RX6_211 : Cond.methodLinkNest RX6 211 yX5_addStepToLast "CellCycler" ∈ cm_all := cm_inT (cm_t3 _ (List.mem_of_getElem? (i := 187) (by decide +kernel))) rfl
theorem kv_X5_addStepToLast : Cond.instanceMethod yX5_addStepToLast ∈ cm_all := cm_inT (cm_t3 _ (List.mem_of_getElem? (i := 189) (by decide +kernel))) rfl
theorem kc_X5_addStepToLast : Cond.code yX5_addStepToLast cX5_addStepToLast 6 none ∈ cm_all := cm_inT (cm_t3 _ (List.mem_of_getElem? (i := 190) (by decide +kernel))) rfl
theorem kl_RX5_32 : Cond.methodLinkNest RX5 32 yX10_at "CellCycler" ∈ cm_all := cm_inT (cm_t3 _ (List.mem_of_getElem? (i := 191) (by decide +kernel))) rfl
theorem kl_RX6_51 : Cond.methodLink RX6 51 yX6_readSetting ∈ cm_all := cm_inT (cm_t3 _ (List.mem_of_getElem? (i := 196) (by decide +kernel))) rfl
theorem kv_X6_readSetting : Cond.instanceMethod yX6_readSetting ∈ cm_all := cm_inT (cm_t3 _ (List.mem_of_getElem? (i := 198) (by decide +kernel))) rfl
theorem kc_X6_readSetting : Cond.code yX6_readSetting cX6_readSetting 2 none ∈ cm_all := cm_inT (cm_t3 _ (List.mem_of_getElem? (i := 199) (by decide +kernel))) rfl
theorem kl_RX6_84 : Cond.constant RX6 84 (1000000) ∈ cm_all := cm_inT (cm_t3 _ (List.mem_of_getElem? (i := 202) (by decide +kernel))) rfl
theorem kl_RX10_57 : Cond.methodLinkNest RX10 57 yX9_insertCells "CellCycler" ∈ cm_all := cm_inT (cm_t3 _ (List.mem_of_getElem? (i := 208) (by decide +kernel))) rfl
theorem kv_X9_insertCells : Cond.instanceMethod yX9_insertCells ∈ cm_all := cm_inT (cm_t3 _ (List.mem_of_getElem? (i := 210) (by decide +kernel))) rfl
theorem kc_X9_insertCells : Cond.code yX9_insertCells cX9_insertCells 3 none ∈ cm_all := cm_inT (cm_t3 _ (List.mem_of_getElem? (i := 211) (by decide +kernel))) rfl
theorem kl_RX9_68 : Cond.methodLink RX9 68 yX9_channelAt ∈ cm_all := cm_inT (cm_t3 _ (List.mem_of_getElem? (i := 212) (by decide +kernel))) rfl
theorem kl_RX9_87 : Cond.methodLinkNest RX9 87 yX1_insertCell "CellCycler" ∈ cm_all := cm_inT (cm_t3 _ (List.mem_of_getElem? (i := 213) (by decide +kernel))) rfl
theorem kv_X1_insertCell : Cond.instanceMethod yX1_insertCell ∈ cm_all := cm_inT (cm_t3 _ (List.mem_of_getElem? (i := 215) (by decide +kernel))) rfl
theorem kc_X1_insertCell : Cond.code yX1_insertCell cX1_insertCell 3 none ∈ cm_all := cm_inT (cm_t3 _ (List.mem_of_getElem? (i := 216) (by decide +kernel))) rfl
theorem kl_RX1_36 : Cond.methodLinkNest RX1 36 yX0_renew "CellCycler" ∈ cm_all := cm_inT (cm_t3 _ (List.mem_of_getElem? (i := 217) (by decide +kernel))) rfl
theorem kv_X0_renew : Cond.instanceMethod yX0_renew ∈ cm_all := cm_inT (cm_t3 _ (List.mem_of_getElem? (i := 219) (by decide +kernel))) rfl
theorem kc_X0_renew : Cond.code yX0_renew cX0_renew 3 none ∈ cm_all := cm_inT (cm_t3 _ (List.mem_of_getElem? (i := 220) (by decide +kernel))) rfl
theorem kl_RX0_72 : Cond.methodLinkNest RX0 72 yX3_clear "CellCycler" ∈ cm_all := cm_inT (cm_t3 _ (List.mem_of_getElem? (i := 221) (by decide +kernel))) rfl
theorem kv_X3_clear : Cond.instanceMethod yX3_clear ∈ cm_all := cm_inT (cm_t3 _ (List.mem_of_getElem? (i := 223) (by decide +kernel))) rfl
theorem kc_X3_clear : Cond.code yX3_clear cX3_clear 1 none ∈ cm_all := cm_inT (cm_t3 _ (List.mem_of_getElem? (i := 224) (by decide +kernel))) rfl
theorem kl_RX1_40 : Cond.methodLinkNest RX1 40 yX4_clear "CellCycler" ∈ cm_all := cm_inT (cm_t3 _ (List.mem_of_getElem? (i := 225) (by decide +kernel))) rfl
theorem kv_X4_clear : Cond.instanceMethod yX4_clear ∈ cm_all := cm_inT (cm_t3 _ (List.mem_of_getElem? (i := 227) (by decide +kernel))) rfl
theorem kc_X4_clear : Cond.code yX4_clear cX4_clear 1 none ∈ cm_all := cm_inT (cm_t3 _ (List.mem_of_getElem? (i := 228) (by decide +kernel))) rfl
theorem kl_RX4_34 : Cond.methodLinkNest RX4 34 yX10_clearRow "CellCycler" ∈ cm_all := cm_inT (cm_t3 _ (List.mem_of_getElem? (i := 229) (by decide +kernel))) rfl
theorem ks_X10_clearRow : Cond.static yX10_clearRow ∈ cm_all := cm_inT (cm_t3 _ (List.mem_of_getElem? (i := 230) (by decide +kernel))) rfl
theorem kc_X10_clearRow : Cond.code yX10_clearRow cX10_clearRow 2 none ∈ cm_all := cm_inT (cm_t3 _ (List.mem_of_getElem? (i := 231) (by decide +kernel))) rfl
theorem kl_RX1_55 : Cond.methodLinkNest RX1 55 yX10_clearRow "CellCycler" ∈ cm_all := cm_inT (cm_t3 _ (List.mem_of_getElem? (i := 232) (by decide +kernel))) rfl
theorem kl_RX10_60 : Cond.methodLinkNest RX10 60 yX9_copyFrom "CellCycler" ∈ cm_all := cm_inT (cm_t3 _ (List.mem_of_getElem? (i := 233) (by decide +kernel))) rfl
theorem kv_X9_copyFrom : Cond.instanceMethod yX9_copyFrom ∈ cm_all := cm_inT (cm_t3 _ (List.mem_of_getElem? (i := 235) (by decide +kernel))) rfl
theorem kc_X9_copyFrom : Cond.code yX9_copyFrom cX9_copyFrom 5 none ∈ cm_all := cm_inT (cm_t3 _ (List.mem_of_getElem? (i := 236) (by decide +kernel))) rfl
theorem kl_RX9_112 : Cond.methodLinkNest RX9 112 yX7_copyFrom "CellCycler" ∈ cm_all := cm_inT (cm_t3 _ (List.mem_of_getElem? (i := 237) (by decide +kernel))) rfl
theorem kv_X7_copyFrom : Cond.instanceMethod yX7_copyFrom ∈ cm_all := cm_inT (cm_t3 _ (List.mem_of_getElem? (i := 239) (by decide +kernel))) rfl
theorem kc_X7_copyFrom : Cond.code yX7_copyFrom cX7_copyFrom 2 none ∈ cm_all := cm_inT (cm_t4 _ (List.mem_of_getElem? (i := 0) (by decide +kernel))) rfl
theorem kl_RX9_116 : Cond.methodLinkNest RX9 116 yX2_copyFrom "CellCycler" ∈ cm_all := cm_inT (cm_t4 _ (List.mem_of_getElem? (i := 1) (by decide +kernel))) rfl
theorem kv_X2_copyFrom : Cond.instanceMethod yX2_copyFrom ∈ cm_all := cm_inT (cm_t4 _ (List.mem_of_getElem? (i := 3) (by decide +kernel))) rfl
theorem kc_X2_copyFrom : Cond.code yX2_copyFrom cX2_copyFrom 2 none ∈ cm_all := cm_inT (cm_t4 _ (List.mem_of_getElem? (i := 4) (by decide +kernel))) rfl
theorem kl_RX2_34 : Cond.methodLink RX2 34 yJ9_min_7cf53 ∈ cm_all := cm_inT (cm_t4 _ (List.mem_of_getElem? (i := 5) (by decide +kernel))) rfl
theorem kl_RX2_40 : Cond.methodLink RX2 40 ⟨"java/lang/System", "arraycopy", "(Ljava/lang/Object;ILjava/lang/Object;II)V"⟩ ∈ cm_all := cm_inT (cm_t4 _ (List.mem_of_getElem? (i := 6) (by decide +kernel))) rfl
theorem ks_java_lang_System_arraycopy : Cond.static ⟨"java/lang/System", "arraycopy", "(Ljava/lang/Object;ILjava/lang/Object;II)V"⟩ ∈ cm_all := cm_inT (cm_t4 _ (List.mem_of_getElem? (i := 7) (by decide +kernel))) rfl
theorem kna_java_lang_System_arraycopy : Cond.native ⟨"java/lang/System", "arraycopy", "(Ljava/lang/Object;ILjava/lang/Object;II)V"⟩ ∈ cm_all := cm_inT (cm_t4 _ (List.mem_of_getElem? (i := 8) (by decide +kernel))) rfl
theorem kl_RX2_46 : Cond.methodLinkNest RX2 46 yX10_copyRow "CellCycler" ∈ cm_all := cm_inT (cm_t4 _ (List.mem_of_getElem? (i := 9) (by decide +kernel))) rfl
theorem ks_X10_copyRow : Cond.static yX10_copyRow ∈ cm_all := cm_inT (cm_t4 _ (List.mem_of_getElem? (i := 10) (by decide +kernel))) rfl
theorem kc_X10_copyRow : Cond.code yX10_copyRow cX10_copyRow 2 none ∈ cm_all := cm_inT (cm_t4 _ (List.mem_of_getElem? (i := 11) (by decide +kernel))) rfl
theorem kl_RX10_368 : Cond.methodLink RX10 368 yJ9_min_7cf53 ∈ cm_all := cm_inT (cm_t4 _ (List.mem_of_getElem? (i := 12) (by decide +kernel))) rfl
theorem kl_RX10_371 : Cond.methodLink RX10 371 ⟨"java/lang/System", "arraycopy", "(Ljava/lang/Object;ILjava/lang/Object;II)V"⟩ ∈ cm_all := cm_inT (cm_t4 _ (List.mem_of_getElem? (i := 13) (by decide +kernel))) rfl
theorem kl_RX9_119 : Cond.methodLinkNest RX9 119 yX5_copyFrom "CellCycler" ∈ cm_all := cm_inT (cm_t4 _ (List.mem_of_getElem? (i := 14) (by decide +kernel))) rfl
theorem kv_X5_copyFrom : Cond.instanceMethod yX5_copyFrom ∈ cm_all := cm_inT (cm_t4 _ (List.mem_of_getElem? (i := 16) (by decide +kernel))) rfl
theorem kc_X5_copyFrom : Cond.code yX5_copyFrom cX5_copyFrom 2 none ∈ cm_all := cm_inT (cm_t4 _ (List.mem_of_getElem? (i := 17) (by decide +kernel))) rfl
theorem kl_RX5_36 : Cond.methodLinkNest RX5 36 yX10_copyRow "CellCycler" ∈ cm_all := cm_inT (cm_t4 _ (List.mem_of_getElem? (i := 18) (by decide +kernel))) rfl
theorem kl_RX9_122 : Cond.methodLinkNest RX9 122 yX1_copyFrom "CellCycler" ∈ cm_all := cm_inT (cm_t4 _ (List.mem_of_getElem? (i := 19) (by decide +kernel))) rfl
theorem kv_X1_copyFrom : Cond.instanceMethod yX1_copyFrom ∈ cm_all := cm_inT (cm_t4 _ (List.mem_of_getElem? (i := 21) (by decide +kernel))) rfl
theorem kc_X1_copyFrom : Cond.code yX1_copyFrom cX1_copyFrom 2 none ∈ cm_all := cm_inT (cm_t4 _ (List.mem_of_getElem? (i := 22) (by decide +kernel))) rfl
theorem kl_RX1_275 : Cond.methodLinkNest RX1 275 yX0_copyFrom "CellCycler" ∈ cm_all := cm_inT (cm_t4 _ (List.mem_of_getElem? (i := 23) (by decide +kernel))) rfl
theorem kv_X0_copyFrom : Cond.instanceMethod yX0_copyFrom ∈ cm_all := cm_inT (cm_t4 _ (List.mem_of_getElem? (i := 25) (by decide +kernel))) rfl
theorem kc_X0_copyFrom : Cond.code yX0_copyFrom cX0_copyFrom 2 none ∈ cm_all := cm_inT (cm_t4 _ (List.mem_of_getElem? (i := 26) (by decide +kernel))) rfl
theorem kl_RX0_164 : Cond.methodLinkNest RX0 164 yX10_copyRow "CellCycler" ∈ cm_all := cm_inT (cm_t4 _ (List.mem_of_getElem? (i := 27) (by decide +kernel))) rfl
theorem kl_RX0_168 : Cond.methodLinkNest RX0 168 yX3_copyFrom "CellCycler" ∈ cm_all := cm_inT (cm_t4 _ (List.mem_of_getElem? (i := 28) (by decide +kernel))) rfl
theorem kv_X3_copyFrom : Cond.instanceMethod yX3_copyFrom ∈ cm_all := cm_inT (cm_t4 _ (List.mem_of_getElem? (i := 30) (by decide +kernel))) rfl
theorem kc_X3_copyFrom : Cond.code yX3_copyFrom cX3_copyFrom 2 none ∈ cm_all := cm_inT (cm_t4 _ (List.mem_of_getElem? (i := 31) (by decide +kernel))) rfl
theorem kl_RX1_279 : Cond.methodLinkNest RX1 279 yX4_copyFrom "CellCycler" ∈ cm_all := cm_inT (cm_t4 _ (List.mem_of_getElem? (i := 32) (by decide +kernel))) rfl
theorem kv_X4_copyFrom : Cond.instanceMethod yX4_copyFrom ∈ cm_all := cm_inT (cm_t4 _ (List.mem_of_getElem? (i := 34) (by decide +kernel))) rfl
theorem kc_X4_copyFrom : Cond.code yX4_copyFrom cX4_copyFrom 2 none ∈ cm_all := cm_inT (cm_t4 _ (List.mem_of_getElem? (i := 35) (by decide +kernel))) rfl
theorem kl_RX4_52 : Cond.methodLinkNest RX4 52 yX10_copyRow "CellCycler" ∈ cm_all := cm_inT (cm_t4 _ (List.mem_of_getElem? (i := 36) (by decide +kernel))) rfl
theorem kl_RX1_282 : Cond.methodLinkNest RX1 282 yX10_copyRow "CellCycler" ∈ cm_all := cm_inT (cm_t4 _ (List.mem_of_getElem? (i := 37) (by decide +kernel))) rfl
theorem kl_RX9_125 : Cond.methodLinkNest RX9 125 yX8_copyFrom "CellCycler" ∈ cm_all := cm_inT (cm_t4 _ (List.mem_of_getElem? (i := 38) (by decide +kernel))) rfl
theorem kv_X8_copyFrom : Cond.instanceMethod yX8_copyFrom ∈ cm_all := cm_inT (cm_t4 _ (List.mem_of_getElem? (i := 40) (by decide +kernel))) rfl
theorem kc_X8_copyFrom : Cond.code yX8_copyFrom cX8_copyFrom 2 none ∈ cm_all := cm_inT (cm_t4 _ (List.mem_of_getElem? (i := 41) (by decide +kernel))) rfl
theorem kl_RX8_42 : Cond.methodLinkNest RX8 42 yX10_copyRow "CellCycler" ∈ cm_all := cm_inT (cm_t4 _ (List.mem_of_getElem? (i := 42) (by decide +kernel))) rfl
theorem ka_byte : Cond.arrayClass .byte ∈ cm_all := cm_inT (cm_t4 _ (List.mem_of_getElem? (i := 43) (by decide +kernel))) rfl
theorem kl_RL_188 : Cond.methodLink RL 188 yX10_loadError ∈ cm_all := cm_inT (cm_t4 _ (List.mem_of_getElem? (i := 44) (by decide +kernel))) rfl
theorem kv_X10_loadError : Cond.instanceMethod yX10_loadError ∈ cm_all := cm_inT (cm_t4 _ (List.mem_of_getElem? (i := 45) (by decide +kernel))) rfl
theorem kx_X10_loadError : Cond.selects yX10_loadError.cls yX10_loadError yX10_loadError ∈ cm_all := cm_inT (cm_t4 _ (List.mem_of_getElem? (i := 46) (by decide +kernel))) rfl
theorem kc_X10_loadError : Cond.code yX10_loadError cX10_loadError 1 (some .int) ∈ cm_all := cm_inT (cm_t4 _ (List.mem_of_getElem? (i := 47) (by decide +kernel))) rfl
theorem kl_RL_192 : Cond.methodLink RL 192 yX10_curveNamed ∈ cm_all := cm_inT (cm_t4 _ (List.mem_of_getElem? (i := 48) (by decide +kernel))) rfl
theorem kv_X10_curveNamed : Cond.instanceMethod yX10_curveNamed ∈ cm_all := cm_inT (cm_t4 _ (List.mem_of_getElem? (i := 49) (by decide +kernel))) rfl
theorem kx_X10_curveNamed : Cond.selects yX10_curveNamed.cls yX10_curveNamed yX10_curveNamed ∈ cm_all := cm_inT (cm_t4 _ (List.mem_of_getElem? (i := 50) (by decide +kernel))) rfl
theorem kc_X10_curveNamed : Cond.code yX10_curveNamed cX10_curveNamed 2 (some .int) ∈ cm_all := cm_inT (cm_t4 _ (List.mem_of_getElem? (i := 51) (by decide +kernel))) rfl
theorem kl_RX10_71 : Cond.methodLink RX10 71 yX10_nameCode ∈ cm_all := cm_inT (cm_t4 _ (List.mem_of_getElem? (i := 52) (by decide +kernel))) rfl
theorem kl_RX10_75 : Cond.methodLinkNest RX10 75 yX2_find "CellCycler" ∈ cm_all := cm_inT (cm_t4 _ (List.mem_of_getElem? (i := 53) (by decide +kernel))) rfl
theorem kl_RL_222 : Cond.methodLink RL 222 yX10_now ∈ cm_all := cm_inT (cm_t4 _ (List.mem_of_getElem? (i := 54) (by decide +kernel))) rfl
theorem kv_X10_now : Cond.instanceMethod yX10_now ∈ cm_all := cm_inT (cm_t4 _ (List.mem_of_getElem? (i := 55) (by decide +kernel))) rfl
theorem kx_X10_now : Cond.selects yX10_now.cls yX10_now yX10_now ∈ cm_all := cm_inT (cm_t4 _ (List.mem_of_getElem? (i := 56) (by decide +kernel))) rfl
theorem kc_X10_now : Cond.code yX10_now cX10_now 1 (some .int) ∈ cm_all := cm_inT (cm_t4 _ (List.mem_of_getElem? (i := 57) (by decide +kernel))) rfl
theorem kl_RL_311 : Cond.methodLink RL 311 yX10_weakest ∈ cm_all := cm_inT (cm_t4 _ (List.mem_of_getElem? (i := 58) (by decide +kernel))) rfl
theorem kv_X10_weakest : Cond.instanceMethod yX10_weakest ∈ cm_all := cm_inT (cm_t4 _ (List.mem_of_getElem? (i := 59) (by decide +kernel))) rfl
theorem kx_X10_weakest : Cond.selects yX10_weakest.cls yX10_weakest yX10_weakest ∈ cm_all := cm_inT (cm_t4 _ (List.mem_of_getElem? (i := 60) (by decide +kernel))) rfl
theorem kc_X10_weakest : Cond.code yX10_weakest cX10_weakest 8 (some .int) ∈ cm_all := cm_inT (cm_t4 _ (List.mem_of_getElem? (i := 61) (by decide +kernel))) rfl
theorem kl_RX10_125 : Cond.methodLinkNest RX10 125 yX9_channelAt "CellCycler" ∈ cm_all := cm_inT (cm_t4 _ (List.mem_of_getElem? (i := 62) (by decide +kernel))) rfl
theorem kl_RX10_265 : Cond.constantLong RX10 265 (1000) ∈ cm_all := cm_inT (cm_t4 _ (List.mem_of_getElem? (i := 63) (by decide +kernel))) rfl
theorem kl_RX10_295 : Cond.methodLink RX10 295 yX10_quotient ∈ cm_all := cm_inT (cm_t4 _ (List.mem_of_getElem? (i := 64) (by decide +kernel))) rfl
theorem ks_X10_quotient : Cond.static yX10_quotient ∈ cm_all := cm_inT (cm_t4 _ (List.mem_of_getElem? (i := 65) (by decide +kernel))) rfl
theorem kc_X10_quotient : Cond.code yX10_quotient cX10_quotient 4 (some .long) ∈ cm_all := cm_inT (cm_t4 _ (List.mem_of_getElem? (i := 66) (by decide +kernel))) rfl
theorem kl_RL_315 : Cond.methodLink RL 315 yX10_hottest ∈ cm_all := cm_inT (cm_t4 _ (List.mem_of_getElem? (i := 67) (by decide +kernel))) rfl
theorem kv_X10_hottest : Cond.instanceMethod yX10_hottest ∈ cm_all := cm_inT (cm_t4 _ (List.mem_of_getElem? (i := 68) (by decide +kernel))) rfl
theorem kx_X10_hottest : Cond.selects yX10_hottest.cls yX10_hottest yX10_hottest ∈ cm_all := cm_inT (cm_t4 _ (List.mem_of_getElem? (i := 69) (by decide +kernel))) rfl
theorem kc_X10_hottest : Cond.code yX10_hottest cX10_hottest 5 (some .int) ∈ cm_all := cm_inT (cm_t4 _ (List.mem_of_getElem? (i := 70) (by decide +kernel))) rfl
theorem kl_RL_319 : Cond.methodLink RL 319 yX10_recordCount ∈ cm_all := cm_inT (cm_t4 _ (List.mem_of_getElem? (i := 71) (by decide +kernel))) rfl
theorem kv_X10_recordCount : Cond.instanceMethod yX10_recordCount ∈ cm_all := cm_inT (cm_t4 _ (List.mem_of_getElem? (i := 72) (by decide +kernel))) rfl
theorem kx_X10_recordCount : Cond.selects yX10_recordCount.cls yX10_recordCount yX10_recordCount ∈ cm_all := cm_inT (cm_t4 _ (List.mem_of_getElem? (i := 73) (by decide +kernel))) rfl
theorem kc_X10_recordCount : Cond.code yX10_recordCount cX10_recordCount 1 (some .int) ∈ cm_all := cm_inT (cm_t4 _ (List.mem_of_getElem? (i := 74) (by decide +kernel))) rfl
theorem kl_RL_332 : Cond.methodLink RL 332 yX10_logSize ∈ cm_all := cm_inT (cm_t4 _ (List.mem_of_getElem? (i := 75) (by decide +kernel))) rfl
theorem kv_X10_logSize : Cond.instanceMethod yX10_logSize ∈ cm_all := cm_inT (cm_t4 _ (List.mem_of_getElem? (i := 76) (by decide +kernel))) rfl
theorem kx_X10_logSize : Cond.selects yX10_logSize.cls yX10_logSize yX10_logSize ∈ cm_all := cm_inT (cm_t4 _ (List.mem_of_getElem? (i := 77) (by decide +kernel))) rfl
theorem kc_X10_logSize : Cond.code yX10_logSize cX10_logSize 1 (some .int) ∈ cm_all := cm_inT (cm_t4 _ (List.mem_of_getElem? (i := 78) (by decide +kernel))) rfl
theorem kl_RL_196 : Cond.methodLink RL 196 yL_count ∈ cm_all := cm_inT (cm_t4 _ (List.mem_of_getElem? (i := 79) (by decide +kernel))) rfl
theorem ks_L_count : Cond.static yL_count ∈ cm_all := cm_inT (cm_t4 _ (List.mem_of_getElem? (i := 80) (by decide +kernel))) rfl
theorem kw_L_count : Cond.codeWith yL_count cL_count 4 (some .int) [(0, 9, 12, 13)] ∈ cm_all := cm_inT (cm_t4 _ (List.mem_of_getElem? (i := 81) (by decide +kernel))) rfl
theorem kl_RL_13 : Cond.classLink RL 13 "java/lang/IllegalArgumentException" ∈ cm_all := cm_inT (cm_t4 _ (List.mem_of_getElem? (i := 82) (by decide +kernel))) rfl
theorem kl_RL_7 : Cond.methodLink RL 7 yX10_count ∈ cm_all := cm_inT (cm_t4 _ (List.mem_of_getElem? (i := 83) (by decide +kernel))) rfl
theorem kv_X10_count : Cond.instanceMethod yX10_count ∈ cm_all := cm_inT (cm_t4 _ (List.mem_of_getElem? (i := 84) (by decide +kernel))) rfl
theorem kx_X10_count : Cond.selects yX10_count.cls yX10_count yX10_count ∈ cm_all := cm_inT (cm_t4 _ (List.mem_of_getElem? (i := 85) (by decide +kernel))) rfl
theorem kc_X10_count : Cond.code yX10_count cX10_count 2 (some .int) ∈ cm_all := cm_inT (cm_t4 _ (List.mem_of_getElem? (i := 86) (by decide +kernel))) rfl
theorem kl_RX10_81 : Cond.methodLink RX10 81 yX10_needRange ∈ cm_all := cm_inT (cm_t4 _ (List.mem_of_getElem? (i := 87) (by decide +kernel))) rfl
theorem ks_X10_needRange : Cond.static yX10_needRange ∈ cm_all := cm_inT (cm_t4 _ (List.mem_of_getElem? (i := 88) (by decide +kernel))) rfl
theorem kc_X10_needRange : Cond.code yX10_needRange cX10_needRange 3 none ∈ cm_all := cm_inT (cm_t4 _ (List.mem_of_getElem? (i := 89) (by decide +kernel))) rfl
theorem kl_RX10_354 : Cond.classLink RX10 354 "java/lang/IllegalArgumentException" ∈ cm_all := cm_inT (cm_t4 _ (List.mem_of_getElem? (i := 90) (by decide +kernel))) rfl
theorem kl_java_lang_Throwable_198 : Cond.fieldLink "java/lang/Throwable" 198 "java/lang/Throwable" "backtrace" "Ljava/lang/Object;" ∈ cm_all := cm_inT (cm_t4 _ (List.mem_of_getElem? (i := 111) (by decide +kernel))) rfl
theorem kv_java_lang_Throwable_init : Cond.instanceMethod ⟨"java/lang/Throwable", "<init>", "()V"⟩ ∈ cm_all := cm_inT (cm_t4 _ (List.mem_of_getElem? (i := 113) (by decide +kernel))) rfl
theorem kc_java_lang_Throwable_init : Cond.code ⟨"java/lang/Throwable", "<init>", "()V"⟩ prog_24_method_1_code 1 none ∈ cm_all := cm_inT (cm_t4 _ (List.mem_of_getElem? (i := 114) (by decide +kernel))) rfl
theorem kl_java_lang_Throwable_1 : Cond.methodLink "java/lang/Throwable" 1 ⟨"java/lang/Object", "<init>", "()V"⟩ ∈ cm_all := cm_inT (cm_t4 _ (List.mem_of_getElem? (i := 115) (by decide +kernel))) rfl
theorem kl_java_lang_Throwable_13 : Cond.fieldLink "java/lang/Throwable" 13 "java/lang/Throwable" "UNASSIGNED_STACK" "[Ljava/lang/StackTraceElement;" ∈ cm_all := cm_inT (cm_t4 _ (List.mem_of_getElem? (i := 116) (by decide +kernel))) rfl
theorem kl_java_lang_Throwable_20 : Cond.fieldLink "java/lang/Throwable" 20 "java/lang/Throwable" "SUPPRESSED_SENTINEL" "Ljava/util/List;" ∈ cm_all := cm_inT (cm_t4 _ (List.mem_of_getElem? (i := 118) (by decide +kernel))) rfl
theorem kl_java_lang_Throwable_27 : Cond.methodLink "java/lang/Throwable" 27 ⟨"java/lang/Throwable", "fillInStackTrace", "()Ljava/lang/Throwable;"⟩ ∈ cm_all := cm_inT (cm_t4 _ (List.mem_of_getElem? (i := 120) (by decide +kernel))) rfl
theorem kv_java_lang_Throwable_fillInStackTrace : Cond.instanceMethod ⟨"java/lang/Throwable", "fillInStackTrace", "()Ljava/lang/Throwable;"⟩ ∈ cm_all := cm_inT (cm_t4 _ (List.mem_of_getElem? (i := 121) (by decide +kernel))) rfl
theorem kl_java_lang_Throwable_202 : Cond.methodLink "java/lang/Throwable" 202 ⟨"java/lang/Throwable", "fillInStackTrace", "(I)Ljava/lang/Throwable;"⟩ ∈ cm_all := cm_inT (cm_t4 _ (List.mem_of_getElem? (i := 125) (by decide +kernel))) rfl
theorem kna_java_lang_Throwable_fillInStackTrace : Cond.native ⟨"java/lang/Throwable", "fillInStackTrace", "(I)Ljava/lang/Throwable;"⟩ ∈ cm_all := cm_inT (cm_t4 _ (List.mem_of_getElem? (i := 129) (by decide +kernel))) rfl
theorem kl_RX10_356 : Cond.methodLink RX10 356 ⟨"java/lang/IllegalArgumentException", "<init>", "()V"⟩ ∈ cm_all := cm_inT (cm_t4 _ (List.mem_of_getElem? (i := 130) (by decide +kernel))) rfl
theorem kv_java_lang_IllegalArgumentException_init : Cond.instanceMethod ⟨"java/lang/IllegalArgumentException", "<init>", "()V"⟩ ∈ cm_all := cm_inT (cm_t4 _ (List.mem_of_getElem? (i := 131) (by decide +kernel))) rfl
theorem kc_java_lang_IllegalArgumentException_init : Cond.code ⟨"java/lang/IllegalArgumentException", "<init>", "()V"⟩ prog_15_method_1_code 1 none ∈ cm_all := cm_inT (cm_t4 _ (List.mem_of_getElem? (i := 132) (by decide +kernel))) rfl
theorem kl_java_lang_IllegalArgumentException_1 : Cond.methodLink "java/lang/IllegalArgumentException" 1 ⟨"java/lang/RuntimeException", "<init>", "()V"⟩ ∈ cm_all := cm_inT (cm_t4 _ (List.mem_of_getElem? (i := 133) (by decide +kernel))) rfl
theorem kv_java_lang_RuntimeException_init : Cond.instanceMethod ⟨"java/lang/RuntimeException", "<init>", "()V"⟩ ∈ cm_all := cm_inT (cm_t4 _ (List.mem_of_getElem? (i := 134) (by decide +kernel))) rfl
theorem kc_java_lang_RuntimeException_init : Cond.code ⟨"java/lang/RuntimeException", "<init>", "()V"⟩ prog_19_method_1_code 1 none ∈ cm_all := cm_inT (cm_t4 _ (List.mem_of_getElem? (i := 135) (by decide +kernel))) rfl
theorem kl_java_lang_RuntimeException_1 : Cond.methodLink "java/lang/RuntimeException" 1 ⟨"java/lang/Exception", "<init>", "()V"⟩ ∈ cm_all := cm_inT (cm_t4 _ (List.mem_of_getElem? (i := 136) (by decide +kernel))) rfl
theorem kv_java_lang_Exception_init : Cond.instanceMethod ⟨"java/lang/Exception", "<init>", "()V"⟩ ∈ cm_all := cm_inT (cm_t4 _ (List.mem_of_getElem? (i := 137) (by decide +kernel))) rfl
theorem kc_java_lang_Exception_init : Cond.code ⟨"java/lang/Exception", "<init>", "()V"⟩ prog_14_method_1_code 1 none ∈ cm_all := cm_inT (cm_t4 _ (List.mem_of_getElem? (i := 138) (by decide +kernel))) rfl
theorem kl_java_lang_Exception_1 : Cond.methodLink "java/lang/Exception" 1 ⟨"java/lang/Throwable", "<init>", "()V"⟩ ∈ cm_all := cm_inT (cm_t4 _ (List.mem_of_getElem? (i := 139) (by decide +kernel))) rfl
theorem kl_java_lang_Throwable_7 : Cond.fieldLink "java/lang/Throwable" 7 "java/lang/Throwable" "cause" "Ljava/lang/Throwable;" ∈ cm_all := cm_inT (cm_t4 _ (List.mem_of_getElem? (i := 141) (by decide +kernel))) rfl
theorem kl_java_lang_Throwable_17 : Cond.fieldLink "java/lang/Throwable" 17 "java/lang/Throwable" "stackTrace" "[Ljava/lang/StackTraceElement;" ∈ cm_all := cm_inT (cm_t4 _ (List.mem_of_getElem? (i := 142) (by decide +kernel))) rfl
theorem kl_java_lang_Throwable_24 : Cond.fieldLink "java/lang/Throwable" 24 "java/lang/Throwable" "suppressedExceptions" "Ljava/util/List;" ∈ cm_all := cm_inT (cm_t4 _ (List.mem_of_getElem? (i := 143) (by decide +kernel))) rfl
theorem kl_RL_205 : Cond.methodLink RL 205 yL_setting ∈ cm_all := cm_inT (cm_t4 _ (List.mem_of_getElem? (i := 152) (by decide +kernel))) rfl
theorem ks_L_setting : Cond.static yL_setting ∈ cm_all := cm_inT (cm_t4 _ (List.mem_of_getElem? (i := 153) (by decide +kernel))) rfl
theorem kw_L_setting : Cond.codeWith yL_setting cL_setting 4 (some .int) [(0, 9, 12, 13)] ∈ cm_all := cm_inT (cm_t4 _ (List.mem_of_getElem? (i := 154) (by decide +kernel))) rfl
theorem kl_RL_15 : Cond.methodLink RL 15 yX10_setting ∈ cm_all := cm_inT (cm_t4 _ (List.mem_of_getElem? (i := 155) (by decide +kernel))) rfl
theorem kv_X10_setting : Cond.instanceMethod yX10_setting ∈ cm_all := cm_inT (cm_t4 _ (List.mem_of_getElem? (i := 156) (by decide +kernel))) rfl
theorem kx_X10_setting : Cond.selects yX10_setting.cls yX10_setting yX10_setting ∈ cm_all := cm_inT (cm_t4 _ (List.mem_of_getElem? (i := 157) (by decide +kernel))) rfl
theorem kc_X10_setting : Cond.code yX10_setting cX10_setting 3 (some .int) ∈ cm_all := cm_inT (cm_t4 _ (List.mem_of_getElem? (i := 158) (by decide +kernel))) rfl
theorem kl_RL_208 : Cond.methodLink RL 208 yL_setAmbient ∈ cm_all := cm_inT (cm_t4 _ (List.mem_of_getElem? (i := 159) (by decide +kernel))) rfl
theorem ks_L_setAmbient : Cond.static yL_setAmbient ∈ cm_all := cm_inT (cm_t4 _ (List.mem_of_getElem? (i := 160) (by decide +kernel))) rfl
theorem kw_L_setAmbient : Cond.codeWith yL_setAmbient cL_setAmbient 4 (some .int) [(0, 9, 12, 13)] ∈ cm_all := cm_inT (cm_t4 _ (List.mem_of_getElem? (i := 161) (by decide +kernel))) rfl
theorem kl_RL_18 : Cond.methodLink RL 18 yX10_setAmbient ∈ cm_all := cm_inT (cm_t4 _ (List.mem_of_getElem? (i := 162) (by decide +kernel))) rfl
theorem kv_X10_setAmbient : Cond.instanceMethod yX10_setAmbient ∈ cm_all := cm_inT (cm_t4 _ (List.mem_of_getElem? (i := 163) (by decide +kernel))) rfl
theorem kx_X10_setAmbient : Cond.selects yX10_setAmbient.cls yX10_setAmbient yX10_setAmbient ∈ cm_all := cm_inT (cm_t4 _ (List.mem_of_getElem? (i := 164) (by decide +kernel))) rfl
theorem kc_X10_setAmbient : Cond.code yX10_setAmbient cX10_setAmbient 3 (some .int) ∈ cm_all := cm_inT (cm_t4 _ (List.mem_of_getElem? (i := 165) (by decide +kernel))) rfl
theorem kl_RL_211 : Cond.methodLink RL 211 yL_setLimits ∈ cm_all := cm_inT (cm_t4 _ (List.mem_of_getElem? (i := 166) (by decide +kernel))) rfl
theorem ks_L_setLimits : Cond.static yL_setLimits ∈ cm_all := cm_inT (cm_t4 _ (List.mem_of_getElem? (i := 167) (by decide +kernel))) rfl
theorem kw_L_setLimits : Cond.codeWith yL_setLimits cL_setLimits 5 (some .int) [(0, 10, 13, 13)] ∈ cm_all := cm_inT (cm_t4 _ (List.mem_of_getElem? (i := 168) (by decide +kernel))) rfl
theorem kl_RL_21 : Cond.methodLink RL 21 yX10_setLimits ∈ cm_all := cm_inT (cm_t4 _ (List.mem_of_getElem? (i := 169) (by decide +kernel))) rfl
theorem kv_X10_setLimits : Cond.instanceMethod yX10_setLimits ∈ cm_all := cm_inT (cm_t4 _ (List.mem_of_getElem? (i := 170) (by decide +kernel))) rfl
theorem kx_X10_setLimits : Cond.selects yX10_setLimits.cls yX10_setLimits yX10_setLimits ∈ cm_all := cm_inT (cm_t4 _ (List.mem_of_getElem? (i := 171) (by decide +kernel))) rfl
theorem kc_X10_setLimits : Cond.code yX10_setLimits cX10_setLimits 6 (some .int) ∈ cm_all := cm_inT (cm_t4 _ (List.mem_of_getElem? (i := 172) (by decide +kernel))) rfl
theorem kl_RL_215 : Cond.methodLink RL 215 yL_setDerate ∈ cm_all := cm_inT (cm_t4 _ (List.mem_of_getElem? (i := 173) (by decide +kernel))) rfl
theorem ks_L_setDerate : Cond.static yL_setDerate ∈ cm_all := cm_inT (cm_t4 _ (List.mem_of_getElem? (i := 174) (by decide +kernel))) rfl
theorem kw_L_setDerate : Cond.codeWith yL_setDerate cL_setDerate 4 (some .int) [(0, 9, 12, 13)] ∈ cm_all := cm_inT (cm_t4 _ (List.mem_of_getElem? (i := 175) (by decide +kernel))) rfl
theorem kl_RL_25 : Cond.methodLink RL 25 yX10_setDerate ∈ cm_all := cm_inT (cm_t4 _ (List.mem_of_getElem? (i := 176) (by decide +kernel))) rfl
theorem kv_X10_setDerate : Cond.instanceMethod yX10_setDerate ∈ cm_all := cm_inT (cm_t4 _ (List.mem_of_getElem? (i := 177) (by decide +kernel))) rfl
theorem kx_X10_setDerate : Cond.selects yX10_setDerate.cls yX10_setDerate yX10_setDerate ∈ cm_all := cm_inT (cm_t4 _ (List.mem_of_getElem? (i := 178) (by decide +kernel))) rfl
theorem kc_X10_setDerate : Cond.code yX10_setDerate cX10_setDerate 3 (some .int) ∈ cm_all := cm_inT (cm_t4 _ (List.mem_of_getElem? (i := 179) (by decide +kernel))) rfl
theorem kl_RL_218 : Cond.methodLink RL 218 yL_stepValue ∈ cm_all := cm_inT (cm_t4 _ (List.mem_of_getElem? (i := 180) (by decide +kernel))) rfl
theorem ks_L_stepValue : Cond.static yL_stepValue ∈ cm_all := cm_inT (cm_t4 _ (List.mem_of_getElem? (i := 181) (by decide +kernel))) rfl
theorem kw_L_stepValue : Cond.codeWith yL_stepValue cL_stepValue 6 (some .int) [(0, 12, 15, 32), (0, 12, 19, 13)] ∈ cm_all := cm_inT (cm_t4 _ (List.mem_of_getElem? (i := 182) (by decide +kernel))) rfl
theorem kl_RL_32 : Cond.classLink RL 32 "java/lang/IndexOutOfBoundsException" ∈ cm_all := cm_inT (cm_t4 _ (List.mem_of_getElem? (i := 183) (by decide +kernel))) rfl
theorem kl_RL_28 : Cond.methodLink RL 28 yX10_stepValue ∈ cm_all := cm_inT (cm_t4 _ (List.mem_of_getElem? (i := 184) (by decide +kernel))) rfl
theorem kv_X10_stepValue : Cond.instanceMethod yX10_stepValue ∈ cm_all := cm_inT (cm_t4 _ (List.mem_of_getElem? (i := 185) (by decide +kernel))) rfl
theorem kx_X10_stepValue : Cond.selects yX10_stepValue.cls yX10_stepValue yX10_stepValue ∈ cm_all := cm_inT (cm_t4 _ (List.mem_of_getElem? (i := 186) (by decide +kernel))) rfl
theorem kc_X10_stepValue : Cond.code yX10_stepValue cX10_stepValue 4 (some .int) ∈ cm_all := cm_inT (cm_t4 _ (List.mem_of_getElem? (i := 187) (by decide +kernel))) rfl
theorem kl_RX10_146 : Cond.methodLink RX10 146 yX10_needProgram ∈ cm_all := cm_inT (cm_t4 _ (List.mem_of_getElem? (i := 188) (by decide +kernel))) rfl
theorem kv_X10_needProgram : Cond.instanceMethod yX10_needProgram ∈ cm_all := cm_inT (cm_t4 _ (List.mem_of_getElem? (i := 190) (by decide +kernel))) rfl
theorem kc_X10_needProgram : Cond.code yX10_needProgram cX10_needProgram 2 none ∈ cm_all := cm_inT (cm_t4 _ (List.mem_of_getElem? (i := 191) (by decide +kernel))) rfl
theorem kl_RX10_357 : Cond.classLink RX10 357 "java/lang/IndexOutOfBoundsException" ∈ cm_all := cm_inT (cm_t4 _ (List.mem_of_getElem? (i := 192) (by decide +kernel))) rfl
theorem kl_RX10_359 : Cond.methodLink RX10 359 ⟨"java/lang/IndexOutOfBoundsException", "<init>", "()V"⟩ ∈ cm_all := cm_inT (cm_t4 _ (List.mem_of_getElem? (i := 201) (by decide +kernel))) rfl
theorem kv_java_lang_IndexOutOfBoundsException_init : Cond.instanceMethod ⟨"java/lang/IndexOutOfBoundsException", "<init>", "()V"⟩ ∈ cm_all := cm_inT (cm_t4 _ (List.mem_of_getElem? (i := 202) (by decide +kernel))) rfl
theorem kc_java_lang_IndexOutOfBoundsException_init : Cond.code ⟨"java/lang/IndexOutOfBoundsException", "<init>", "()V"⟩ prog_16_method_1_code 1 none ∈ cm_all := cm_inT (cm_t4 _ (List.mem_of_getElem? (i := 203) (by decide +kernel))) rfl
theorem kl_java_lang_IndexOutOfBoundsException_1 : Cond.methodLink "java/lang/IndexOutOfBoundsException" 1 ⟨"java/lang/RuntimeException", "<init>", "()V"⟩ ∈ cm_all := cm_inT (cm_t4 _ (List.mem_of_getElem? (i := 204) (by decide +kernel))) rfl
theorem kl_RX10_150 : Cond.methodLinkNest RX10 150 yX5_stepsOf "CellCycler" ∈ cm_all := cm_inT (cm_t4 _ (List.mem_of_getElem? (i := 207) (by decide +kernel))) rfl
theorem kv_X5_stepsOf : Cond.instanceMethod yX5_stepsOf ∈ cm_all := cm_inT (cm_t4 _ (List.mem_of_getElem? (i := 209) (by decide +kernel))) rfl
theorem kc_X5_stepsOf : Cond.code yX5_stepsOf cX5_stepsOf 2 (some .int) ∈ cm_all := cm_inT (cm_t4 _ (List.mem_of_getElem? (i := 210) (by decide +kernel))) rfl
theorem kl_RX10_154 : Cond.methodLinkNest RX10 154 yX5_kindOf "CellCycler" ∈ cm_all := cm_inT (cm_t4 _ (List.mem_of_getElem? (i := 211) (by decide +kernel))) rfl
theorem kv_X5_kindOf : Cond.instanceMethod yX5_kindOf ∈ cm_all := cm_inT (cm_t4 _ (List.mem_of_getElem? (i := 213) (by decide +kernel))) rfl
theorem kc_X5_kindOf : Cond.code yX5_kindOf cX5_kindOf 3 (some .int) ∈ cm_all := cm_inT (cm_t4 _ (List.mem_of_getElem? (i := 214) (by decide +kernel))) rfl
theorem kl_RX10_158 : Cond.methodLinkNest RX10 158 yX5_firstOf "CellCycler" ∈ cm_all := cm_inT (cm_t4 _ (List.mem_of_getElem? (i := 215) (by decide +kernel))) rfl
theorem kv_X5_firstOf : Cond.instanceMethod yX5_firstOf ∈ cm_all := cm_inT (cm_t4 _ (List.mem_of_getElem? (i := 217) (by decide +kernel))) rfl
theorem kc_X5_firstOf : Cond.code yX5_firstOf cX5_firstOf 3 (some .int) ∈ cm_all := cm_inT (cm_t4 _ (List.mem_of_getElem? (i := 218) (by decide +kernel))) rfl
theorem kl_RX10_161 : Cond.methodLinkNest RX10 161 yX5_secondOf "CellCycler" ∈ cm_all := cm_inT (cm_t4 _ (List.mem_of_getElem? (i := 219) (by decide +kernel))) rfl
theorem kv_X5_secondOf : Cond.instanceMethod yX5_secondOf ∈ cm_all := cm_inT (cm_t4 _ (List.mem_of_getElem? (i := 221) (by decide +kernel))) rfl
theorem kc_X5_secondOf : Cond.code yX5_secondOf cX5_secondOf 3 (some .int) ∈ cm_all := cm_inT (cm_t4 _ (List.mem_of_getElem? (i := 222) (by decide +kernel))) rfl
theorem kl_RL_226 : Cond.methodLink RL 226 yL_advance ∈ cm_all := cm_inT (cm_t4 _ (List.mem_of_getElem? (i := 223) (by decide +kernel))) rfl
theorem ks_L_advance : Cond.static yL_advance ∈ cm_all := cm_inT (cm_t4 _ (List.mem_of_getElem? (i := 224) (by decide +kernel))) rfl
theorem kw_L_advance : Cond.codeWith yL_advance cL_advance 4 (some .int) [(0, 9, 12, 13)] ∈ cm_all := cm_inT (cm_t4 _ (List.mem_of_getElem? (i := 225) (by decide +kernel))) rfl
theorem kl_RL_34 : Cond.methodLink RL 34 yX10_advance ∈ cm_all := cm_inT (cm_t4 _ (List.mem_of_getElem? (i := 226) (by decide +kernel))) rfl
theorem kv_X10_advance : Cond.instanceMethod yX10_advance ∈ cm_all := cm_inT (cm_t4 _ (List.mem_of_getElem? (i := 227) (by decide +kernel))) rfl
theorem kx_X10_advance : Cond.selects yX10_advance.cls yX10_advance yX10_advance ∈ cm_all := cm_inT (cm_t4 _ (List.mem_of_getElem? (i := 228) (by decide +kernel))) rfl
theorem kc_X10_advance : Cond.code yX10_advance cX10_advance 6 (some .int) ∈ cm_all := cm_inT (cm_t4 _ (List.mem_of_getElem? (i := 229) (by decide +kernel))) rfl
theorem kl_RX10_167 : Cond.constant RX10 167 (300000) ∈ cm_all := cm_inT (cm_t4 _ (List.mem_of_getElem? (i := 230) (by decide +kernel))) rfl
theorem kl_RX10_168 : Cond.methodLinkNest RX10 168 yX1_passTick "CellCycler" ∈ cm_all := cm_inT (cm_t4 _ (List.mem_of_getElem? (i := 231) (by decide +kernel))) rfl
theorem kv_X1_passTick : Cond.instanceMethod yX1_passTick ∈ cm_all := cm_inT (cm_t4 _ (List.mem_of_getElem? (i := 233) (by decide +kernel))) rfl
theorem kc_X1_passTick : Cond.code yX1_passTick cX1_passTick 6 (some .boolean) ∈ cm_all := cm_inT (cm_t4 _ (List.mem_of_getElem? (i := 234) (by decide +kernel))) rfl
theorem kl_RX1_136 : Cond.methodLink RX1 136 yX1_wantedCurrent ∈ cm_all := cm_inT (cm_t4 _ (List.mem_of_getElem? (i := 235) (by decide +kernel))) rfl
theorem kv_X1_wantedCurrent : Cond.instanceMethod yX1_wantedCurrent ∈ cm_all := cm_inT (cm_t4 _ (List.mem_of_getElem? (i := 237) (by decide +kernel))) rfl
theorem kc_X1_wantedCurrent : Cond.code yX1_wantedCurrent cX1_wantedCurrent 3 (some .int) ∈ cm_all := cm_inT (cm_t4 _ (List.mem_of_getElem? (i := 238) (by decide +kernel))) rfl
theorem kl_RX1_196 : Cond.methodLinkNest RX1 196 yX5_firstOf "CellCycler" ∈ cm_all := cm_inT (cm_t4 _ (List.mem_of_getElem? (i := 239) (by decide +kernel))) rfl
theorem kl_RX1_201 : Cond.methodLinkNest RX1 201 yX5_kindOf "CellCycler" ∈ cm_all := cm_inT (cm_t5 _ (List.mem_of_getElem? (i := 0) (by decide +kernel))) rfl
theorem kl_RX1_204 : Cond.methodLinkNest RX1 204 yX0_holding "CellCycler" ∈ cm_all := cm_inT (cm_t5 _ (List.mem_of_getElem? (i := 1) (by decide +kernel))) rfl
theorem kv_X0_holding : Cond.instanceMethod yX0_holding ∈ cm_all := cm_inT (cm_t5 _ (List.mem_of_getElem? (i := 3) (by decide +kernel))) rfl
theorem kc_X0_holding : Cond.code yX0_holding cX0_holding 6 (some .int) ∈ cm_all := cm_inT (cm_t5 _ (List.mem_of_getElem? (i := 4) (by decide +kernel))) rfl
theorem kl_RX0_84 : Cond.methodLink RX0 84 yX0_restVoltageAt ∈ cm_all := cm_inT (cm_t5 _ (List.mem_of_getElem? (i := 5) (by decide +kernel))) rfl
theorem kv_X0_restVoltageAt : Cond.instanceMethod yX0_restVoltageAt ∈ cm_all := cm_inT (cm_t5 _ (List.mem_of_getElem? (i := 7) (by decide +kernel))) rfl
theorem kc_X0_restVoltageAt : Cond.code yX0_restVoltageAt cX0_restVoltageAt 7 (some .int) ∈ cm_all := cm_inT (cm_t5 _ (List.mem_of_getElem? (i := 8) (by decide +kernel))) rfl
theorem kl_RX0_75 : Cond.methodLinkNest RX0 75 yX10_quotient "CellCycler" ∈ cm_all := cm_inT (cm_t5 _ (List.mem_of_getElem? (i := 9) (by decide +kernel))) rfl
theorem kl_RX0_79 : Cond.methodLink RX0 79 yJ9_min_f86c9 ∈ cm_all := cm_inT (cm_t5 _ (List.mem_of_getElem? (i := 10) (by decide +kernel))) rfl
theorem ks_J9_min_f86c9 : Cond.static yJ9_min_f86c9 ∈ cm_all := cm_inT (cm_t5 _ (List.mem_of_getElem? (i := 11) (by decide +kernel))) rfl
theorem kc_J9_min_f86c9 : Cond.code yJ9_min_f86c9 cJ9_min_f86c9 4 (some .long) ∈ cm_all := cm_inT (cm_t5 _ (List.mem_of_getElem? (i := 12) (by decide +kernel))) rfl
theorem kl_RX0_88 : Cond.constantLong RX0 88 (1000) ∈ cm_all := cm_inT (cm_t5 _ (List.mem_of_getElem? (i := 13) (by decide +kernel))) rfl
theorem kl_RX0_93 : Cond.constantLong RX0 93 (5000) ∈ cm_all := cm_inT (cm_t5 _ (List.mem_of_getElem? (i := 14) (by decide +kernel))) rfl
theorem kl_RX0_95 : Cond.methodLink RX0 95 yJ9_max_f86c9 ∈ cm_all := cm_inT (cm_t5 _ (List.mem_of_getElem? (i := 15) (by decide +kernel))) rfl
theorem ks_J9_max_f86c9 : Cond.static yJ9_max_f86c9 ∈ cm_all := cm_inT (cm_t5 _ (List.mem_of_getElem? (i := 16) (by decide +kernel))) rfl
theorem kc_J9_max_f86c9 : Cond.code yJ9_max_f86c9 cJ9_max_f86c9 4 (some .long) ∈ cm_all := cm_inT (cm_t5 _ (List.mem_of_getElem? (i := 17) (by decide +kernel))) rfl
theorem kl_RX1_144 : Cond.methodLinkNest RX1 144 yX0_allowed "CellCycler" ∈ cm_all := cm_inT (cm_t5 _ (List.mem_of_getElem? (i := 18) (by decide +kernel))) rfl
theorem kv_X0_allowed : Cond.instanceMethod yX0_allowed ∈ cm_all := cm_inT (cm_t5 _ (List.mem_of_getElem? (i := 20) (by decide +kernel))) rfl
theorem kc_X0_allowed : Cond.code yX0_allowed cX0_allowed 6 (some .int) ∈ cm_all := cm_inT (cm_t5 _ (List.mem_of_getElem? (i := 21) (by decide +kernel))) rfl
end
section
/-! words of the tables, by name -/
theorem kl_RX0_106 : Cond.methodLink RX0 106 yJ9_max_7cf53 ∈ cm_all := cm_inT (cm_t5 _ (List.mem_of_getElem? (i := 22) (by decide +kernel))) rfl
theorem kl_RX1_148 : Cond.methodLinkNest RX1 148 yX0_passCurrent "CellCycler" ∈ cm_all := cm_inT (cm_t5 _ (List.mem_of_getElem? (i := 23) (by decide +kernel))) rfl
theorem kv_X0_passCurrent : Cond.instanceMethod yX0_passCurrent ∈ cm_all := cm_inT (cm_t5 _ (List.mem_of_getElem? (i := 25) (by decide +kernel))) rfl
theorem kc_X0_passCurrent : Cond.code yX0_passCurrent cX0_passCurrent 3 none ∈ cm_all := cm_inT (cm_t5 _ (List.mem_of_getElem? (i := 26) (by decide +kernel))) rfl
theorem kl_RX0_108 : Cond.methodLink RX0 108 yX0_polarize ∈ cm_all := cm_inT (cm_t5 _ (List.mem_of_getElem? (i := 27) (by decide +kernel))) rfl
theorem kv_X0_polarize : Cond.instanceMethod yX0_polarize ∈ cm_all := cm_inT (cm_t5 _ (List.mem_of_getElem? (i := 29) (by decide +kernel))) rfl
theorem kc_X0_polarize : Cond.code yX0_polarize cX0_polarize 4 none ∈ cm_all := cm_inT (cm_t5 _ (List.mem_of_getElem? (i := 30) (by decide +kernel))) rfl
theorem kl_RX0_135 : Cond.methodLink RX0 135 yJ6_compare_7cf53 ∈ cm_all := cm_inT (cm_t5 _ (List.mem_of_getElem? (i := 31) (by decide +kernel))) rfl
theorem ks_J6_compare_7cf53 : Cond.static yJ6_compare_7cf53 ∈ cm_all := cm_inT (cm_t5 _ (List.mem_of_getElem? (i := 32) (by decide +kernel))) rfl
theorem kc_J6_compare_7cf53 : Cond.code yJ6_compare_7cf53 cJ6_compare_7cf53 2 (some .int) ∈ cm_all := cm_inT (cm_t5 _ (List.mem_of_getElem? (i := 33) (by decide +kernel))) rfl
theorem kl_RX0_112 : Cond.methodLink RX0 112 yX0_moveCharge ∈ cm_all := cm_inT (cm_t5 _ (List.mem_of_getElem? (i := 34) (by decide +kernel))) rfl
theorem kv_X0_moveCharge : Cond.instanceMethod yX0_moveCharge ∈ cm_all := cm_inT (cm_t5 _ (List.mem_of_getElem? (i := 36) (by decide +kernel))) rfl
theorem kc_X0_moveCharge : Cond.code yX0_moveCharge cX0_moveCharge 4 none ∈ cm_all := cm_inT (cm_t5 _ (List.mem_of_getElem? (i := 37) (by decide +kernel))) rfl
theorem kl_RX0_146 : Cond.methodLink RX0 146 yJ9_min_7cf53 ∈ cm_all := cm_inT (cm_t5 _ (List.mem_of_getElem? (i := 38) (by decide +kernel))) rfl
theorem kl_RX0_116 : Cond.methodLink RX0 116 yX0_wear ∈ cm_all := cm_inT (cm_t5 _ (List.mem_of_getElem? (i := 39) (by decide +kernel))) rfl
theorem kv_X0_wear : Cond.instanceMethod yX0_wear ∈ cm_all := cm_inT (cm_t5 _ (List.mem_of_getElem? (i := 41) (by decide +kernel))) rfl
theorem kc_X0_wear : Cond.code yX0_wear cX0_wear 4 none ∈ cm_all := cm_inT (cm_t5 _ (List.mem_of_getElem? (i := 42) (by decide +kernel))) rfl
theorem kl_RX0_154 : Cond.methodLinkNest RX0 154 yX10_remainder "CellCycler" ∈ cm_all := cm_inT (cm_t5 _ (List.mem_of_getElem? (i := 43) (by decide +kernel))) rfl
theorem ks_X10_remainder : Cond.static yX10_remainder ∈ cm_all := cm_inT (cm_t5 _ (List.mem_of_getElem? (i := 44) (by decide +kernel))) rfl
theorem kc_X10_remainder : Cond.code yX10_remainder cX10_remainder 4 (some .long) ∈ cm_all := cm_inT (cm_t5 _ (List.mem_of_getElem? (i := 45) (by decide +kernel))) rfl
theorem kl_RX0_119 : Cond.methodLink RX0 119 yX0_warm ∈ cm_all := cm_inT (cm_t5 _ (List.mem_of_getElem? (i := 46) (by decide +kernel))) rfl
theorem kv_X0_warm : Cond.instanceMethod yX0_warm ∈ cm_all := cm_inT (cm_t5 _ (List.mem_of_getElem? (i := 48) (by decide +kernel))) rfl
theorem kc_X0_warm : Cond.code yX0_warm cX0_warm 3 none ∈ cm_all := cm_inT (cm_t5 _ (List.mem_of_getElem? (i := 49) (by decide +kernel))) rfl
theorem kl_RX1_152 : Cond.methodLinkNest RX1 152 yX0_thousandths "CellCycler" ∈ cm_all := cm_inT (cm_t5 _ (List.mem_of_getElem? (i := 50) (by decide +kernel))) rfl
theorem kv_X0_thousandths : Cond.instanceMethod yX0_thousandths ∈ cm_all := cm_inT (cm_t5 _ (List.mem_of_getElem? (i := 52) (by decide +kernel))) rfl
theorem kc_X0_thousandths : Cond.code yX0_thousandths cX0_thousandths 1 (some .int) ∈ cm_all := cm_inT (cm_t5 _ (List.mem_of_getElem? (i := 53) (by decide +kernel))) rfl
theorem kl_RX1_156 : Cond.methodLinkNest RX1 156 yX4_countFilling "CellCycler" ∈ cm_all := cm_inT (cm_t5 _ (List.mem_of_getElem? (i := 54) (by decide +kernel))) rfl
theorem kv_X4_countFilling : Cond.instanceMethod yX4_countFilling ∈ cm_all := cm_inT (cm_t5 _ (List.mem_of_getElem? (i := 56) (by decide +kernel))) rfl
theorem kc_X4_countFilling : Cond.code yX4_countFilling cX4_countFilling 3 none ∈ cm_all := cm_inT (cm_t5 _ (List.mem_of_getElem? (i := 57) (by decide +kernel))) rfl
theorem kl_RX4_38 : Cond.methodLink RX4 38 yJ9_min_7cf53 ∈ cm_all := cm_inT (cm_t5 _ (List.mem_of_getElem? (i := 58) (by decide +kernel))) rfl
theorem kl_RX4_44 : Cond.methodLinkNest RX4 44 yX10_at "CellCycler" ∈ cm_all := cm_inT (cm_t5 _ (List.mem_of_getElem? (i := 59) (by decide +kernel))) rfl
theorem kl_RX4_48 : Cond.methodLinkNest RX4 48 yX10_put "CellCycler" ∈ cm_all := cm_inT (cm_t5 _ (List.mem_of_getElem? (i := 60) (by decide +kernel))) rfl
theorem kl_RX1_162 : Cond.constantLong RX1 162 (1000) ∈ cm_all := cm_inT (cm_t5 _ (List.mem_of_getElem? (i := 61) (by decide +kernel))) rfl
theorem kl_RX1_164 : Cond.methodLinkNest RX1 164 yX10_quotient "CellCycler" ∈ cm_all := cm_inT (cm_t5 _ (List.mem_of_getElem? (i := 62) (by decide +kernel))) rfl
theorem kl_RX1_171 : Cond.methodLink RX1 171 yX1_warn ∈ cm_all := cm_inT (cm_t5 _ (List.mem_of_getElem? (i := 63) (by decide +kernel))) rfl
theorem kv_X1_warn : Cond.instanceMethod yX1_warn ∈ cm_all := cm_inT (cm_t5 _ (List.mem_of_getElem? (i := 65) (by decide +kernel))) rfl
theorem kc_X1_warn : Cond.code yX1_warn cX1_warn 4 none ∈ cm_all := cm_inT (cm_t5 _ (List.mem_of_getElem? (i := 66) (by decide +kernel))) rfl
theorem kl_RX1_100 : Cond.methodLinkNest RX1 100 yX9_note "CellCycler" ∈ cm_all := cm_inT (cm_t5 _ (List.mem_of_getElem? (i := 67) (by decide +kernel))) rfl
theorem kv_X9_note : Cond.instanceMethod yX9_note ∈ cm_all := cm_inT (cm_t5 _ (List.mem_of_getElem? (i := 69) (by decide +kernel))) rfl
theorem kc_X9_note : Cond.code yX9_note cX9_note 5 none ∈ cm_all := cm_inT (cm_t5 _ (List.mem_of_getElem? (i := 70) (by decide +kernel))) rfl
theorem kl_RX9_90 : Cond.methodLinkNest RX9 90 yX8_addRow "CellCycler" ∈ cm_all := cm_inT (cm_t5 _ (List.mem_of_getElem? (i := 71) (by decide +kernel))) rfl
theorem kv_X8_addRow : Cond.instanceMethod yX8_addRow ∈ cm_all := cm_inT (cm_t5 _ (List.mem_of_getElem? (i := 73) (by decide +kernel))) rfl
theorem kc_X8_addRow : Cond.code yX8_addRow cX8_addRow 1 none ∈ cm_all := cm_inT (cm_t5 _ (List.mem_of_getElem? (i := 74) (by decide +kernel))) rfl
theorem kl_RX9_96 : Cond.methodLinkNest RX9 96 yX8_placeOf "CellCycler" ∈ cm_all := cm_inT (cm_t5 _ (List.mem_of_getElem? (i := 75) (by decide +kernel))) rfl
theorem kv_X8_placeOf : Cond.instanceMethod yX8_placeOf ∈ cm_all := cm_inT (cm_t5 _ (List.mem_of_getElem? (i := 77) (by decide +kernel))) rfl
theorem kc_X8_placeOf : Cond.code yX8_placeOf cX8_placeOf 3 (some .int) ∈ cm_all := cm_inT (cm_t5 _ (List.mem_of_getElem? (i := 78) (by decide +kernel))) rfl
theorem kl_RX9_104 : Cond.methodLinkNest RX9 104 yX10_put "CellCycler" ∈ cm_all := cm_inT (cm_t5 _ (List.mem_of_getElem? (i := 79) (by decide +kernel))) rfl
theorem kl_RX1_179 : Cond.methodLink RX1 179 yX1_stepEnds ∈ cm_all := cm_inT (cm_t5 _ (List.mem_of_getElem? (i := 80) (by decide +kernel))) rfl
theorem kv_X1_stepEnds : Cond.instanceMethod yX1_stepEnds ∈ cm_all := cm_inT (cm_t5 _ (List.mem_of_getElem? (i := 82) (by decide +kernel))) rfl
theorem kc_X1_stepEnds : Cond.code yX1_stepEnds cX1_stepEnds 4 (some .boolean) ∈ cm_all := cm_inT (cm_t5 _ (List.mem_of_getElem? (i := 83) (by decide +kernel))) rfl
theorem kl_RX1_231 : Cond.methodLinkNest RX1 231 yX5_secondOf "CellCycler" ∈ cm_all := cm_inT (cm_t5 _ (List.mem_of_getElem? (i := 84) (by decide +kernel))) rfl
theorem kl_RX1_183 : Cond.methodLink RX1 183 yX1_tripReason ∈ cm_all := cm_inT (cm_t5 _ (List.mem_of_getElem? (i := 85) (by decide +kernel))) rfl
theorem kv_X1_tripReason : Cond.instanceMethod yX1_tripReason ∈ cm_all := cm_inT (cm_t5 _ (List.mem_of_getElem? (i := 87) (by decide +kernel))) rfl
theorem kc_X1_tripReason : Cond.code yX1_tripReason cX1_tripReason 3 (some .int) ∈ cm_all := cm_inT (cm_t5 _ (List.mem_of_getElem? (i := 88) (by decide +kernel))) rfl
theorem kl_RX1_186 : Cond.methodLink RX1 186 yX1_trip ∈ cm_all := cm_inT (cm_t5 _ (List.mem_of_getElem? (i := 89) (by decide +kernel))) rfl
theorem kv_X1_trip : Cond.instanceMethod yX1_trip ∈ cm_all := cm_inT (cm_t5 _ (List.mem_of_getElem? (i := 91) (by decide +kernel))) rfl
theorem kc_X1_trip : Cond.code yX1_trip cX1_trip 3 none ∈ cm_all := cm_inT (cm_t5 _ (List.mem_of_getElem? (i := 92) (by decide +kernel))) rfl
theorem kl_RX1_190 : Cond.methodLink RX1 190 yX1_measureEnd ∈ cm_all := cm_inT (cm_t5 _ (List.mem_of_getElem? (i := 93) (by decide +kernel))) rfl
theorem kv_X1_measureEnd : Cond.instanceMethod yX1_measureEnd ∈ cm_all := cm_inT (cm_t5 _ (List.mem_of_getElem? (i := 95) (by decide +kernel))) rfl
theorem kc_X1_measureEnd : Cond.code yX1_measureEnd cX1_measureEnd 2 none ∈ cm_all := cm_inT (cm_t5 _ (List.mem_of_getElem? (i := 96) (by decide +kernel))) rfl
theorem kl_RX1_234 : Cond.methodLink RX1 234 yX1_makeRecord ∈ cm_all := cm_inT (cm_t5 _ (List.mem_of_getElem? (i := 97) (by decide +kernel))) rfl
theorem kv_X1_makeRecord : Cond.instanceMethod yX1_makeRecord ∈ cm_all := cm_inT (cm_t5 _ (List.mem_of_getElem? (i := 99) (by decide +kernel))) rfl
theorem kc_X1_makeRecord : Cond.code yX1_makeRecord cX1_makeRecord 8 none ∈ cm_all := cm_inT (cm_t5 _ (List.mem_of_getElem? (i := 100) (by decide +kernel))) rfl
theorem kl_RX1_244 : Cond.methodLinkNest RX1 244 yX8_addRow "CellCycler" ∈ cm_all := cm_inT (cm_t5 _ (List.mem_of_getElem? (i := 101) (by decide +kernel))) rfl
theorem kl_RX1_255 : Cond.methodLinkNest RX1 255 yX8_placeOf "CellCycler" ∈ cm_all := cm_inT (cm_t5 _ (List.mem_of_getElem? (i := 102) (by decide +kernel))) rfl
theorem kl_RX1_126 : Cond.methodLinkNest RX1 126 yX10_put "CellCycler" ∈ cm_all := cm_inT (cm_t5 _ (List.mem_of_getElem? (i := 103) (by decide +kernel))) rfl
theorem kl_RX1_97 : Cond.methodLink RX1 97 yX1_countFromHere ∈ cm_all := cm_inT (cm_t5 _ (List.mem_of_getElem? (i := 104) (by decide +kernel))) rfl
theorem kv_X1_countFromHere : Cond.instanceMethod yX1_countFromHere ∈ cm_all := cm_inT (cm_t5 _ (List.mem_of_getElem? (i := 106) (by decide +kernel))) rfl
theorem kc_X1_countFromHere : Cond.code yX1_countFromHere cX1_countFromHere 1 none ∈ cm_all := cm_inT (cm_t5 _ (List.mem_of_getElem? (i := 107) (by decide +kernel))) rfl
theorem kl_RX1_193 : Cond.methodLink RX1 193 yX1_leaveStep ∈ cm_all := cm_inT (cm_t5 _ (List.mem_of_getElem? (i := 108) (by decide +kernel))) rfl
theorem kv_X1_leaveStep : Cond.instanceMethod yX1_leaveStep ∈ cm_all := cm_inT (cm_t5 _ (List.mem_of_getElem? (i := 110) (by decide +kernel))) rfl
theorem kc_X1_leaveStep : Cond.code yX1_leaveStep cX1_leaveStep 3 none ∈ cm_all := cm_inT (cm_t5 _ (List.mem_of_getElem? (i := 111) (by decide +kernel))) rfl
theorem kl_RX1_262 : Cond.methodLink RX1 262 yX1_stepBehind ∈ cm_all := cm_inT (cm_t5 _ (List.mem_of_getElem? (i := 112) (by decide +kernel))) rfl
theorem kv_X1_stepBehind : Cond.instanceMethod yX1_stepBehind ∈ cm_all := cm_inT (cm_t5 _ (List.mem_of_getElem? (i := 114) (by decide +kernel))) rfl
theorem kc_X1_stepBehind : Cond.code yX1_stepBehind cX1_stepBehind 5 (some .int) ∈ cm_all := cm_inT (cm_t5 _ (List.mem_of_getElem? (i := 115) (by decide +kernel))) rfl
theorem kl_RX1_266 : Cond.methodLinkNest RX1 266 yX5_stepsOf "CellCycler" ∈ cm_all := cm_inT (cm_t5 _ (List.mem_of_getElem? (i := 116) (by decide +kernel))) rfl
theorem kl_RX1_122 : Cond.methodLinkNest RX1 122 yX10_at "CellCycler" ∈ cm_all := cm_inT (cm_t5 _ (List.mem_of_getElem? (i := 117) (by decide +kernel))) rfl
theorem kl_RX1_106 : Cond.methodLink RX1 106 yX1_enterStep ∈ cm_all := cm_inT (cm_t5 _ (List.mem_of_getElem? (i := 118) (by decide +kernel))) rfl
theorem kv_X1_enterStep : Cond.instanceMethod yX1_enterStep ∈ cm_all := cm_inT (cm_t5 _ (List.mem_of_getElem? (i := 120) (by decide +kernel))) rfl
theorem kc_X1_enterStep : Cond.code yX1_enterStep cX1_enterStep 2 none ∈ cm_all := cm_inT (cm_t5 _ (List.mem_of_getElem? (i := 121) (by decide +kernel))) rfl
theorem kl_RX1_269 : Cond.methodLink RX1 269 yX1_takeWaiting ∈ cm_all := cm_inT (cm_t5 _ (List.mem_of_getElem? (i := 122) (by decide +kernel))) rfl
theorem kv_X1_takeWaiting : Cond.instanceMethod yX1_takeWaiting ∈ cm_all := cm_inT (cm_t5 _ (List.mem_of_getElem? (i := 124) (by decide +kernel))) rfl
theorem kc_X1_takeWaiting : Cond.code yX1_takeWaiting cX1_takeWaiting 3 (some .int) ∈ cm_all := cm_inT (cm_t5 _ (List.mem_of_getElem? (i := 125) (by decide +kernel))) rfl
theorem kl_RX1_130 : Cond.methodLink RX1 130 yJ9_max_7cf53 ∈ cm_all := cm_inT (cm_t5 _ (List.mem_of_getElem? (i := 126) (by decide +kernel))) rfl
theorem kl_RX1_272 : Cond.methodLink RX1 272 yX1_begin ∈ cm_all := cm_inT (cm_t5 _ (List.mem_of_getElem? (i := 127) (by decide +kernel))) rfl
theorem kv_X1_begin : Cond.instanceMethod yX1_begin ∈ cm_all := cm_inT (cm_t5 _ (List.mem_of_getElem? (i := 129) (by decide +kernel))) rfl
theorem kc_X1_begin : Cond.code yX1_begin cX1_begin 3 none ∈ cm_all := cm_inT (cm_t5 _ (List.mem_of_getElem? (i := 130) (by decide +kernel))) rfl
theorem kl_RL_229 : Cond.methodLink RL 229 yL_start ∈ cm_all := cm_inT (cm_t5 _ (List.mem_of_getElem? (i := 131) (by decide +kernel))) rfl
theorem ks_L_start : Cond.static yL_start ∈ cm_all := cm_inT (cm_t5 _ (List.mem_of_getElem? (i := 132) (by decide +kernel))) rfl
theorem kw_L_start : Cond.codeWith yL_start cL_start 5 (some .int) [(0, 10, 13, 32)] ∈ cm_all := cm_inT (cm_t5 _ (List.mem_of_getElem? (i := 133) (by decide +kernel))) rfl
theorem kl_RL_37 : Cond.methodLink RL 37 yX10_start ∈ cm_all := cm_inT (cm_t5 _ (List.mem_of_getElem? (i := 134) (by decide +kernel))) rfl
theorem kv_X10_start : Cond.instanceMethod yX10_start ∈ cm_all := cm_inT (cm_t5 _ (List.mem_of_getElem? (i := 135) (by decide +kernel))) rfl
theorem kx_X10_start : Cond.selects yX10_start.cls yX10_start yX10_start ∈ cm_all := cm_inT (cm_t5 _ (List.mem_of_getElem? (i := 136) (by decide +kernel))) rfl
theorem kc_X10_start : Cond.code yX10_start cX10_start 4 (some .int) ∈ cm_all := cm_inT (cm_t5 _ (List.mem_of_getElem? (i := 137) (by decide +kernel))) rfl
theorem kl_RX10_172 : Cond.methodLink RX10 172 yX10_needChannel ∈ cm_all := cm_inT (cm_t5 _ (List.mem_of_getElem? (i := 138) (by decide +kernel))) rfl
theorem kv_X10_needChannel : Cond.instanceMethod yX10_needChannel ∈ cm_all := cm_inT (cm_t5 _ (List.mem_of_getElem? (i := 140) (by decide +kernel))) rfl
theorem kc_X10_needChannel : Cond.code yX10_needChannel cX10_needChannel 3 (some (.object "CellCycler$Channel")) ∈ cm_all := cm_inT (cm_t5 _ (List.mem_of_getElem? (i := 141) (by decide +kernel))) rfl
theorem kl_RX10_175 : Cond.methodLinkNest RX10 175 yX1_isFree "CellCycler" ∈ cm_all := cm_inT (cm_t5 _ (List.mem_of_getElem? (i := 142) (by decide +kernel))) rfl
theorem kv_X1_isFree : Cond.instanceMethod yX1_isFree ∈ cm_all := cm_inT (cm_t5 _ (List.mem_of_getElem? (i := 144) (by decide +kernel))) rfl
theorem kc_X1_isFree : Cond.code yX1_isFree cX1_isFree 1 (some .boolean) ∈ cm_all := cm_inT (cm_t5 _ (List.mem_of_getElem? (i := 145) (by decide +kernel))) rfl
theorem kl_RX10_179 : Cond.methodLinkNest RX10 179 yX1_begin "CellCycler" ∈ cm_all := cm_inT (cm_t5 _ (List.mem_of_getElem? (i := 146) (by decide +kernel))) rfl
theorem kl_RX10_183 : Cond.methodLinkNest RX10 183 yX9_channelsIn "CellCycler" ∈ cm_all := cm_inT (cm_t5 _ (List.mem_of_getElem? (i := 147) (by decide +kernel))) rfl
theorem kv_X9_channelsIn : Cond.instanceMethod yX9_channelsIn ∈ cm_all := cm_inT (cm_t5 _ (List.mem_of_getElem? (i := 149) (by decide +kernel))) rfl
theorem kc_X9_channelsIn : Cond.code yX9_channelsIn cX9_channelsIn 5 (some .int) ∈ cm_all := cm_inT (cm_t5 _ (List.mem_of_getElem? (i := 150) (by decide +kernel))) rfl
theorem kl_RX10_186 : Cond.methodLink RX10 186 yJ6_bitCount_0f7a4 ∈ cm_all := cm_inT (cm_t5 _ (List.mem_of_getElem? (i := 151) (by decide +kernel))) rfl
theorem ks_J6_bitCount_0f7a4 : Cond.static yJ6_bitCount_0f7a4 ∈ cm_all := cm_inT (cm_t5 _ (List.mem_of_getElem? (i := 152) (by decide +kernel))) rfl
theorem kc_J6_bitCount_0f7a4 : Cond.code yJ6_bitCount_0f7a4 cJ6_bitCount_0f7a4 1 (some .int) ∈ cm_all := cm_inT (cm_t5 _ (List.mem_of_getElem? (i := 153) (by decide +kernel))) rfl
theorem kl_RJ6_265 : Cond.constant RJ6 265 (1431655765) ∈ cm_all := cm_inT (cm_t5 _ (List.mem_of_getElem? (i := 154) (by decide +kernel))) rfl
theorem kl_RJ6_266 : Cond.constant RJ6 266 (858993459) ∈ cm_all := cm_inT (cm_t5 _ (List.mem_of_getElem? (i := 155) (by decide +kernel))) rfl
theorem kl_RJ6_267 : Cond.constant RJ6 267 (252645135) ∈ cm_all := cm_inT (cm_t5 _ (List.mem_of_getElem? (i := 156) (by decide +kernel))) rfl
theorem kl_RL_232 : Cond.methodLink RL 232 yL_pause ∈ cm_all := cm_inT (cm_t5 _ (List.mem_of_getElem? (i := 157) (by decide +kernel))) rfl
theorem ks_L_pause : Cond.static yL_pause ∈ cm_all := cm_inT (cm_t5 _ (List.mem_of_getElem? (i := 158) (by decide +kernel))) rfl
theorem kw_L_pause : Cond.codeWith yL_pause cL_pause 4 (some .int) [(0, 9, 12, 32)] ∈ cm_all := cm_inT (cm_t5 _ (List.mem_of_getElem? (i := 159) (by decide +kernel))) rfl
theorem kl_RL_40 : Cond.methodLink RL 40 yX10_pause ∈ cm_all := cm_inT (cm_t5 _ (List.mem_of_getElem? (i := 160) (by decide +kernel))) rfl
theorem kv_X10_pause : Cond.instanceMethod yX10_pause ∈ cm_all := cm_inT (cm_t5 _ (List.mem_of_getElem? (i := 161) (by decide +kernel))) rfl
theorem kx_X10_pause : Cond.selects yX10_pause.cls yX10_pause yX10_pause ∈ cm_all := cm_inT (cm_t5 _ (List.mem_of_getElem? (i := 162) (by decide +kernel))) rfl
theorem kc_X10_pause : Cond.code yX10_pause cX10_pause 3 (some .int) ∈ cm_all := cm_inT (cm_t5 _ (List.mem_of_getElem? (i := 163) (by decide +kernel))) rfl
theorem kl_RL_235 : Cond.methodLink RL 235 yL_resume ∈ cm_all := cm_inT (cm_t5 _ (List.mem_of_getElem? (i := 164) (by decide +kernel))) rfl
theorem ks_L_resume : Cond.static yL_resume ∈ cm_all := cm_inT (cm_t5 _ (List.mem_of_getElem? (i := 165) (by decide +kernel))) rfl
theorem kw_L_resume : Cond.codeWith yL_resume cL_resume 4 (some .int) [(0, 9, 12, 32)] ∈ cm_all := cm_inT (cm_t5 _ (List.mem_of_getElem? (i := 166) (by decide +kernel))) rfl
theorem kl_RL_43 : Cond.methodLink RL 43 yX10_resume ∈ cm_all := cm_inT (cm_t5 _ (List.mem_of_getElem? (i := 167) (by decide +kernel))) rfl
theorem kv_X10_resume : Cond.instanceMethod yX10_resume ∈ cm_all := cm_inT (cm_t5 _ (List.mem_of_getElem? (i := 168) (by decide +kernel))) rfl
theorem kx_X10_resume : Cond.selects yX10_resume.cls yX10_resume yX10_resume ∈ cm_all := cm_inT (cm_t5 _ (List.mem_of_getElem? (i := 169) (by decide +kernel))) rfl
theorem kc_X10_resume : Cond.code yX10_resume cX10_resume 3 (some .int) ∈ cm_all := cm_inT (cm_t5 _ (List.mem_of_getElem? (i := 170) (by decide +kernel))) rfl
theorem kl_RL_238 : Cond.methodLink RL 238 yL_stop ∈ cm_all := cm_inT (cm_t5 _ (List.mem_of_getElem? (i := 171) (by decide +kernel))) rfl
theorem ks_L_stop : Cond.static yL_stop ∈ cm_all := cm_inT (cm_t5 _ (List.mem_of_getElem? (i := 172) (by decide +kernel))) rfl
theorem kw_L_stop : Cond.codeWith yL_stop cL_stop 4 (some .int) [(0, 9, 12, 32)] ∈ cm_all := cm_inT (cm_t5 _ (List.mem_of_getElem? (i := 173) (by decide +kernel))) rfl
theorem kl_RL_46 : Cond.methodLink RL 46 yX10_stop ∈ cm_all := cm_inT (cm_t5 _ (List.mem_of_getElem? (i := 174) (by decide +kernel))) rfl
theorem kv_X10_stop : Cond.instanceMethod yX10_stop ∈ cm_all := cm_inT (cm_t5 _ (List.mem_of_getElem? (i := 175) (by decide +kernel))) rfl
theorem kx_X10_stop : Cond.selects yX10_stop.cls yX10_stop yX10_stop ∈ cm_all := cm_inT (cm_t5 _ (List.mem_of_getElem? (i := 176) (by decide +kernel))) rfl
theorem kc_X10_stop : Cond.code yX10_stop cX10_stop 4 (some .int) ∈ cm_all := cm_inT (cm_t5 _ (List.mem_of_getElem? (i := 177) (by decide +kernel))) rfl
theorem kl_RL_241 : Cond.methodLink RL 241 yL_skip ∈ cm_all := cm_inT (cm_t5 _ (List.mem_of_getElem? (i := 178) (by decide +kernel))) rfl
theorem ks_L_skip : Cond.static yL_skip ∈ cm_all := cm_inT (cm_t5 _ (List.mem_of_getElem? (i := 179) (by decide +kernel))) rfl
theorem kw_L_skip : Cond.codeWith yL_skip cL_skip 4 (some .int) [(0, 9, 12, 32)] ∈ cm_all := cm_inT (cm_t5 _ (List.mem_of_getElem? (i := 180) (by decide +kernel))) rfl
theorem kl_RL_49 : Cond.methodLink RL 49 yX10_skip ∈ cm_all := cm_inT (cm_t5 _ (List.mem_of_getElem? (i := 181) (by decide +kernel))) rfl
theorem kv_X10_skip : Cond.instanceMethod yX10_skip ∈ cm_all := cm_inT (cm_t5 _ (List.mem_of_getElem? (i := 182) (by decide +kernel))) rfl
theorem kx_X10_skip : Cond.selects yX10_skip.cls yX10_skip yX10_skip ∈ cm_all := cm_inT (cm_t5 _ (List.mem_of_getElem? (i := 183) (by decide +kernel))) rfl
theorem kc_X10_skip : Cond.code yX10_skip cX10_skip 3 (some .int) ∈ cm_all := cm_inT (cm_t5 _ (List.mem_of_getElem? (i := 184) (by decide +kernel))) rfl
theorem kl_RX10_194 : Cond.methodLinkNest RX10 194 yX1_leaveStep "CellCycler" ∈ cm_all := cm_inT (cm_t5 _ (List.mem_of_getElem? (i := 185) (by decide +kernel))) rfl
theorem kl_RL_244 : Cond.methodLink RL 244 yL_replace ∈ cm_all := cm_inT (cm_t5 _ (List.mem_of_getElem? (i := 186) (by decide +kernel))) rfl
theorem ks_L_replace : Cond.static yL_replace ∈ cm_all := cm_inT (cm_t5 _ (List.mem_of_getElem? (i := 187) (by decide +kernel))) rfl
theorem kw_L_replace : Cond.codeWith yL_replace cL_replace 5 (some .int) [(0, 10, 13, 32), (0, 10, 17, 13)] ∈ cm_all := cm_inT (cm_t5 _ (List.mem_of_getElem? (i := 188) (by decide +kernel))) rfl
theorem kl_RL_52 : Cond.methodLink RL 52 yX10_replace ∈ cm_all := cm_inT (cm_t5 _ (List.mem_of_getElem? (i := 189) (by decide +kernel))) rfl
theorem kv_X10_replace : Cond.instanceMethod yX10_replace ∈ cm_all := cm_inT (cm_t5 _ (List.mem_of_getElem? (i := 190) (by decide +kernel))) rfl
theorem kx_X10_replace : Cond.selects yX10_replace.cls yX10_replace yX10_replace ∈ cm_all := cm_inT (cm_t5 _ (List.mem_of_getElem? (i := 191) (by decide +kernel))) rfl
theorem kc_X10_replace : Cond.code yX10_replace cX10_replace 5 (some .int) ∈ cm_all := cm_inT (cm_t5 _ (List.mem_of_getElem? (i := 192) (by decide +kernel))) rfl
theorem kl_RX10_203 : Cond.methodLinkNest RX10 203 yX1_insertCell "CellCycler" ∈ cm_all := cm_inT (cm_t5 _ (List.mem_of_getElem? (i := 193) (by decide +kernel))) rfl
theorem kl_RX10_207 : Cond.methodLinkNest RX10 207 yX9_note "CellCycler" ∈ cm_all := cm_inT (cm_t5 _ (List.mem_of_getElem? (i := 194) (by decide +kernel))) rfl
theorem kl_RL_247 : Cond.methodLink RL 247 yL_enqueue ∈ cm_all := cm_inT (cm_t5 _ (List.mem_of_getElem? (i := 195) (by decide +kernel))) rfl
theorem ks_L_enqueue : Cond.static yL_enqueue ∈ cm_all := cm_inT (cm_t5 _ (List.mem_of_getElem? (i := 196) (by decide +kernel))) rfl
theorem kw_L_enqueue : Cond.codeWith yL_enqueue cL_enqueue 5 (some .int) [(0, 10, 13, 32)] ∈ cm_all := cm_inT (cm_t5 _ (List.mem_of_getElem? (i := 197) (by decide +kernel))) rfl
theorem kl_RL_55 : Cond.methodLink RL 55 yX10_enqueue ∈ cm_all := cm_inT (cm_t5 _ (List.mem_of_getElem? (i := 198) (by decide +kernel))) rfl
theorem kv_X10_enqueue : Cond.instanceMethod yX10_enqueue ∈ cm_all := cm_inT (cm_t5 _ (List.mem_of_getElem? (i := 199) (by decide +kernel))) rfl
theorem kx_X10_enqueue : Cond.selects yX10_enqueue.cls yX10_enqueue yX10_enqueue ∈ cm_all := cm_inT (cm_t5 _ (List.mem_of_getElem? (i := 200) (by decide +kernel))) rfl
theorem kc_X10_enqueue : Cond.code yX10_enqueue cX10_enqueue 4 (some .int) ∈ cm_all := cm_inT (cm_t5 _ (List.mem_of_getElem? (i := 201) (by decide +kernel))) rfl
theorem kl_RL_250 : Cond.methodLink RL 250 yL_dequeue ∈ cm_all := cm_inT (cm_t5 _ (List.mem_of_getElem? (i := 202) (by decide +kernel))) rfl
theorem ks_L_dequeue : Cond.static yL_dequeue ∈ cm_all := cm_inT (cm_t5 _ (List.mem_of_getElem? (i := 203) (by decide +kernel))) rfl
theorem kw_L_dequeue : Cond.codeWith yL_dequeue cL_dequeue 4 (some .int) [(0, 9, 12, 32)] ∈ cm_all := cm_inT (cm_t5 _ (List.mem_of_getElem? (i := 204) (by decide +kernel))) rfl
theorem kl_RL_58 : Cond.methodLink RL 58 yX10_dequeue ∈ cm_all := cm_inT (cm_t5 _ (List.mem_of_getElem? (i := 205) (by decide +kernel))) rfl
theorem kv_X10_dequeue : Cond.instanceMethod yX10_dequeue ∈ cm_all := cm_inT (cm_t5 _ (List.mem_of_getElem? (i := 206) (by decide +kernel))) rfl
theorem kx_X10_dequeue : Cond.selects yX10_dequeue.cls yX10_dequeue yX10_dequeue ∈ cm_all := cm_inT (cm_t5 _ (List.mem_of_getElem? (i := 207) (by decide +kernel))) rfl
theorem kc_X10_dequeue : Cond.code yX10_dequeue cX10_dequeue 3 (some .int) ∈ cm_all := cm_inT (cm_t5 _ (List.mem_of_getElem? (i := 208) (by decide +kernel))) rfl
theorem kl_RL_253 : Cond.methodLink RL 253 yL_startNext ∈ cm_all := cm_inT (cm_t5 _ (List.mem_of_getElem? (i := 209) (by decide +kernel))) rfl
theorem ks_L_startNext : Cond.static yL_startNext ∈ cm_all := cm_inT (cm_t5 _ (List.mem_of_getElem? (i := 210) (by decide +kernel))) rfl
theorem kw_L_startNext : Cond.codeWith yL_startNext cL_startNext 4 (some .int) [(0, 9, 12, 32)] ∈ cm_all := cm_inT (cm_t5 _ (List.mem_of_getElem? (i := 211) (by decide +kernel))) rfl
theorem kl_RL_61 : Cond.methodLink RL 61 yX10_startNext ∈ cm_all := cm_inT (cm_t5 _ (List.mem_of_getElem? (i := 212) (by decide +kernel))) rfl
theorem kv_X10_startNext : Cond.instanceMethod yX10_startNext ∈ cm_all := cm_inT (cm_t5 _ (List.mem_of_getElem? (i := 213) (by decide +kernel))) rfl
theorem kx_X10_startNext : Cond.selects yX10_startNext.cls yX10_startNext yX10_startNext ∈ cm_all := cm_inT (cm_t5 _ (List.mem_of_getElem? (i := 214) (by decide +kernel))) rfl
theorem kc_X10_startNext : Cond.code yX10_startNext cX10_startNext 3 (some .int) ∈ cm_all := cm_inT (cm_t5 _ (List.mem_of_getElem? (i := 215) (by decide +kernel))) rfl
theorem kl_RX10_220 : Cond.methodLinkNest RX10 220 yX1_takeWaiting "CellCycler" ∈ cm_all := cm_inT (cm_t5 _ (List.mem_of_getElem? (i := 216) (by decide +kernel))) rfl
theorem kl_RL_256 : Cond.methodLink RL 256 yL_queueAt ∈ cm_all := cm_inT (cm_t5 _ (List.mem_of_getElem? (i := 217) (by decide +kernel))) rfl
theorem ks_L_queueAt : Cond.static yL_queueAt ∈ cm_all := cm_inT (cm_t5 _ (List.mem_of_getElem? (i := 218) (by decide +kernel))) rfl
theorem kw_L_queueAt : Cond.codeWith yL_queueAt cL_queueAt 5 (some .int) [(0, 10, 13, 32)] ∈ cm_all := cm_inT (cm_t5 _ (List.mem_of_getElem? (i := 219) (by decide +kernel))) rfl
theorem kl_RL_64 : Cond.methodLink RL 64 yX10_queueAt ∈ cm_all := cm_inT (cm_t5 _ (List.mem_of_getElem? (i := 220) (by decide +kernel))) rfl
theorem kv_X10_queueAt : Cond.instanceMethod yX10_queueAt ∈ cm_all := cm_inT (cm_t5 _ (List.mem_of_getElem? (i := 221) (by decide +kernel))) rfl
theorem kx_X10_queueAt : Cond.selects yX10_queueAt.cls yX10_queueAt yX10_queueAt ∈ cm_all := cm_inT (cm_t5 _ (List.mem_of_getElem? (i := 222) (by decide +kernel))) rfl
theorem kc_X10_queueAt : Cond.code yX10_queueAt cX10_queueAt 4 (some .int) ∈ cm_all := cm_inT (cm_t5 _ (List.mem_of_getElem? (i := 223) (by decide +kernel))) rfl
theorem kl_RL_259 : Cond.methodLink RL 259 yL_queueSize ∈ cm_all := cm_inT (cm_t5 _ (List.mem_of_getElem? (i := 224) (by decide +kernel))) rfl
theorem ks_L_queueSize : Cond.static yL_queueSize ∈ cm_all := cm_inT (cm_t5 _ (List.mem_of_getElem? (i := 225) (by decide +kernel))) rfl
theorem kw_L_queueSize : Cond.codeWith yL_queueSize cL_queueSize 4 (some .int) [(0, 9, 12, 32)] ∈ cm_all := cm_inT (cm_t5 _ (List.mem_of_getElem? (i := 226) (by decide +kernel))) rfl
theorem kl_RL_67 : Cond.methodLink RL 67 yX10_queueSize ∈ cm_all := cm_inT (cm_t5 _ (List.mem_of_getElem? (i := 227) (by decide +kernel))) rfl
theorem kv_X10_queueSize : Cond.instanceMethod yX10_queueSize ∈ cm_all := cm_inT (cm_t5 _ (List.mem_of_getElem? (i := 228) (by decide +kernel))) rfl
theorem kx_X10_queueSize : Cond.selects yX10_queueSize.cls yX10_queueSize yX10_queueSize ∈ cm_all := cm_inT (cm_t5 _ (List.mem_of_getElem? (i := 229) (by decide +kernel))) rfl
theorem kc_X10_queueSize : Cond.code yX10_queueSize cX10_queueSize 2 (some .int) ∈ cm_all := cm_inT (cm_t5 _ (List.mem_of_getElem? (i := 230) (by decide +kernel))) rfl
theorem kl_RL_262 : Cond.methodLink RL 262 yL_value ∈ cm_all := cm_inT (cm_t5 _ (List.mem_of_getElem? (i := 231) (by decide +kernel))) rfl
theorem ks_L_value : Cond.static yL_value ∈ cm_all := cm_inT (cm_t5 _ (List.mem_of_getElem? (i := 232) (by decide +kernel))) rfl
theorem kw_L_value : Cond.codeWith yL_value cL_value 5 (some .int) [(0, 10, 13, 32), (0, 10, 17, 13)] ∈ cm_all := cm_inT (cm_t5 _ (List.mem_of_getElem? (i := 233) (by decide +kernel))) rfl
theorem kl_RL_70 : Cond.methodLink RL 70 yX10_value ∈ cm_all := cm_inT (cm_t5 _ (List.mem_of_getElem? (i := 234) (by decide +kernel))) rfl
theorem kv_X10_value : Cond.instanceMethod yX10_value ∈ cm_all := cm_inT (cm_t5 _ (List.mem_of_getElem? (i := 235) (by decide +kernel))) rfl
theorem kx_X10_value : Cond.selects yX10_value.cls yX10_value yX10_value ∈ cm_all := cm_inT (cm_t5 _ (List.mem_of_getElem? (i := 236) (by decide +kernel))) rfl
theorem kc_X10_value : Cond.code yX10_value cX10_value 4 (some .int) ∈ cm_all := cm_inT (cm_t5 _ (List.mem_of_getElem? (i := 237) (by decide +kernel))) rfl
theorem kl_RX10_227 : Cond.methodLinkNest RX10 227 yX1_number "CellCycler" ∈ cm_all := cm_inT (cm_t5 _ (List.mem_of_getElem? (i := 238) (by decide +kernel))) rfl
theorem kv_X1_number : Cond.instanceMethod yX1_number ∈ cm_all := cm_inT (cm_t6 _ (List.mem_of_getElem? (i := 0) (by decide +kernel))) rfl
theorem kc_X1_number : Cond.code yX1_number cX1_number 3 (some .int) ∈ cm_all := cm_inT (cm_t6 _ (List.mem_of_getElem? (i := 1) (by decide +kernel))) rfl
theorem kl_RL_265 : Cond.methodLink RL 265 yL_restVoltage ∈ cm_all := cm_inT (cm_t6 _ (List.mem_of_getElem? (i := 2) (by decide +kernel))) rfl
theorem ks_L_restVoltage : Cond.static yL_restVoltage ∈ cm_all := cm_inT (cm_t6 _ (List.mem_of_getElem? (i := 3) (by decide +kernel))) rfl
theorem kw_L_restVoltage : Cond.codeWith yL_restVoltage cL_restVoltage 5 (some .int) [(0, 10, 13, 32), (0, 10, 17, 13)] ∈ cm_all := cm_inT (cm_t6 _ (List.mem_of_getElem? (i := 4) (by decide +kernel))) rfl
theorem kl_RL_73 : Cond.methodLink RL 73 yX10_restVoltage ∈ cm_all := cm_inT (cm_t6 _ (List.mem_of_getElem? (i := 5) (by decide +kernel))) rfl
theorem kv_X10_restVoltage : Cond.instanceMethod yX10_restVoltage ∈ cm_all := cm_inT (cm_t6 _ (List.mem_of_getElem? (i := 6) (by decide +kernel))) rfl
theorem kx_X10_restVoltage : Cond.selects yX10_restVoltage.cls yX10_restVoltage yX10_restVoltage ∈ cm_all := cm_inT (cm_t6 _ (List.mem_of_getElem? (i := 7) (by decide +kernel))) rfl
theorem kc_X10_restVoltage : Cond.code yX10_restVoltage cX10_restVoltage 4 (some .int) ∈ cm_all := cm_inT (cm_t6 _ (List.mem_of_getElem? (i := 8) (by decide +kernel))) rfl
theorem kl_RX10_230 : Cond.constant RX10 230 (200000) ∈ cm_all := cm_inT (cm_t6 _ (List.mem_of_getElem? (i := 9) (by decide +kernel))) rfl
theorem kl_RX10_231 : Cond.methodLinkNest RX10 231 yX0_restVoltageAt "CellCycler" ∈ cm_all := cm_inT (cm_t6 _ (List.mem_of_getElem? (i := 10) (by decide +kernel))) rfl
theorem kl_RL_268 : Cond.methodLink RL 268 yL_chargeFor ∈ cm_all := cm_inT (cm_t6 _ (List.mem_of_getElem? (i := 11) (by decide +kernel))) rfl
theorem ks_L_chargeFor : Cond.static yL_chargeFor ∈ cm_all := cm_inT (cm_t6 _ (List.mem_of_getElem? (i := 12) (by decide +kernel))) rfl
theorem kw_L_chargeFor : Cond.codeWith yL_chargeFor cL_chargeFor 5 (some .int) [(0, 10, 13, 32), (0, 10, 17, 13)] ∈ cm_all := cm_inT (cm_t6 _ (List.mem_of_getElem? (i := 13) (by decide +kernel))) rfl
theorem kl_RL_76 : Cond.methodLink RL 76 yX10_chargeFor ∈ cm_all := cm_inT (cm_t6 _ (List.mem_of_getElem? (i := 14) (by decide +kernel))) rfl
theorem kv_X10_chargeFor : Cond.instanceMethod yX10_chargeFor ∈ cm_all := cm_inT (cm_t6 _ (List.mem_of_getElem? (i := 15) (by decide +kernel))) rfl
theorem kx_X10_chargeFor : Cond.selects yX10_chargeFor.cls yX10_chargeFor yX10_chargeFor ∈ cm_all := cm_inT (cm_t6 _ (List.mem_of_getElem? (i := 16) (by decide +kernel))) rfl
theorem kc_X10_chargeFor : Cond.code yX10_chargeFor cX10_chargeFor 4 (some .int) ∈ cm_all := cm_inT (cm_t6 _ (List.mem_of_getElem? (i := 17) (by decide +kernel))) rfl
theorem kl_RX10_234 : Cond.methodLinkNest RX10 234 yX0_smallestChargeFor "CellCycler" ∈ cm_all := cm_inT (cm_t6 _ (List.mem_of_getElem? (i := 18) (by decide +kernel))) rfl
theorem kv_X0_smallestChargeFor : Cond.instanceMethod yX0_smallestChargeFor ∈ cm_all := cm_inT (cm_t6 _ (List.mem_of_getElem? (i := 20) (by decide +kernel))) rfl
theorem kc_X0_smallestChargeFor : Cond.code yX0_smallestChargeFor cX0_smallestChargeFor 6 (some .int) ∈ cm_all := cm_inT (cm_t6 _ (List.mem_of_getElem? (i := 21) (by decide +kernel))) rfl
theorem kl_RL_271 : Cond.methodLink RL 271 yL_filling ∈ cm_all := cm_inT (cm_t6 _ (List.mem_of_getElem? (i := 22) (by decide +kernel))) rfl
theorem ks_L_filling : Cond.static yL_filling ∈ cm_all := cm_inT (cm_t6 _ (List.mem_of_getElem? (i := 23) (by decide +kernel))) rfl
theorem kw_L_filling : Cond.codeWith yL_filling cL_filling 4 (some .int) [(0, 9, 12, 32)] ∈ cm_all := cm_inT (cm_t6 _ (List.mem_of_getElem? (i := 24) (by decide +kernel))) rfl
theorem kl_RL_79 : Cond.methodLink RL 79 yX10_filling ∈ cm_all := cm_inT (cm_t6 _ (List.mem_of_getElem? (i := 25) (by decide +kernel))) rfl
theorem kv_X10_filling : Cond.instanceMethod yX10_filling ∈ cm_all := cm_inT (cm_t6 _ (List.mem_of_getElem? (i := 26) (by decide +kernel))) rfl
theorem kx_X10_filling : Cond.selects yX10_filling.cls yX10_filling yX10_filling ∈ cm_all := cm_inT (cm_t6 _ (List.mem_of_getElem? (i := 27) (by decide +kernel))) rfl
theorem kc_X10_filling : Cond.code yX10_filling cX10_filling 2 (some .int) ∈ cm_all := cm_inT (cm_t6 _ (List.mem_of_getElem? (i := 28) (by decide +kernel))) rfl
theorem kl_RX10_237 : Cond.methodLinkNest RX10 237 yX0_thousandths "CellCycler" ∈ cm_all := cm_inT (cm_t6 _ (List.mem_of_getElem? (i := 29) (by decide +kernel))) rfl
theorem kl_RL_274 : Cond.methodLink RL 274 yL_ledger ∈ cm_all := cm_inT (cm_t6 _ (List.mem_of_getElem? (i := 30) (by decide +kernel))) rfl
theorem ks_L_ledger : Cond.static yL_ledger ∈ cm_all := cm_inT (cm_t6 _ (List.mem_of_getElem? (i := 31) (by decide +kernel))) rfl
theorem kw_L_ledger : Cond.codeWith yL_ledger cL_ledger 5 (some .int) [(0, 9, 12, 32), (0, 9, 16, 13)] ∈ cm_all := cm_inT (cm_t6 _ (List.mem_of_getElem? (i := 32) (by decide +kernel))) rfl
theorem kl_RL_82 : Cond.methodLink RL 82 yX10_ledger ∈ cm_all := cm_inT (cm_t6 _ (List.mem_of_getElem? (i := 33) (by decide +kernel))) rfl
theorem kv_X10_ledger : Cond.instanceMethod yX10_ledger ∈ cm_all := cm_inT (cm_t6 _ (List.mem_of_getElem? (i := 34) (by decide +kernel))) rfl
theorem kx_X10_ledger : Cond.selects yX10_ledger.cls yX10_ledger yX10_ledger ∈ cm_all := cm_inT (cm_t6 _ (List.mem_of_getElem? (i := 35) (by decide +kernel))) rfl
theorem kc_X10_ledger : Cond.code yX10_ledger cX10_ledger 4 (some .long) ∈ cm_all := cm_inT (cm_t6 _ (List.mem_of_getElem? (i := 36) (by decide +kernel))) rfl
theorem kl_RL_277 : Cond.methodLink RL 277 yL_chargeEfficiency ∈ cm_all := cm_inT (cm_t6 _ (List.mem_of_getElem? (i := 37) (by decide +kernel))) rfl
theorem ks_L_chargeEfficiency : Cond.static yL_chargeEfficiency ∈ cm_all := cm_inT (cm_t6 _ (List.mem_of_getElem? (i := 38) (by decide +kernel))) rfl
theorem kw_L_chargeEfficiency : Cond.codeWith yL_chargeEfficiency cL_chargeEfficiency 4 (some .int) [(0, 9, 12, 32)] ∈ cm_all := cm_inT (cm_t6 _ (List.mem_of_getElem? (i := 39) (by decide +kernel))) rfl
theorem kl_RL_86 : Cond.methodLink RL 86 yX10_chargeEfficiency ∈ cm_all := cm_inT (cm_t6 _ (List.mem_of_getElem? (i := 40) (by decide +kernel))) rfl
theorem kv_X10_chargeEfficiency : Cond.instanceMethod yX10_chargeEfficiency ∈ cm_all := cm_inT (cm_t6 _ (List.mem_of_getElem? (i := 41) (by decide +kernel))) rfl
theorem kx_X10_chargeEfficiency : Cond.selects yX10_chargeEfficiency.cls yX10_chargeEfficiency yX10_chargeEfficiency ∈ cm_all := cm_inT (cm_t6 _ (List.mem_of_getElem? (i := 42) (by decide +kernel))) rfl
theorem kc_X10_chargeEfficiency : Cond.code yX10_chargeEfficiency cX10_chargeEfficiency 3 (some .float) ∈ cm_all := cm_inT (cm_t6 _ (List.mem_of_getElem? (i := 43) (by decide +kernel))) rfl
theorem kl_RL_281 : Cond.methodLink RL 281 yL_energyEfficiency ∈ cm_all := cm_inT (cm_t6 _ (List.mem_of_getElem? (i := 44) (by decide +kernel))) rfl
theorem ks_L_energyEfficiency : Cond.static yL_energyEfficiency ∈ cm_all := cm_inT (cm_t6 _ (List.mem_of_getElem? (i := 45) (by decide +kernel))) rfl
theorem kw_L_energyEfficiency : Cond.codeWith yL_energyEfficiency cL_energyEfficiency 4 (some .int) [(0, 8, 11, 32)] ∈ cm_all := cm_inT (cm_t6 _ (List.mem_of_getElem? (i := 46) (by decide +kernel))) rfl
theorem kl_RL_90 : Cond.methodLink RL 90 yX10_energyEfficiency ∈ cm_all := cm_inT (cm_t6 _ (List.mem_of_getElem? (i := 47) (by decide +kernel))) rfl
theorem kv_X10_energyEfficiency : Cond.instanceMethod yX10_energyEfficiency ∈ cm_all := cm_inT (cm_t6 _ (List.mem_of_getElem? (i := 48) (by decide +kernel))) rfl
theorem kx_X10_energyEfficiency : Cond.selects yX10_energyEfficiency.cls yX10_energyEfficiency yX10_energyEfficiency ∈ cm_all := cm_inT (cm_t6 _ (List.mem_of_getElem? (i := 49) (by decide +kernel))) rfl
theorem kc_X10_energyEfficiency : Cond.code yX10_energyEfficiency cX10_energyEfficiency 3 (some .double) ∈ cm_all := cm_inT (cm_t6 _ (List.mem_of_getElem? (i := 50) (by decide +kernel))) rfl
theorem kl_RL_284 : Cond.methodLink RL 284 yL_power ∈ cm_all := cm_inT (cm_t6 _ (List.mem_of_getElem? (i := 51) (by decide +kernel))) rfl
theorem ks_L_power : Cond.static yL_power ∈ cm_all := cm_inT (cm_t6 _ (List.mem_of_getElem? (i := 52) (by decide +kernel))) rfl
theorem kw_L_power : Cond.codeWith yL_power cL_power 4 (some .int) [(0, 9, 12, 32)] ∈ cm_all := cm_inT (cm_t6 _ (List.mem_of_getElem? (i := 53) (by decide +kernel))) rfl
theorem kl_RL_94 : Cond.methodLink RL 94 yX10_power ∈ cm_all := cm_inT (cm_t6 _ (List.mem_of_getElem? (i := 54) (by decide +kernel))) rfl
theorem kv_X10_power : Cond.instanceMethod yX10_power ∈ cm_all := cm_inT (cm_t6 _ (List.mem_of_getElem? (i := 55) (by decide +kernel))) rfl
theorem kx_X10_power : Cond.selects yX10_power.cls yX10_power yX10_power ∈ cm_all := cm_inT (cm_t6 _ (List.mem_of_getElem? (i := 56) (by decide +kernel))) rfl
theorem kc_X10_power : Cond.code yX10_power cX10_power 3 (some .int) ∈ cm_all := cm_inT (cm_t6 _ (List.mem_of_getElem? (i := 57) (by decide +kernel))) rfl
theorem kl_RL_287 : Cond.methodLink RL 287 yL_measuredRest ∈ cm_all := cm_inT (cm_t6 _ (List.mem_of_getElem? (i := 58) (by decide +kernel))) rfl
theorem ks_L_measuredRest : Cond.static yL_measuredRest ∈ cm_all := cm_inT (cm_t6 _ (List.mem_of_getElem? (i := 59) (by decide +kernel))) rfl
theorem kw_L_measuredRest : Cond.codeWith yL_measuredRest cL_measuredRest 4 (some .int) [(0, 9, 12, 32)] ∈ cm_all := cm_inT (cm_t6 _ (List.mem_of_getElem? (i := 60) (by decide +kernel))) rfl
theorem kl_RL_97 : Cond.methodLink RL 97 yX10_measuredRest ∈ cm_all := cm_inT (cm_t6 _ (List.mem_of_getElem? (i := 61) (by decide +kernel))) rfl
theorem kv_X10_measuredRest : Cond.instanceMethod yX10_measuredRest ∈ cm_all := cm_inT (cm_t6 _ (List.mem_of_getElem? (i := 62) (by decide +kernel))) rfl
theorem kx_X10_measuredRest : Cond.selects yX10_measuredRest.cls yX10_measuredRest yX10_measuredRest ∈ cm_all := cm_inT (cm_t6 _ (List.mem_of_getElem? (i := 63) (by decide +kernel))) rfl
theorem kc_X10_measuredRest : Cond.code yX10_measuredRest cX10_measuredRest 2 (some .int) ∈ cm_all := cm_inT (cm_t6 _ (List.mem_of_getElem? (i := 64) (by decide +kernel))) rfl
theorem kl_RL_290 : Cond.methodLink RL 290 yL_capacityByRule ∈ cm_all := cm_inT (cm_t6 _ (List.mem_of_getElem? (i := 65) (by decide +kernel))) rfl
theorem ks_L_capacityByRule : Cond.static yL_capacityByRule ∈ cm_all := cm_inT (cm_t6 _ (List.mem_of_getElem? (i := 66) (by decide +kernel))) rfl
theorem kw_L_capacityByRule : Cond.codeWith yL_capacityByRule cL_capacityByRule 4 (some .int) [(0, 9, 12, 32)] ∈ cm_all := cm_inT (cm_t6 _ (List.mem_of_getElem? (i := 67) (by decide +kernel))) rfl
theorem kl_RL_100 : Cond.methodLink RL 100 yX10_capacityByRule ∈ cm_all := cm_inT (cm_t6 _ (List.mem_of_getElem? (i := 68) (by decide +kernel))) rfl
theorem kv_X10_capacityByRule : Cond.instanceMethod yX10_capacityByRule ∈ cm_all := cm_inT (cm_t6 _ (List.mem_of_getElem? (i := 69) (by decide +kernel))) rfl
theorem kx_X10_capacityByRule : Cond.selects yX10_capacityByRule.cls yX10_capacityByRule yX10_capacityByRule ∈ cm_all := cm_inT (cm_t6 _ (List.mem_of_getElem? (i := 70) (by decide +kernel))) rfl
theorem kc_X10_capacityByRule : Cond.code yX10_capacityByRule cX10_capacityByRule 2 (some .int) ∈ cm_all := cm_inT (cm_t6 _ (List.mem_of_getElem? (i := 71) (by decide +kernel))) rfl
theorem kl_RL_293 : Cond.methodLink RL 293 yL_internalResistance ∈ cm_all := cm_inT (cm_t6 _ (List.mem_of_getElem? (i := 72) (by decide +kernel))) rfl
theorem ks_L_internalResistance : Cond.static yL_internalResistance ∈ cm_all := cm_inT (cm_t6 _ (List.mem_of_getElem? (i := 73) (by decide +kernel))) rfl
theorem kw_L_internalResistance : Cond.codeWith yL_internalResistance cL_internalResistance 4 (some .int) [(0, 9, 12, 32)] ∈ cm_all := cm_inT (cm_t6 _ (List.mem_of_getElem? (i := 74) (by decide +kernel))) rfl
theorem kl_RL_103 : Cond.methodLink RL 103 yX10_internalResistance ∈ cm_all := cm_inT (cm_t6 _ (List.mem_of_getElem? (i := 75) (by decide +kernel))) rfl
theorem kv_X10_internalResistance : Cond.instanceMethod yX10_internalResistance ∈ cm_all := cm_inT (cm_t6 _ (List.mem_of_getElem? (i := 76) (by decide +kernel))) rfl
theorem kx_X10_internalResistance : Cond.selects yX10_internalResistance.cls yX10_internalResistance yX10_internalResistance ∈ cm_all := cm_inT (cm_t6 _ (List.mem_of_getElem? (i := 77) (by decide +kernel))) rfl
theorem kc_X10_internalResistance : Cond.code yX10_internalResistance cX10_internalResistance 2 (some .int) ∈ cm_all := cm_inT (cm_t6 _ (List.mem_of_getElem? (i := 78) (by decide +kernel))) rfl
theorem kl_RL_296 : Cond.methodLink RL 296 yL_ticksIn ∈ cm_all := cm_inT (cm_t6 _ (List.mem_of_getElem? (i := 79) (by decide +kernel))) rfl
theorem ks_L_ticksIn : Cond.static yL_ticksIn ∈ cm_all := cm_inT (cm_t6 _ (List.mem_of_getElem? (i := 80) (by decide +kernel))) rfl
theorem kw_L_ticksIn : Cond.codeWith yL_ticksIn cL_ticksIn 5 (some .int) [(0, 10, 13, 32), (0, 10, 17, 13)] ∈ cm_all := cm_inT (cm_t6 _ (List.mem_of_getElem? (i := 81) (by decide +kernel))) rfl
theorem kl_RL_106 : Cond.methodLink RL 106 yX10_ticksIn ∈ cm_all := cm_inT (cm_t6 _ (List.mem_of_getElem? (i := 82) (by decide +kernel))) rfl
theorem kv_X10_ticksIn : Cond.instanceMethod yX10_ticksIn ∈ cm_all := cm_inT (cm_t6 _ (List.mem_of_getElem? (i := 83) (by decide +kernel))) rfl
theorem kx_X10_ticksIn : Cond.selects yX10_ticksIn.cls yX10_ticksIn yX10_ticksIn ∈ cm_all := cm_inT (cm_t6 _ (List.mem_of_getElem? (i := 84) (by decide +kernel))) rfl
theorem kc_X10_ticksIn : Cond.code yX10_ticksIn cX10_ticksIn 4 (some .int) ∈ cm_all := cm_inT (cm_t6 _ (List.mem_of_getElem? (i := 85) (by decide +kernel))) rfl
theorem kl_RL_299 : Cond.methodLink RL 299 yL_warnings ∈ cm_all := cm_inT (cm_t6 _ (List.mem_of_getElem? (i := 86) (by decide +kernel))) rfl
theorem ks_L_warnings : Cond.static yL_warnings ∈ cm_all := cm_inT (cm_t6 _ (List.mem_of_getElem? (i := 87) (by decide +kernel))) rfl
theorem kw_L_warnings : Cond.codeWith yL_warnings cL_warnings 4 (some .int) [(0, 9, 12, 32)] ∈ cm_all := cm_inT (cm_t6 _ (List.mem_of_getElem? (i := 88) (by decide +kernel))) rfl
theorem kl_RL_109 : Cond.methodLink RL 109 yX10_warnings ∈ cm_all := cm_inT (cm_t6 _ (List.mem_of_getElem? (i := 89) (by decide +kernel))) rfl
theorem kv_X10_warnings : Cond.instanceMethod yX10_warnings ∈ cm_all := cm_inT (cm_t6 _ (List.mem_of_getElem? (i := 90) (by decide +kernel))) rfl
theorem kx_X10_warnings : Cond.selects yX10_warnings.cls yX10_warnings yX10_warnings ∈ cm_all := cm_inT (cm_t6 _ (List.mem_of_getElem? (i := 91) (by decide +kernel))) rfl
theorem kc_X10_warnings : Cond.code yX10_warnings cX10_warnings 2 (some .int) ∈ cm_all := cm_inT (cm_t6 _ (List.mem_of_getElem? (i := 92) (by decide +kernel))) rfl
theorem kl_RL_302 : Cond.methodLink RL 302 yL_warned ∈ cm_all := cm_inT (cm_t6 _ (List.mem_of_getElem? (i := 93) (by decide +kernel))) rfl
theorem ks_L_warned : Cond.static yL_warned ∈ cm_all := cm_inT (cm_t6 _ (List.mem_of_getElem? (i := 94) (by decide +kernel))) rfl
theorem kw_L_warned : Cond.codeWith yL_warned cL_warned 4 (some .int) [(0, 9, 12, 32)] ∈ cm_all := cm_inT (cm_t6 _ (List.mem_of_getElem? (i := 95) (by decide +kernel))) rfl
theorem kl_RL_112 : Cond.methodLink RL 112 yX10_warned ∈ cm_all := cm_inT (cm_t6 _ (List.mem_of_getElem? (i := 96) (by decide +kernel))) rfl
theorem kv_X10_warned : Cond.instanceMethod yX10_warned ∈ cm_all := cm_inT (cm_t6 _ (List.mem_of_getElem? (i := 97) (by decide +kernel))) rfl
theorem kx_X10_warned : Cond.selects yX10_warned.cls yX10_warned yX10_warned ∈ cm_all := cm_inT (cm_t6 _ (List.mem_of_getElem? (i := 98) (by decide +kernel))) rfl
theorem kc_X10_warned : Cond.code yX10_warned cX10_warned 2 (some .int) ∈ cm_all := cm_inT (cm_t6 _ (List.mem_of_getElem? (i := 99) (by decide +kernel))) rfl
theorem kl_RL_305 : Cond.methodLink RL 305 yL_repeats ∈ cm_all := cm_inT (cm_t6 _ (List.mem_of_getElem? (i := 100) (by decide +kernel))) rfl
theorem ks_L_repeats : Cond.static yL_repeats ∈ cm_all := cm_inT (cm_t6 _ (List.mem_of_getElem? (i := 101) (by decide +kernel))) rfl
theorem kw_L_repeats : Cond.codeWith yL_repeats cL_repeats 5 (some .int) [(0, 10, 13, 32)] ∈ cm_all := cm_inT (cm_t6 _ (List.mem_of_getElem? (i := 102) (by decide +kernel))) rfl
theorem kl_RL_115 : Cond.methodLink RL 115 yX10_repeats ∈ cm_all := cm_inT (cm_t6 _ (List.mem_of_getElem? (i := 103) (by decide +kernel))) rfl
theorem kv_X10_repeats : Cond.instanceMethod yX10_repeats ∈ cm_all := cm_inT (cm_t6 _ (List.mem_of_getElem? (i := 104) (by decide +kernel))) rfl
theorem kx_X10_repeats : Cond.selects yX10_repeats.cls yX10_repeats yX10_repeats ∈ cm_all := cm_inT (cm_t6 _ (List.mem_of_getElem? (i := 105) (by decide +kernel))) rfl
theorem kc_X10_repeats : Cond.code yX10_repeats cX10_repeats 3 (some .int) ∈ cm_all := cm_inT (cm_t6 _ (List.mem_of_getElem? (i := 106) (by decide +kernel))) rfl
theorem kl_RL_308 : Cond.methodLink RL 308 yL_inState ∈ cm_all := cm_inT (cm_t6 _ (List.mem_of_getElem? (i := 107) (by decide +kernel))) rfl
theorem ks_L_inState : Cond.static yL_inState ∈ cm_all := cm_inT (cm_t6 _ (List.mem_of_getElem? (i := 108) (by decide +kernel))) rfl
theorem kw_L_inState : Cond.codeWith yL_inState cL_inState 4 (some .int) [(0, 9, 12, 13)] ∈ cm_all := cm_inT (cm_t6 _ (List.mem_of_getElem? (i := 109) (by decide +kernel))) rfl
theorem kl_RL_118 : Cond.methodLink RL 118 yX10_inState ∈ cm_all := cm_inT (cm_t6 _ (List.mem_of_getElem? (i := 110) (by decide +kernel))) rfl
theorem kv_X10_inState : Cond.instanceMethod yX10_inState ∈ cm_all := cm_inT (cm_t6 _ (List.mem_of_getElem? (i := 111) (by decide +kernel))) rfl
theorem kx_X10_inState : Cond.selects yX10_inState.cls yX10_inState yX10_inState ∈ cm_all := cm_inT (cm_t6 _ (List.mem_of_getElem? (i := 112) (by decide +kernel))) rfl
theorem kc_X10_inState : Cond.code yX10_inState cX10_inState 2 (some .int) ∈ cm_all := cm_inT (cm_t6 _ (List.mem_of_getElem? (i := 113) (by decide +kernel))) rfl
theorem kl_RL_323 : Cond.methodLink RL 323 yL_record ∈ cm_all := cm_inT (cm_t6 _ (List.mem_of_getElem? (i := 114) (by decide +kernel))) rfl
theorem ks_L_record : Cond.static yL_record ∈ cm_all := cm_inT (cm_t6 _ (List.mem_of_getElem? (i := 115) (by decide +kernel))) rfl
theorem kw_L_record : Cond.codeWith yL_record cL_record 5 (some .int) [(0, 10, 13, 13)] ∈ cm_all := cm_inT (cm_t6 _ (List.mem_of_getElem? (i := 116) (by decide +kernel))) rfl
theorem kl_RL_121 : Cond.methodLink RL 121 yX10_record ∈ cm_all := cm_inT (cm_t6 _ (List.mem_of_getElem? (i := 117) (by decide +kernel))) rfl
theorem kv_X10_record : Cond.instanceMethod yX10_record ∈ cm_all := cm_inT (cm_t6 _ (List.mem_of_getElem? (i := 118) (by decide +kernel))) rfl
theorem kx_X10_record : Cond.selects yX10_record.cls yX10_record yX10_record ∈ cm_all := cm_inT (cm_t6 _ (List.mem_of_getElem? (i := 119) (by decide +kernel))) rfl
theorem kc_X10_record : Cond.code yX10_record cX10_record 4 (some .int) ∈ cm_all := cm_inT (cm_t6 _ (List.mem_of_getElem? (i := 120) (by decide +kernel))) rfl
theorem kl_RX10_311 : Cond.methodLinkNest RX10 311 yX8_get "CellCycler" ∈ cm_all := cm_inT (cm_t6 _ (List.mem_of_getElem? (i := 121) (by decide +kernel))) rfl
theorem kv_X8_get : Cond.instanceMethod yX8_get ∈ cm_all := cm_inT (cm_t6 _ (List.mem_of_getElem? (i := 123) (by decide +kernel))) rfl
theorem kc_X8_get : Cond.code yX8_get cX8_get 3 (some .int) ∈ cm_all := cm_inT (cm_t6 _ (List.mem_of_getElem? (i := 124) (by decide +kernel))) rfl
theorem kl_RX8_32 : Cond.methodLink RX8 32 yX8_placeOf ∈ cm_all := cm_inT (cm_t6 _ (List.mem_of_getElem? (i := 125) (by decide +kernel))) rfl
theorem kl_RX8_36 : Cond.methodLinkNest RX8 36 yX10_at "CellCycler" ∈ cm_all := cm_inT (cm_t6 _ (List.mem_of_getElem? (i := 126) (by decide +kernel))) rfl
theorem kl_RL_326 : Cond.methodLink RL 326 yL_counting ∈ cm_all := cm_inT (cm_t6 _ (List.mem_of_getElem? (i := 127) (by decide +kernel))) rfl
theorem ks_L_counting : Cond.static yL_counting ∈ cm_all := cm_inT (cm_t6 _ (List.mem_of_getElem? (i := 128) (by decide +kernel))) rfl
theorem kw_L_counting : Cond.codeWith yL_counting cL_counting 4 (some .int) [(0, 9, 12, 32)] ∈ cm_all := cm_inT (cm_t6 _ (List.mem_of_getElem? (i := 129) (by decide +kernel))) rfl
theorem kl_RL_124 : Cond.methodLink RL 124 yX10_counting ∈ cm_all := cm_inT (cm_t6 _ (List.mem_of_getElem? (i := 130) (by decide +kernel))) rfl
theorem kv_X10_counting : Cond.instanceMethod yX10_counting ∈ cm_all := cm_inT (cm_t6 _ (List.mem_of_getElem? (i := 131) (by decide +kernel))) rfl
theorem kx_X10_counting : Cond.selects yX10_counting.cls yX10_counting yX10_counting ∈ cm_all := cm_inT (cm_t6 _ (List.mem_of_getElem? (i := 132) (by decide +kernel))) rfl
theorem kc_X10_counting : Cond.code yX10_counting cX10_counting 4 (some .int) ∈ cm_all := cm_inT (cm_t6 _ (List.mem_of_getElem? (i := 133) (by decide +kernel))) rfl
theorem kl_RX10_314 : Cond.methodLinkNest RX10 314 yX9_recordCounts "CellCycler" ∈ cm_all := cm_inT (cm_t6 _ (List.mem_of_getElem? (i := 134) (by decide +kernel))) rfl
theorem kv_X9_recordCounts : Cond.instanceMethod yX9_recordCounts ∈ cm_all := cm_inT (cm_t6 _ (List.mem_of_getElem? (i := 136) (by decide +kernel))) rfl
theorem kc_X9_recordCounts : Cond.code yX9_recordCounts cX9_recordCounts 3 (some .boolean) ∈ cm_all := cm_inT (cm_t6 _ (List.mem_of_getElem? (i := 137) (by decide +kernel))) rfl
theorem kl_RX9_108 : Cond.methodLinkNest RX9 108 yX8_get "CellCycler" ∈ cm_all := cm_inT (cm_t6 _ (List.mem_of_getElem? (i := 138) (by decide +kernel))) rfl
theorem kl_RL_329 : Cond.methodLink RL 329 yL_loss ∈ cm_all := cm_inT (cm_t6 _ (List.mem_of_getElem? (i := 139) (by decide +kernel))) rfl
theorem ks_L_loss : Cond.static yL_loss ∈ cm_all := cm_inT (cm_t6 _ (List.mem_of_getElem? (i := 140) (by decide +kernel))) rfl
theorem kw_L_loss : Cond.codeWith yL_loss cL_loss 4 (some .int) [(0, 9, 12, 32)] ∈ cm_all := cm_inT (cm_t6 _ (List.mem_of_getElem? (i := 141) (by decide +kernel))) rfl
theorem kl_RL_127 : Cond.methodLink RL 127 yX10_loss ∈ cm_all := cm_inT (cm_t6 _ (List.mem_of_getElem? (i := 142) (by decide +kernel))) rfl
theorem kv_X10_loss : Cond.instanceMethod yX10_loss ∈ cm_all := cm_inT (cm_t6 _ (List.mem_of_getElem? (i := 143) (by decide +kernel))) rfl
theorem kx_X10_loss : Cond.selects yX10_loss.cls yX10_loss yX10_loss ∈ cm_all := cm_inT (cm_t6 _ (List.mem_of_getElem? (i := 144) (by decide +kernel))) rfl
theorem kc_X10_loss : Cond.code yX10_loss cX10_loss 5 (some .int) ∈ cm_all := cm_inT (cm_t6 _ (List.mem_of_getElem? (i := 145) (by decide +kernel))) rfl
theorem kl_RL_336 : Cond.methodLink RL 336 yL_logEntry ∈ cm_all := cm_inT (cm_t6 _ (List.mem_of_getElem? (i := 146) (by decide +kernel))) rfl
theorem ks_L_logEntry : Cond.static yL_logEntry ∈ cm_all := cm_inT (cm_t6 _ (List.mem_of_getElem? (i := 147) (by decide +kernel))) rfl
theorem kw_L_logEntry : Cond.codeWith yL_logEntry cL_logEntry 5 (some .int) [(0, 10, 13, 13)] ∈ cm_all := cm_inT (cm_t6 _ (List.mem_of_getElem? (i := 148) (by decide +kernel))) rfl
theorem kl_RL_130 : Cond.methodLink RL 130 yX10_logEntry ∈ cm_all := cm_inT (cm_t6 _ (List.mem_of_getElem? (i := 149) (by decide +kernel))) rfl
theorem kv_X10_logEntry : Cond.instanceMethod yX10_logEntry ∈ cm_all := cm_inT (cm_t6 _ (List.mem_of_getElem? (i := 150) (by decide +kernel))) rfl
theorem kx_X10_logEntry : Cond.selects yX10_logEntry.cls yX10_logEntry yX10_logEntry ∈ cm_all := cm_inT (cm_t6 _ (List.mem_of_getElem? (i := 151) (by decide +kernel))) rfl
theorem kc_X10_logEntry : Cond.code yX10_logEntry cX10_logEntry 3 (some .int) ∈ cm_all := cm_inT (cm_t6 _ (List.mem_of_getElem? (i := 152) (by decide +kernel))) rfl
theorem kl_RL_339 : Cond.methodLink RL 339 yL_eventsOf ∈ cm_all := cm_inT (cm_t6 _ (List.mem_of_getElem? (i := 153) (by decide +kernel))) rfl
theorem ks_L_eventsOf : Cond.static yL_eventsOf ∈ cm_all := cm_inT (cm_t6 _ (List.mem_of_getElem? (i := 154) (by decide +kernel))) rfl
theorem kw_L_eventsOf : Cond.codeWith yL_eventsOf cL_eventsOf 5 (some .int) [(0, 10, 13, 32), (0, 10, 17, 13)] ∈ cm_all := cm_inT (cm_t6 _ (List.mem_of_getElem? (i := 155) (by decide +kernel))) rfl
theorem kl_RL_133 : Cond.methodLink RL 133 yX10_eventsOf ∈ cm_all := cm_inT (cm_t6 _ (List.mem_of_getElem? (i := 156) (by decide +kernel))) rfl
theorem kv_X10_eventsOf : Cond.instanceMethod yX10_eventsOf ∈ cm_all := cm_inT (cm_t6 _ (List.mem_of_getElem? (i := 157) (by decide +kernel))) rfl
theorem kx_X10_eventsOf : Cond.selects yX10_eventsOf.cls yX10_eventsOf yX10_eventsOf ∈ cm_all := cm_inT (cm_t6 _ (List.mem_of_getElem? (i := 158) (by decide +kernel))) rfl
theorem kc_X10_eventsOf : Cond.code yX10_eventsOf cX10_eventsOf 5 (some .int) ∈ cm_all := cm_inT (cm_t6 _ (List.mem_of_getElem? (i := 159) (by decide +kernel))) rfl
theorem kl_RL_342 : Cond.methodLink RL 342 yL_stepEndsIn ∈ cm_all := cm_inT (cm_t6 _ (List.mem_of_getElem? (i := 160) (by decide +kernel))) rfl
theorem ks_L_stepEndsIn : Cond.static yL_stepEndsIn ∈ cm_all := cm_inT (cm_t6 _ (List.mem_of_getElem? (i := 161) (by decide +kernel))) rfl
theorem kw_L_stepEndsIn : Cond.codeWith yL_stepEndsIn cL_stepEndsIn 4 (some .int) [(0, 9, 12, 32)] ∈ cm_all := cm_inT (cm_t6 _ (List.mem_of_getElem? (i := 162) (by decide +kernel))) rfl
theorem kl_RL_136 : Cond.methodLink RL 136 yX10_stepEndsIn ∈ cm_all := cm_inT (cm_t6 _ (List.mem_of_getElem? (i := 163) (by decide +kernel))) rfl
theorem kv_X10_stepEndsIn : Cond.instanceMethod yX10_stepEndsIn ∈ cm_all := cm_inT (cm_t6 _ (List.mem_of_getElem? (i := 164) (by decide +kernel))) rfl
theorem kx_X10_stepEndsIn : Cond.selects yX10_stepEndsIn.cls yX10_stepEndsIn yX10_stepEndsIn ∈ cm_all := cm_inT (cm_t6 _ (List.mem_of_getElem? (i := 165) (by decide +kernel))) rfl
theorem kc_X10_stepEndsIn : Cond.code yX10_stepEndsIn cX10_stepEndsIn 4 (some .int) ∈ cm_all := cm_inT (cm_t6 _ (List.mem_of_getElem? (i := 166) (by decide +kernel))) rfl
theorem kl_RX10_321 : Cond.methodLink RX10 321 yX10_needTrial ∈ cm_all := cm_inT (cm_t6 _ (List.mem_of_getElem? (i := 167) (by decide +kernel))) rfl
theorem kv_X10_needTrial : Cond.instanceMethod yX10_needTrial ∈ cm_all := cm_inT (cm_t6 _ (List.mem_of_getElem? (i := 169) (by decide +kernel))) rfl
theorem kc_X10_needTrial : Cond.code yX10_needTrial cX10_needTrial 3 (some (.object "CellCycler$Channel")) ∈ cm_all := cm_inT (cm_t6 _ (List.mem_of_getElem? (i := 170) (by decide +kernel))) rfl
theorem kl_RL_345 : Cond.methodLink RL 345 yL_doneIn ∈ cm_all := cm_inT (cm_t6 _ (List.mem_of_getElem? (i := 171) (by decide +kernel))) rfl
theorem ks_L_doneIn : Cond.static yL_doneIn ∈ cm_all := cm_inT (cm_t6 _ (List.mem_of_getElem? (i := 172) (by decide +kernel))) rfl
theorem kw_L_doneIn : Cond.codeWith yL_doneIn cL_doneIn 4 (some .int) [(0, 9, 12, 32)] ∈ cm_all := cm_inT (cm_t6 _ (List.mem_of_getElem? (i := 173) (by decide +kernel))) rfl
theorem kl_RL_139 : Cond.methodLink RL 139 yX10_doneIn ∈ cm_all := cm_inT (cm_t6 _ (List.mem_of_getElem? (i := 174) (by decide +kernel))) rfl
theorem kv_X10_doneIn : Cond.instanceMethod yX10_doneIn ∈ cm_all := cm_inT (cm_t6 _ (List.mem_of_getElem? (i := 175) (by decide +kernel))) rfl
theorem kx_X10_doneIn : Cond.selects yX10_doneIn.cls yX10_doneIn yX10_doneIn ∈ cm_all := cm_inT (cm_t6 _ (List.mem_of_getElem? (i := 176) (by decide +kernel))) rfl
theorem kc_X10_doneIn : Cond.code yX10_doneIn cX10_doneIn 3 (some .int) ∈ cm_all := cm_inT (cm_t6 _ (List.mem_of_getElem? (i := 177) (by decide +kernel))) rfl
theorem kl_RX10_324 : Cond.methodLink RX10 324 yX10_ticksUntil ∈ cm_all := cm_inT (cm_t6 _ (List.mem_of_getElem? (i := 178) (by decide +kernel))) rfl
theorem kv_X10_ticksUntil : Cond.instanceMethod yX10_ticksUntil ∈ cm_all := cm_inT (cm_t6 _ (List.mem_of_getElem? (i := 180) (by decide +kernel))) rfl
theorem kc_X10_ticksUntil : Cond.code yX10_ticksUntil cX10_ticksUntil 4 (some .int) ∈ cm_all := cm_inT (cm_t6 _ (List.mem_of_getElem? (i := 181) (by decide +kernel))) rfl
theorem kl_RL_348 : Cond.methodLink RL 348 yL_tripsIn ∈ cm_all := cm_inT (cm_t6 _ (List.mem_of_getElem? (i := 182) (by decide +kernel))) rfl
theorem ks_L_tripsIn : Cond.static yL_tripsIn ∈ cm_all := cm_inT (cm_t6 _ (List.mem_of_getElem? (i := 183) (by decide +kernel))) rfl
theorem kw_L_tripsIn : Cond.codeWith yL_tripsIn cL_tripsIn 4 (some .int) [(0, 9, 12, 32)] ∈ cm_all := cm_inT (cm_t6 _ (List.mem_of_getElem? (i := 184) (by decide +kernel))) rfl
theorem kl_RL_142 : Cond.methodLink RL 142 yX10_tripsIn ∈ cm_all := cm_inT (cm_t6 _ (List.mem_of_getElem? (i := 185) (by decide +kernel))) rfl
theorem kv_X10_tripsIn : Cond.instanceMethod yX10_tripsIn ∈ cm_all := cm_inT (cm_t6 _ (List.mem_of_getElem? (i := 186) (by decide +kernel))) rfl
theorem kx_X10_tripsIn : Cond.selects yX10_tripsIn.cls yX10_tripsIn yX10_tripsIn ∈ cm_all := cm_inT (cm_t6 _ (List.mem_of_getElem? (i := 187) (by decide +kernel))) rfl
theorem kc_X10_tripsIn : Cond.code yX10_tripsIn cX10_tripsIn 2 (some .int) ∈ cm_all := cm_inT (cm_t6 _ (List.mem_of_getElem? (i := 188) (by decide +kernel))) rfl
theorem kl_RL_351 : Cond.methodLink RL 351 yL_valueAfter ∈ cm_all := cm_inT (cm_t6 _ (List.mem_of_getElem? (i := 189) (by decide +kernel))) rfl
theorem ks_L_valueAfter : Cond.static yL_valueAfter ∈ cm_all := cm_inT (cm_t6 _ (List.mem_of_getElem? (i := 190) (by decide +kernel))) rfl
theorem kw_L_valueAfter : Cond.codeWith yL_valueAfter cL_valueAfter 6 (some .int) [(0, 12, 15, 32), (0, 12, 19, 13)] ∈ cm_all := cm_inT (cm_t6 _ (List.mem_of_getElem? (i := 191) (by decide +kernel))) rfl
theorem kl_RL_145 : Cond.methodLink RL 145 yX10_valueAfter ∈ cm_all := cm_inT (cm_t6 _ (List.mem_of_getElem? (i := 192) (by decide +kernel))) rfl
theorem kv_X10_valueAfter : Cond.instanceMethod yX10_valueAfter ∈ cm_all := cm_inT (cm_t6 _ (List.mem_of_getElem? (i := 193) (by decide +kernel))) rfl
theorem kx_X10_valueAfter : Cond.selects yX10_valueAfter.cls yX10_valueAfter yX10_valueAfter ∈ cm_all := cm_inT (cm_t6 _ (List.mem_of_getElem? (i := 194) (by decide +kernel))) rfl
theorem kc_X10_valueAfter : Cond.code yX10_valueAfter cX10_valueAfter 6 (some .int) ∈ cm_all := cm_inT (cm_t6 _ (List.mem_of_getElem? (i := 195) (by decide +kernel))) rfl
theorem kl_RL_354 : Cond.methodLink RL 354 yL_peakTemperature ∈ cm_all := cm_inT (cm_t6 _ (List.mem_of_getElem? (i := 196) (by decide +kernel))) rfl
theorem ks_L_peakTemperature : Cond.static yL_peakTemperature ∈ cm_all := cm_inT (cm_t6 _ (List.mem_of_getElem? (i := 197) (by decide +kernel))) rfl
theorem kw_L_peakTemperature : Cond.codeWith yL_peakTemperature cL_peakTemperature 5 (some .int) [(0, 10, 13, 32), (0, 10, 17, 13)] ∈ cm_all := cm_inT (cm_t6 _ (List.mem_of_getElem? (i := 198) (by decide +kernel))) rfl
theorem kl_RL_148 : Cond.methodLink RL 148 yX10_peakTemperature ∈ cm_all := cm_inT (cm_t6 _ (List.mem_of_getElem? (i := 199) (by decide +kernel))) rfl
theorem kv_X10_peakTemperature : Cond.instanceMethod yX10_peakTemperature ∈ cm_all := cm_inT (cm_t6 _ (List.mem_of_getElem? (i := 200) (by decide +kernel))) rfl
theorem kx_X10_peakTemperature : Cond.selects yX10_peakTemperature.cls yX10_peakTemperature yX10_peakTemperature ∈ cm_all := cm_inT (cm_t6 _ (List.mem_of_getElem? (i := 201) (by decide +kernel))) rfl
theorem kc_X10_peakTemperature : Cond.code yX10_peakTemperature cX10_peakTemperature 6 (some .int) ∈ cm_all := cm_inT (cm_t6 _ (List.mem_of_getElem? (i := 202) (by decide +kernel))) rfl
theorem kl_RX10_328 : Cond.methodLink RX10 328 yJ9_max_7cf53 ∈ cm_all := cm_inT (cm_t6 _ (List.mem_of_getElem? (i := 203) (by decide +kernel))) rfl
theorem kl_RL_357 : Cond.methodLink RL 357 yL_settledIn ∈ cm_all := cm_inT (cm_t6 _ (List.mem_of_getElem? (i := 204) (by decide +kernel))) rfl
theorem ks_L_settledIn : Cond.static yL_settledIn ∈ cm_all := cm_inT (cm_t6 _ (List.mem_of_getElem? (i := 205) (by decide +kernel))) rfl
theorem kw_L_settledIn : Cond.codeWith yL_settledIn cL_settledIn 4 (some .int) [(0, 9, 12, 32)] ∈ cm_all := cm_inT (cm_t6 _ (List.mem_of_getElem? (i := 206) (by decide +kernel))) rfl
theorem kl_RL_151 : Cond.methodLink RL 151 yX10_settledIn ∈ cm_all := cm_inT (cm_t6 _ (List.mem_of_getElem? (i := 207) (by decide +kernel))) rfl
theorem kv_X10_settledIn : Cond.instanceMethod yX10_settledIn ∈ cm_all := cm_inT (cm_t6 _ (List.mem_of_getElem? (i := 208) (by decide +kernel))) rfl
theorem kx_X10_settledIn : Cond.selects yX10_settledIn.cls yX10_settledIn yX10_settledIn ∈ cm_all := cm_inT (cm_t6 _ (List.mem_of_getElem? (i := 209) (by decide +kernel))) rfl
theorem kc_X10_settledIn : Cond.code yX10_settledIn cX10_settledIn 4 (some .int) ∈ cm_all := cm_inT (cm_t6 _ (List.mem_of_getElem? (i := 210) (by decide +kernel))) rfl
theorem kl_RL_360 : Cond.methodLink RL 360 yL_duration ∈ cm_all := cm_inT (cm_t6 _ (List.mem_of_getElem? (i := 211) (by decide +kernel))) rfl
theorem ks_L_duration : Cond.static yL_duration ∈ cm_all := cm_inT (cm_t6 _ (List.mem_of_getElem? (i := 212) (by decide +kernel))) rfl
theorem kw_L_duration : Cond.codeWith yL_duration cL_duration 5 (some .int) [(0, 10, 13, 32)] ∈ cm_all := cm_inT (cm_t6 _ (List.mem_of_getElem? (i := 213) (by decide +kernel))) rfl
theorem kl_RL_154 : Cond.methodLink RL 154 yX10_duration ∈ cm_all := cm_inT (cm_t6 _ (List.mem_of_getElem? (i := 214) (by decide +kernel))) rfl
theorem kv_X10_duration : Cond.instanceMethod yX10_duration ∈ cm_all := cm_inT (cm_t6 _ (List.mem_of_getElem? (i := 215) (by decide +kernel))) rfl
theorem kx_X10_duration : Cond.selects yX10_duration.cls yX10_duration yX10_duration ∈ cm_all := cm_inT (cm_t6 _ (List.mem_of_getElem? (i := 216) (by decide +kernel))) rfl
theorem kc_X10_duration : Cond.code yX10_duration cX10_duration 3 (some .int) ∈ cm_all := cm_inT (cm_t6 _ (List.mem_of_getElem? (i := 217) (by decide +kernel))) rfl
theorem kl_RX10_336 : Cond.methodLink RX10 336 yX10_needTrialOf ∈ cm_all := cm_inT (cm_t6 _ (List.mem_of_getElem? (i := 218) (by decide +kernel))) rfl
theorem kv_X10_needTrialOf : Cond.instanceMethod yX10_needTrialOf ∈ cm_all := cm_inT (cm_t6 _ (List.mem_of_getElem? (i := 220) (by decide +kernel))) rfl
theorem kc_X10_needTrialOf : Cond.code yX10_needTrialOf cX10_needTrialOf 4 (some (.object "CellCycler$Channel")) ∈ cm_all := cm_inT (cm_t6 _ (List.mem_of_getElem? (i := 221) (by decide +kernel))) rfl
theorem kl_RL_363 : Cond.methodLink RL 363 yL_shortest ∈ cm_all := cm_inT (cm_t6 _ (List.mem_of_getElem? (i := 222) (by decide +kernel))) rfl
theorem ks_L_shortest : Cond.static yL_shortest ∈ cm_all := cm_inT (cm_t6 _ (List.mem_of_getElem? (i := 223) (by decide +kernel))) rfl
theorem kw_L_shortest : Cond.codeWith yL_shortest cL_shortest 4 (some .int) [(0, 9, 12, 32)] ∈ cm_all := cm_inT (cm_t6 _ (List.mem_of_getElem? (i := 224) (by decide +kernel))) rfl
theorem kl_RL_157 : Cond.methodLink RL 157 yX10_shortest ∈ cm_all := cm_inT (cm_t6 _ (List.mem_of_getElem? (i := 225) (by decide +kernel))) rfl
theorem kv_X10_shortest : Cond.instanceMethod yX10_shortest ∈ cm_all := cm_inT (cm_t6 _ (List.mem_of_getElem? (i := 226) (by decide +kernel))) rfl
theorem kx_X10_shortest : Cond.selects yX10_shortest.cls yX10_shortest yX10_shortest ∈ cm_all := cm_inT (cm_t6 _ (List.mem_of_getElem? (i := 227) (by decide +kernel))) rfl
theorem kc_X10_shortest : Cond.code yX10_shortest cX10_shortest 6 (some .int) ∈ cm_all := cm_inT (cm_t6 _ (List.mem_of_getElem? (i := 228) (by decide +kernel))) rfl
theorem kl_RL_366 : Cond.methodLink RL 366 yL_capacityIf ∈ cm_all := cm_inT (cm_t6 _ (List.mem_of_getElem? (i := 229) (by decide +kernel))) rfl
theorem ks_L_capacityIf : Cond.static yL_capacityIf ∈ cm_all := cm_inT (cm_t6 _ (List.mem_of_getElem? (i := 230) (by decide +kernel))) rfl
theorem kw_L_capacityIf : Cond.codeWith yL_capacityIf cL_capacityIf 5 (some .int) [(0, 10, 13, 32)] ∈ cm_all := cm_inT (cm_t6 _ (List.mem_of_getElem? (i := 231) (by decide +kernel))) rfl
theorem kl_RL_160 : Cond.methodLink RL 160 yX10_capacityIf ∈ cm_all := cm_inT (cm_t6 _ (List.mem_of_getElem? (i := 232) (by decide +kernel))) rfl
theorem kv_X10_capacityIf : Cond.instanceMethod yX10_capacityIf ∈ cm_all := cm_inT (cm_t6 _ (List.mem_of_getElem? (i := 233) (by decide +kernel))) rfl
theorem kx_X10_capacityIf : Cond.selects yX10_capacityIf.cls yX10_capacityIf yX10_capacityIf ∈ cm_all := cm_inT (cm_t6 _ (List.mem_of_getElem? (i := 234) (by decide +kernel))) rfl
theorem kc_X10_capacityIf : Cond.code yX10_capacityIf cX10_capacityIf 4 (some .int) ∈ cm_all := cm_inT (cm_t6 _ (List.mem_of_getElem? (i := 235) (by decide +kernel))) rfl
theorem kl_RL_369 : Cond.methodLink RL 369 yL_safeCurrent ∈ cm_all := cm_inT (cm_t6 _ (List.mem_of_getElem? (i := 236) (by decide +kernel))) rfl
theorem ks_L_safeCurrent : Cond.static yL_safeCurrent ∈ cm_all := cm_inT (cm_t6 _ (List.mem_of_getElem? (i := 237) (by decide +kernel))) rfl
theorem kw_L_safeCurrent : Cond.codeWith yL_safeCurrent cL_safeCurrent 5 (some .int) [(0, 10, 13, 32), (0, 10, 17, 13)] ∈ cm_all := cm_inT (cm_t6 _ (List.mem_of_getElem? (i := 238) (by decide +kernel))) rfl
theorem kl_RL_163 : Cond.methodLink RL 163 yX10_safeCurrent ∈ cm_all := cm_inT (cm_t6 _ (List.mem_of_getElem? (i := 239) (by decide +kernel))) rfl
theorem kv_X10_safeCurrent : Cond.instanceMethod yX10_safeCurrent ∈ cm_all := cm_inT (cm_t7 _ (List.mem_of_getElem? (i := 0) (by decide +kernel))) rfl
theorem kx_X10_safeCurrent : Cond.selects yX10_safeCurrent.cls yX10_safeCurrent yX10_safeCurrent ∈ cm_all := cm_inT (cm_t7 _ (List.mem_of_getElem? (i := 1) (by decide +kernel))) rfl
theorem kc_X10_safeCurrent : Cond.code yX10_safeCurrent cX10_safeCurrent 6 (some .int) ∈ cm_all := cm_inT (cm_t7 _ (List.mem_of_getElem? (i := 2) (by decide +kernel))) rfl
theorem kl_RX10_340 : Cond.methodLink RX10 340 yX10_isSafe ∈ cm_all := cm_inT (cm_t7 _ (List.mem_of_getElem? (i := 3) (by decide +kernel))) rfl
theorem kv_X10_isSafe : Cond.instanceMethod yX10_isSafe ∈ cm_all := cm_inT (cm_t7 _ (List.mem_of_getElem? (i := 5) (by decide +kernel))) rfl
theorem kc_X10_isSafe : Cond.code yX10_isSafe cX10_isSafe 6 (some .boolean) ∈ cm_all := cm_inT (cm_t7 _ (List.mem_of_getElem? (i := 6) (by decide +kernel))) rfl
theorem kl_RX10_360 : Cond.methodLinkNest RX10 360 yX0_allowed "CellCycler" ∈ cm_all := cm_inT (cm_t7 _ (List.mem_of_getElem? (i := 7) (by decide +kernel))) rfl
theorem kl_RX10_364 : Cond.methodLinkNest RX10 364 yX0_passCurrent "CellCycler" ∈ cm_all := cm_inT (cm_t7 _ (List.mem_of_getElem? (i := 8) (by decide +kernel))) rfl
theorem kl_RX10_344 : Cond.methodLinkNest RX10 344 yX0_copyFrom "CellCycler" ∈ cm_all := cm_inT (cm_t7 _ (List.mem_of_getElem? (i := 9) (by decide +kernel))) rfl
theorem kl_RL_372 : Cond.methodLink RL 372 yL_saveSnapshot ∈ cm_all := cm_inT (cm_t7 _ (List.mem_of_getElem? (i := 10) (by decide +kernel))) rfl
theorem ks_L_saveSnapshot : Cond.static yL_saveSnapshot ∈ cm_all := cm_inT (cm_t7 _ (List.mem_of_getElem? (i := 11) (by decide +kernel))) rfl
theorem kw_L_saveSnapshot : Cond.codeWith yL_saveSnapshot cL_saveSnapshot 4 (some .int) [(0, 9, 12, 13)] ∈ cm_all := cm_inT (cm_t7 _ (List.mem_of_getElem? (i := 12) (by decide +kernel))) rfl
theorem kl_RL_166 : Cond.methodLink RL 166 yX10_saveSnapshot ∈ cm_all := cm_inT (cm_t7 _ (List.mem_of_getElem? (i := 13) (by decide +kernel))) rfl
theorem kv_X10_saveSnapshot : Cond.instanceMethod yX10_saveSnapshot ∈ cm_all := cm_inT (cm_t7 _ (List.mem_of_getElem? (i := 14) (by decide +kernel))) rfl
theorem kx_X10_saveSnapshot : Cond.selects yX10_saveSnapshot.cls yX10_saveSnapshot yX10_saveSnapshot ∈ cm_all := cm_inT (cm_t7 _ (List.mem_of_getElem? (i := 15) (by decide +kernel))) rfl
theorem kc_X10_saveSnapshot : Cond.code yX10_saveSnapshot cX10_saveSnapshot 3 (some .int) ∈ cm_all := cm_inT (cm_t7 _ (List.mem_of_getElem? (i := 16) (by decide +kernel))) rfl
theorem kl_RX10_347 : Cond.methodLink RX10 347 yX10_savedAt ∈ cm_all := cm_inT (cm_t7 _ (List.mem_of_getElem? (i := 17) (by decide +kernel))) rfl
theorem kv_X10_savedAt : Cond.instanceMethod yX10_savedAt ∈ cm_all := cm_inT (cm_t7 _ (List.mem_of_getElem? (i := 19) (by decide +kernel))) rfl
theorem kc_X10_savedAt : Cond.code yX10_savedAt cX10_savedAt 2 (some (.object "CellCycler$World")) ∈ cm_all := cm_inT (cm_t7 _ (List.mem_of_getElem? (i := 20) (by decide +kernel))) rfl
theorem kl_RX10_351 : Cond.methodLink RX10 351 yX10_keepAt ∈ cm_all := cm_inT (cm_t7 _ (List.mem_of_getElem? (i := 21) (by decide +kernel))) rfl
theorem kv_X10_keepAt : Cond.instanceMethod yX10_keepAt ∈ cm_all := cm_inT (cm_t7 _ (List.mem_of_getElem? (i := 23) (by decide +kernel))) rfl
theorem kc_X10_keepAt : Cond.code yX10_keepAt cX10_keepAt 3 none ∈ cm_all := cm_inT (cm_t7 _ (List.mem_of_getElem? (i := 24) (by decide +kernel))) rfl
theorem kl_RL_375 : Cond.methodLink RL 375 yL_restoreSnapshot ∈ cm_all := cm_inT (cm_t7 _ (List.mem_of_getElem? (i := 25) (by decide +kernel))) rfl
theorem ks_L_restoreSnapshot : Cond.static yL_restoreSnapshot ∈ cm_all := cm_inT (cm_t7 _ (List.mem_of_getElem? (i := 26) (by decide +kernel))) rfl
theorem kw_L_restoreSnapshot : Cond.codeWith yL_restoreSnapshot cL_restoreSnapshot 4 (some .int) [(0, 9, 12, 13)] ∈ cm_all := cm_inT (cm_t7 _ (List.mem_of_getElem? (i := 27) (by decide +kernel))) rfl
theorem kl_RL_169 : Cond.methodLink RL 169 yX10_restoreSnapshot ∈ cm_all := cm_inT (cm_t7 _ (List.mem_of_getElem? (i := 28) (by decide +kernel))) rfl
theorem kv_X10_restoreSnapshot : Cond.instanceMethod yX10_restoreSnapshot ∈ cm_all := cm_inT (cm_t7 _ (List.mem_of_getElem? (i := 29) (by decide +kernel))) rfl
theorem kx_X10_restoreSnapshot : Cond.selects yX10_restoreSnapshot.cls yX10_restoreSnapshot yX10_restoreSnapshot ∈ cm_all := cm_inT (cm_t7 _ (List.mem_of_getElem? (i := 30) (by decide +kernel))) rfl
theorem kc_X10_restoreSnapshot : Cond.code yX10_restoreSnapshot cX10_restoreSnapshot 3 (some .int) ∈ cm_all := cm_inT (cm_t7 _ (List.mem_of_getElem? (i := 31) (by decide +kernel))) rfl
theorem kl_RL_173 : Cond.classLink RL 173 RX11 ∈ cm_all := cm_inT (cm_t7 _ (List.mem_of_getElem? (i := 32) (by decide +kernel))) rfl
theorem kn_RX11 : Cond.instantiable RX11 19 ∈ cm_all := cm_inT (cm_t7 _ (List.mem_of_getElem? (i := 33) (by decide +kernel))) rfl
theorem kl_RL_175 : Cond.methodLink RL 175 yX11_init ∈ cm_all := cm_inT (cm_t7 _ (List.mem_of_getElem? (i := 34) (by decide +kernel))) rfl
theorem kv_X11_init : Cond.instanceMethod yX11_init ∈ cm_all := cm_inT (cm_t7 _ (List.mem_of_getElem? (i := 35) (by decide +kernel))) rfl
theorem kc_X11_init : Cond.code yX11_init cX11_init 1 none ∈ cm_all := cm_inT (cm_t7 _ (List.mem_of_getElem? (i := 36) (by decide +kernel))) rfl
theorem kl_RX11_3 : Cond.methodLink RX11 3 ⟨"java/lang/Object", "<init>", "()V"⟩ ∈ cm_all := cm_inT (cm_t7 _ (List.mem_of_getElem? (i := 37) (by decide +kernel))) rfl
theorem kl_RX11_45 : Cond.methodLink RX11 45 yX11_starts ∈ cm_all := cm_inT (cm_t7 _ (List.mem_of_getElem? (i := 38) (by decide +kernel))) rfl
theorem ks_X11_starts : Cond.static yX11_starts ∈ cm_all := cm_inT (cm_t7 _ (List.mem_of_getElem? (i := 39) (by decide +kernel))) rfl
theorem kc_X11_starts : Cond.code yX11_starts cX11_starts 2 none ∈ cm_all := cm_inT (cm_t7 _ (List.mem_of_getElem? (i := 40) (by decide +kernel))) rfl
theorem kl_RX11_53 : Cond.constant RX11 53 (100000) ∈ cm_all := cm_inT (cm_t7 _ (List.mem_of_getElem? (i := 41) (by decide +kernel))) rfl
theorem kl_RX11_9 : Cond.fieldLink RX11 9 "CellCyclerModel" "w" "[I" ∈ cm_all := cm_inT (cm_t7 _ (List.mem_of_getElem? (i := 42) (by decide +kernel))) rfl
theorem kl_RX11_13 : Cond.fieldLink RX11 13 "CellCyclerModel" "aside" "[I" ∈ cm_all := cm_inT (cm_t7 _ (List.mem_of_getElem? (i := 43) (by decide +kernel))) rfl
theorem kl_RX11_16 : Cond.fieldLink RX11 16 "CellCyclerModel" "fresh" "[I" ∈ cm_all := cm_inT (cm_t7 _ (List.mem_of_getElem? (i := 44) (by decide +kernel))) rfl
theorem kl_RX11_19 : Cond.fieldLink RX11 19 "CellCyclerModel" "slot0" "[I" ∈ cm_all := cm_inT (cm_t7 _ (List.mem_of_getElem? (i := 45) (by decide +kernel))) rfl
theorem kl_RX11_22 : Cond.fieldLink RX11 22 "CellCyclerModel" "slot1" "[I" ∈ cm_all := cm_inT (cm_t7 _ (List.mem_of_getElem? (i := 46) (by decide +kernel))) rfl
theorem kl_RX11_25 : Cond.fieldLink RX11 25 "CellCyclerModel" "sums" "[J" ∈ cm_all := cm_inT (cm_t7 _ (List.mem_of_getElem? (i := 47) (by decide +kernel))) rfl
theorem kl_RX11_29 : Cond.fieldLink RX11 29 "CellCyclerModel" "sumsAside" "[J" ∈ cm_all := cm_inT (cm_t7 _ (List.mem_of_getElem? (i := 48) (by decide +kernel))) rfl
theorem kl_RX11_32 : Cond.fieldLink RX11 32 "CellCyclerModel" "sums0" "[J" ∈ cm_all := cm_inT (cm_t7 _ (List.mem_of_getElem? (i := 49) (by decide +kernel))) rfl
theorem kl_RX11_35 : Cond.fieldLink RX11 35 "CellCyclerModel" "sums1" "[J" ∈ cm_all := cm_inT (cm_t7 _ (List.mem_of_getElem? (i := 50) (by decide +kernel))) rfl
theorem kl_RX11_38 : Cond.fieldLink RX11 38 "CellCyclerModel" "isSaved" "[Z" ∈ cm_all := cm_inT (cm_t7 _ (List.mem_of_getElem? (i := 51) (by decide +kernel))) rfl
theorem kl_RX11_49 : Cond.fieldLink RX11 49 "CellCyclerModel" "thrown" "I" ∈ cm_all := cm_inT (cm_t7 _ (List.mem_of_getElem? (i := 52) (by decide +kernel))) rfl
theorem kl_RX11_42 : Cond.fieldLink RX11 42 "CellCyclerModel" "buffer" "[I" ∈ cm_all := cm_inT (cm_t7 _ (List.mem_of_getElem? (i := 53) (by decide +kernel))) rfl
theorem kl_RX11_56 : Cond.fieldLink RX11 56 "CellCyclerModel" "length" "I" ∈ cm_all := cm_inT (cm_t7 _ (List.mem_of_getElem? (i := 54) (by decide +kernel))) rfl
theorem kl_RX11_78 : Cond.fieldLink RX11 78 "CellCyclerModel" "point" "I" ∈ cm_all := cm_inT (cm_t7 _ (List.mem_of_getElem? (i := 55) (by decide +kernel))) rfl
theorem kl_RX11_81 : Cond.fieldLink RX11 81 "CellCyclerModel" "begin" "I" ∈ cm_all := cm_inT (cm_t7 _ (List.mem_of_getElem? (i := 56) (by decide +kernel))) rfl
theorem kl_RX11_87 : Cond.fieldLink RX11 87 "CellCyclerModel" "wrong" "I" ∈ cm_all := cm_inT (cm_t7 _ (List.mem_of_getElem? (i := 57) (by decide +kernel))) rfl
theorem kl_RX11_84 : Cond.fieldLink RX11 84 "CellCyclerModel" "wrongKind" "I" ∈ cm_all := cm_inT (cm_t7 _ (List.mem_of_getElem? (i := 58) (by decide +kernel))) rfl
theorem kl_RX11_59 : Cond.fieldLink RX11 59 "CellCyclerModel" "loadFault" "I" ∈ cm_all := cm_inT (cm_t7 _ (List.mem_of_getElem? (i := 59) (by decide +kernel))) rfl
theorem kl_RX11_300 : Cond.fieldLink RX11 300 "CellCyclerModel" "ended" "I" ∈ cm_all := cm_inT (cm_t7 _ (List.mem_of_getElem? (i := 60) (by decide +kernel))) rfl
theorem ka_boolean : Cond.arrayClass .boolean ∈ cm_all := cm_inT (cm_t7 _ (List.mem_of_getElem? (i := 100) (by decide +kernel))) rfl
theorem kl_RL_202 : Cond.methodLink RL 202 yX11_thrown ∈ cm_all := cm_inT (cm_t7 _ (List.mem_of_getElem? (i := 101) (by decide +kernel))) rfl
theorem kv_X11_thrown : Cond.instanceMethod yX11_thrown ∈ cm_all := cm_inT (cm_t7 _ (List.mem_of_getElem? (i := 102) (by decide +kernel))) rfl
theorem kx_X11_thrown : Cond.selects yX11_thrown.cls yX11_thrown yX11_thrown ∈ cm_all := cm_inT (cm_t7 _ (List.mem_of_getElem? (i := 103) (by decide +kernel))) rfl
theorem kc_X11_thrown : Cond.code yX11_thrown cX11_thrown 1 (some .int) ∈ cm_all := cm_inT (cm_t7 _ (List.mem_of_getElem? (i := 104) (by decide +kernel))) rfl
theorem kl_RL_182 : Cond.methodLink RL 182 yX11_append ∈ cm_all := cm_inT (cm_t7 _ (List.mem_of_getElem? (i := 105) (by decide +kernel))) rfl
theorem kv_X11_append : Cond.instanceMethod yX11_append ∈ cm_all := cm_inT (cm_t7 _ (List.mem_of_getElem? (i := 106) (by decide +kernel))) rfl
theorem kx_X11_append : Cond.selects yX11_append.cls yX11_append yX11_append ∈ cm_all := cm_inT (cm_t7 _ (List.mem_of_getElem? (i := 107) (by decide +kernel))) rfl
theorem kc_X11_append : Cond.code yX11_append cX11_append 6 (some .int) ∈ cm_all := cm_inT (cm_t7 _ (List.mem_of_getElem? (i := 108) (by decide +kernel))) rfl
theorem kl_RX11_54 : Cond.constantLong RX11 54 (255) ∈ cm_all := cm_inT (cm_t7 _ (List.mem_of_getElem? (i := 109) (by decide +kernel))) rfl
theorem kl_RL_191 : Cond.methodLink RL 191 yX11_loadError ∈ cm_all := cm_inT (cm_t7 _ (List.mem_of_getElem? (i := 110) (by decide +kernel))) rfl
theorem kv_X11_loadError : Cond.instanceMethod yX11_loadError ∈ cm_all := cm_inT (cm_t7 _ (List.mem_of_getElem? (i := 111) (by decide +kernel))) rfl
theorem kx_X11_loadError : Cond.selects yX11_loadError.cls yX11_loadError yX11_loadError ∈ cm_all := cm_inT (cm_t7 _ (List.mem_of_getElem? (i := 112) (by decide +kernel))) rfl
theorem kc_X11_loadError : Cond.code yX11_loadError cX11_loadError 1 (some .int) ∈ cm_all := cm_inT (cm_t7 _ (List.mem_of_getElem? (i := 113) (by decide +kernel))) rfl
theorem kl_RL_187 : Cond.methodLink RL 187 yX11_load ∈ cm_all := cm_inT (cm_t7 _ (List.mem_of_getElem? (i := 114) (by decide +kernel))) rfl
theorem kv_X11_load : Cond.instanceMethod yX11_load ∈ cm_all := cm_inT (cm_t7 _ (List.mem_of_getElem? (i := 115) (by decide +kernel))) rfl
theorem kx_X11_load : Cond.selects yX11_load.cls yX11_load yX11_load ∈ cm_all := cm_inT (cm_t7 _ (List.mem_of_getElem? (i := 116) (by decide +kernel))) rfl
theorem kc_X11_load : Cond.code yX11_load cX11_load 3 (some .int) ∈ cm_all := cm_inT (cm_t7 _ (List.mem_of_getElem? (i := 117) (by decide +kernel))) rfl
theorem kl_RX11_198 : Cond.methodLink RX11 198 yX11_readsAll ∈ cm_all := cm_inT (cm_t7 _ (List.mem_of_getElem? (i := 118) (by decide +kernel))) rfl
theorem kv_X11_readsAll : Cond.instanceMethod yX11_readsAll ∈ cm_all := cm_inT (cm_t7 _ (List.mem_of_getElem? (i := 120) (by decide +kernel))) rfl
theorem kc_X11_readsAll : Cond.code yX11_readsAll cX11_readsAll 1 (some .boolean) ∈ cm_all := cm_inT (cm_t7 _ (List.mem_of_getElem? (i := 121) (by decide +kernel))) rfl
theorem kl_RX11_195 : Cond.methodLink RX11 195 yX11_readStatement ∈ cm_all := cm_inT (cm_t7 _ (List.mem_of_getElem? (i := 122) (by decide +kernel))) rfl
theorem kv_X11_readStatement : Cond.instanceMethod yX11_readStatement ∈ cm_all := cm_inT (cm_t7 _ (List.mem_of_getElem? (i := 124) (by decide +kernel))) rfl
theorem kc_X11_readStatement : Cond.code yX11_readStatement cX11_readStatement 1 (some .boolean) ∈ cm_all := cm_inT (cm_t7 _ (List.mem_of_getElem? (i := 125) (by decide +kernel))) rfl
theorem kl_RX11_106 : Cond.methodLink RX11 106 yX11_see ∈ cm_all := cm_inT (cm_t7 _ (List.mem_of_getElem? (i := 126) (by decide +kernel))) rfl
theorem kv_X11_see : Cond.instanceMethod yX11_see ∈ cm_all := cm_inT (cm_t7 _ (List.mem_of_getElem? (i := 128) (by decide +kernel))) rfl
theorem kc_X11_see : Cond.code yX11_see cX11_see 1 (some .int) ∈ cm_all := cm_inT (cm_t7 _ (List.mem_of_getElem? (i := 129) (by decide +kernel))) rfl
theorem kl_RX11_62 : Cond.methodLink RX11 62 yX11_byteAt ∈ cm_all := cm_inT (cm_t7 _ (List.mem_of_getElem? (i := 130) (by decide +kernel))) rfl
theorem kv_X11_byteAt : Cond.instanceMethod yX11_byteAt ∈ cm_all := cm_inT (cm_t7 _ (List.mem_of_getElem? (i := 132) (by decide +kernel))) rfl
theorem kc_X11_byteAt : Cond.code yX11_byteAt cX11_byteAt 2 (some .int) ∈ cm_all := cm_inT (cm_t7 _ (List.mem_of_getElem? (i := 133) (by decide +kernel))) rfl
theorem kl_RX11_146 : Cond.methodLink RX11 146 yX11_isWord ∈ cm_all := cm_inT (cm_t7 _ (List.mem_of_getElem? (i := 135) (by decide +kernel))) rfl
theorem kv_X11_isWord : Cond.instanceMethod yX11_isWord ∈ cm_all := cm_inT (cm_t7 _ (List.mem_of_getElem? (i := 137) (by decide +kernel))) rfl
theorem kc_X11_isWord : Cond.code yX11_isWord cX11_isWord 5 (some .boolean) ∈ cm_all := cm_inT (cm_t7 _ (List.mem_of_getElem? (i := 138) (by decide +kernel))) rfl
theorem kl_RX11_94 : Cond.methodLink RX11 94 yX11_wordEnd ∈ cm_all := cm_inT (cm_t7 _ (List.mem_of_getElem? (i := 139) (by decide +kernel))) rfl
theorem kv_X11_wordEnd : Cond.instanceMethod yX11_wordEnd ∈ cm_all := cm_inT (cm_t7 _ (List.mem_of_getElem? (i := 141) (by decide +kernel))) rfl
theorem kc_X11_wordEnd : Cond.code yX11_wordEnd cX11_wordEnd 2 (some .int) ∈ cm_all := cm_inT (cm_t7 _ (List.mem_of_getElem? (i := 142) (by decide +kernel))) rfl
theorem kl_RX11_90 : Cond.methodLink RX11 90 yX11_isLetter ∈ cm_all := cm_inT (cm_t7 _ (List.mem_of_getElem? (i := 143) (by decide +kernel))) rfl
theorem kv_X11_isLetter : Cond.instanceMethod yX11_isLetter ∈ cm_all := cm_inT (cm_t7 _ (List.mem_of_getElem? (i := 145) (by decide +kernel))) rfl
theorem kc_X11_isLetter : Cond.code yX11_isLetter cX11_isLetter 2 (some .boolean) ∈ cm_all := cm_inT (cm_t7 _ (List.mem_of_getElem? (i := 146) (by decide +kernel))) rfl
theorem kl_RX11_66 : Cond.constantLong RX11 66 (97) ∈ cm_all := cm_inT (cm_t7 _ (List.mem_of_getElem? (i := 147) (by decide +kernel))) rfl
theorem kl_RX11_68 : Cond.constantLong RX11 68 (122) ∈ cm_all := cm_inT (cm_t7 _ (List.mem_of_getElem? (i := 148) (by decide +kernel))) rfl
theorem kl_RX11_70 : Cond.methodLink RX11 70 yX11_in ∈ cm_all := cm_inT (cm_t7 _ (List.mem_of_getElem? (i := 149) (by decide +kernel))) rfl
theorem ks_X11_in : Cond.static yX11_in ∈ cm_all := cm_inT (cm_t7 _ (List.mem_of_getElem? (i := 150) (by decide +kernel))) rfl
theorem kc_X11_in : Cond.code yX11_in cX11_in 6 (some .boolean) ∈ cm_all := cm_inT (cm_t7 _ (List.mem_of_getElem? (i := 151) (by decide +kernel))) rfl
theorem kl_RX11_98 : Cond.methodLink RX11 98 yJ0_length_8abf5 ∈ cm_all := cm_inT (cm_t7 _ (List.mem_of_getElem? (i := 152) (by decide +kernel))) rfl
theorem kl_RX11_102 : Cond.methodLink RX11 102 yJ0_charAt_5068e ∈ cm_all := cm_inT (cm_t7 _ (List.mem_of_getElem? (i := 153) (by decide +kernel))) rfl
theorem kl_RX11_164 : Cond.methodLink RX11 164 yX11_readCurve ∈ cm_all := cm_inT (cm_t7 _ (List.mem_of_getElem? (i := 154) (by decide +kernel))) rfl
theorem kv_X11_readCurve : Cond.instanceMethod yX11_readCurve ∈ cm_all := cm_inT (cm_t7 _ (List.mem_of_getElem? (i := 156) (by decide +kernel))) rfl
theorem kc_X11_readCurve : Cond.code yX11_readCurve cX11_readCurve 4 (some .boolean) ∈ cm_all := cm_inT (cm_t7 _ (List.mem_of_getElem? (i := 157) (by decide +kernel))) rfl
theorem kl_RX11_112 : Cond.methodLink RX11 112 yX11_fails ∈ cm_all := cm_inT (cm_t7 _ (List.mem_of_getElem? (i := 158) (by decide +kernel))) rfl
theorem kv_X11_fails : Cond.instanceMethod yX11_fails ∈ cm_all := cm_inT (cm_t7 _ (List.mem_of_getElem? (i := 160) (by decide +kernel))) rfl
theorem kc_X11_fails : Cond.code yX11_fails cX11_fails 2 (some .boolean) ∈ cm_all := cm_inT (cm_t7 _ (List.mem_of_getElem? (i := 161) (by decide +kernel))) rfl
theorem kl_RX11_133 : Cond.methodLink RX11 133 yX11_passes ∈ cm_all := cm_inT (cm_t7 _ (List.mem_of_getElem? (i := 162) (by decide +kernel))) rfl
theorem kv_X11_passes : Cond.instanceMethod yX11_passes ∈ cm_all := cm_inT (cm_t7 _ (List.mem_of_getElem? (i := 164) (by decide +kernel))) rfl
theorem kc_X11_passes : Cond.code yX11_passes cX11_passes 1 (some .boolean) ∈ cm_all := cm_inT (cm_t7 _ (List.mem_of_getElem? (i := 165) (by decide +kernel))) rfl
theorem kl_RX11_137 : Cond.methodLink RX11 137 yX11_readName ∈ cm_all := cm_inT (cm_t7 _ (List.mem_of_getElem? (i := 166) (by decide +kernel))) rfl
theorem kv_X11_readName : Cond.instanceMethod yX11_readName ∈ cm_all := cm_inT (cm_t7 _ (List.mem_of_getElem? (i := 168) (by decide +kernel))) rfl
theorem kc_X11_readName : Cond.code yX11_readName cX11_readName 4 (some .boolean) ∈ cm_all := cm_inT (cm_t7 _ (List.mem_of_getElem? (i := 169) (by decide +kernel))) rfl
theorem kl_RX11_129 : Cond.methodLink RX11 129 yX11_named ∈ cm_all := cm_inT (cm_t7 _ (List.mem_of_getElem? (i := 170) (by decide +kernel))) rfl
theorem kv_X11_named : Cond.instanceMethod yX11_named ∈ cm_all := cm_inT (cm_t7 _ (List.mem_of_getElem? (i := 172) (by decide +kernel))) rfl
theorem kc_X11_named : Cond.code yX11_named cX11_named 6 (some .int) ∈ cm_all := cm_inT (cm_t7 _ (List.mem_of_getElem? (i := 173) (by decide +kernel))) rfl
theorem kl_RX11_125 : Cond.methodLink RX11 125 yX11_isNamed ∈ cm_all := cm_inT (cm_t7 _ (List.mem_of_getElem? (i := 174) (by decide +kernel))) rfl
theorem kv_X11_isNamed : Cond.instanceMethod yX11_isNamed ∈ cm_all := cm_inT (cm_t7 _ (List.mem_of_getElem? (i := 176) (by decide +kernel))) rfl
theorem kc_X11_isNamed : Cond.code yX11_isNamed cX11_isNamed 8 (some .boolean) ∈ cm_all := cm_inT (cm_t7 _ (List.mem_of_getElem? (i := 177) (by decide +kernel))) rfl
theorem kl_RX11_74 : Cond.constantLong RX11 74 (48) ∈ cm_all := cm_inT (cm_t7 _ (List.mem_of_getElem? (i := 178) (by decide +kernel))) rfl
theorem kl_RX11_76 : Cond.constantLong RX11 76 (57) ∈ cm_all := cm_inT (cm_t7 _ (List.mem_of_getElem? (i := 179) (by decide +kernel))) rfl
theorem kl_RX11_140 : Cond.methodLink RX11 140 yX11_reads ∈ cm_all := cm_inT (cm_t7 _ (List.mem_of_getElem? (i := 180) (by decide +kernel))) rfl
theorem kv_X11_reads : Cond.instanceMethod yX11_reads ∈ cm_all := cm_inT (cm_t7 _ (List.mem_of_getElem? (i := 182) (by decide +kernel))) rfl
theorem kc_X11_reads : Cond.code yX11_reads cX11_reads 6 (some .boolean) ∈ cm_all := cm_inT (cm_t7 _ (List.mem_of_getElem? (i := 183) (by decide +kernel))) rfl
theorem kl_RX11_109 : Cond.methodLink RX11 109 yX11_isDigit ∈ cm_all := cm_inT (cm_t7 _ (List.mem_of_getElem? (i := 184) (by decide +kernel))) rfl
theorem kv_X11_isDigit : Cond.instanceMethod yX11_isDigit ∈ cm_all := cm_inT (cm_t7 _ (List.mem_of_getElem? (i := 186) (by decide +kernel))) rfl
theorem kc_X11_isDigit : Cond.code yX11_isDigit cX11_isDigit 2 (some .boolean) ∈ cm_all := cm_inT (cm_t7 _ (List.mem_of_getElem? (i := 187) (by decide +kernel))) rfl
theorem kl_RX11_115 : Cond.constantLong RX11 115 (100000000) ∈ cm_all := cm_inT (cm_t7 _ (List.mem_of_getElem? (i := 188) (by decide +kernel))) rfl
theorem kl_RX11_117 : Cond.constantLong RX11 117 (10) ∈ cm_all := cm_inT (cm_t7 _ (List.mem_of_getElem? (i := 189) (by decide +kernel))) rfl
theorem kl_RX11_119 : Cond.methodLink RX11 119 yJ9_min_f86c9 ∈ cm_all := cm_inT (cm_t7 _ (List.mem_of_getElem? (i := 190) (by decide +kernel))) rfl
theorem kl_RX11_169 : Cond.methodLink RX11 169 yX11_readCell ∈ cm_all := cm_inT (cm_t7 _ (List.mem_of_getElem? (i := 192) (by decide +kernel))) rfl
theorem kv_X11_readCell : Cond.instanceMethod yX11_readCell ∈ cm_all := cm_inT (cm_t7 _ (List.mem_of_getElem? (i := 194) (by decide +kernel))) rfl
theorem kc_X11_readCell : Cond.code yX11_readCell cX11_readCell 3 (some .boolean) ∈ cm_all := cm_inT (cm_t7 _ (List.mem_of_getElem? (i := 195) (by decide +kernel))) rfl
theorem kl_RX11_174 : Cond.methodLink RX11 174 yX11_readProgram ∈ cm_all := cm_inT (cm_t7 _ (List.mem_of_getElem? (i := 197) (by decide +kernel))) rfl
theorem kv_X11_readProgram : Cond.instanceMethod yX11_readProgram ∈ cm_all := cm_inT (cm_t7 _ (List.mem_of_getElem? (i := 199) (by decide +kernel))) rfl
theorem kc_X11_readProgram : Cond.code yX11_readProgram cX11_readProgram 3 (some .boolean) ∈ cm_all := cm_inT (cm_t7 _ (List.mem_of_getElem? (i := 200) (by decide +kernel))) rfl
theorem kl_RX11_158 : Cond.methodLink RX11 158 yX11_readStep ∈ cm_all := cm_inT (cm_t7 _ (List.mem_of_getElem? (i := 201) (by decide +kernel))) rfl
theorem kv_X11_readStep : Cond.instanceMethod yX11_readStep ∈ cm_all := cm_inT (cm_t7 _ (List.mem_of_getElem? (i := 203) (by decide +kernel))) rfl
theorem kc_X11_readStep : Cond.code yX11_readStep cX11_readStep 5 (some .boolean) ∈ cm_all := cm_inT (cm_t7 _ (List.mem_of_getElem? (i := 204) (by decide +kernel))) rfl
theorem kl_RX11_181 : Cond.constant RX11 181 (1000000) ∈ cm_all := cm_inT (cm_t7 _ (List.mem_of_getElem? (i := 212) (by decide +kernel))) rfl
theorem kl_RX11_184 : Cond.methodLink RX11 184 yJ9_min_7cf53 ∈ cm_all := cm_inT (cm_t7 _ (List.mem_of_getElem? (i := 214) (by decide +kernel))) rfl
theorem kl_RX11_201 : Cond.methodLink RX11 201 yX11_begins ∈ cm_all := cm_inT (cm_t7 _ (List.mem_of_getElem? (i := 219) (by decide +kernel))) rfl
theorem ks_X11_begins : Cond.static yX11_begins ∈ cm_all := cm_inT (cm_t7 _ (List.mem_of_getElem? (i := 220) (by decide +kernel))) rfl
theorem kc_X11_begins : Cond.code yX11_begins cX11_begins 4 none ∈ cm_all := cm_inT (cm_t7 _ (List.mem_of_getElem? (i := 221) (by decide +kernel))) rfl
theorem kl_RX11_205 : Cond.methodLink RX11 205 yX11_copies ∈ cm_all := cm_inT (cm_t7 _ (List.mem_of_getElem? (i := 222) (by decide +kernel))) rfl
theorem ks_X11_copies : Cond.static yX11_copies ∈ cm_all := cm_inT (cm_t7 _ (List.mem_of_getElem? (i := 223) (by decide +kernel))) rfl
theorem kc_X11_copies : Cond.code yX11_copies cX11_copies 3 none ∈ cm_all := cm_inT (cm_t7 _ (List.mem_of_getElem? (i := 224) (by decide +kernel))) rfl
theorem kl_RL_195 : Cond.methodLink RL 195 yX11_curveNamed ∈ cm_all := cm_inT (cm_t7 _ (List.mem_of_getElem? (i := 225) (by decide +kernel))) rfl
theorem kv_X11_curveNamed : Cond.instanceMethod yX11_curveNamed ∈ cm_all := cm_inT (cm_t7 _ (List.mem_of_getElem? (i := 226) (by decide +kernel))) rfl
theorem kx_X11_curveNamed : Cond.selects yX11_curveNamed.cls yX11_curveNamed yX11_curveNamed ∈ cm_all := cm_inT (cm_t7 _ (List.mem_of_getElem? (i := 227) (by decide +kernel))) rfl
theorem kc_X11_curveNamed : Cond.code yX11_curveNamed cX11_curveNamed 2 (some .int) ∈ cm_all := cm_inT (cm_t7 _ (List.mem_of_getElem? (i := 228) (by decide +kernel))) rfl
theorem kl_RL_201 : Cond.methodLink RL 201 yX11_count ∈ cm_all := cm_inT (cm_t7 _ (List.mem_of_getElem? (i := 229) (by decide +kernel))) rfl
theorem kv_X11_count : Cond.instanceMethod yX11_count ∈ cm_all := cm_inT (cm_t7 _ (List.mem_of_getElem? (i := 230) (by decide +kernel))) rfl
theorem kx_X11_count : Cond.selects yX11_count.cls yX11_count yX11_count ∈ cm_all := cm_inT (cm_t7 _ (List.mem_of_getElem? (i := 231) (by decide +kernel))) rfl
theorem kc_X11_count : Cond.code yX11_count cX11_count 2 (some .int) ∈ cm_all := cm_inT (cm_t7 _ (List.mem_of_getElem? (i := 232) (by decide +kernel))) rfl
theorem kl_RX11_326 : Cond.constantLong RX11 326 (2) ∈ cm_all := cm_inT (cm_t7 _ (List.mem_of_getElem? (i := 233) (by decide +kernel))) rfl
theorem kl_RX11_328 : Cond.methodLink RX11 328 yX11_throwsIf ∈ cm_all := cm_inT (cm_t7 _ (List.mem_of_getElem? (i := 234) (by decide +kernel))) rfl
theorem kv_X11_throwsIf : Cond.instanceMethod yX11_throwsIf ∈ cm_all := cm_inT (cm_t7 _ (List.mem_of_getElem? (i := 236) (by decide +kernel))) rfl
theorem kc_X11_throwsIf : Cond.code yX11_throwsIf cX11_throwsIf 3 (some .boolean) ∈ cm_all := cm_inT (cm_t7 _ (List.mem_of_getElem? (i := 237) (by decide +kernel))) rfl
theorem kl_RL_207 : Cond.methodLink RL 207 yX11_setting ∈ cm_all := cm_inT (cm_t7 _ (List.mem_of_getElem? (i := 238) (by decide +kernel))) rfl
theorem kv_X11_setting : Cond.instanceMethod yX11_setting ∈ cm_all := cm_inT (cm_t7 _ (List.mem_of_getElem? (i := 239) (by decide +kernel))) rfl
theorem kx_X11_setting : Cond.selects yX11_setting.cls yX11_setting yX11_setting ∈ cm_all := cm_inT (cm_t8 _ (List.mem_of_getElem? (i := 0) (by decide +kernel))) rfl
theorem kc_X11_setting : Cond.code yX11_setting cX11_setting 2 (some .int) ∈ cm_all := cm_inT (cm_t8 _ (List.mem_of_getElem? (i := 1) (by decide +kernel))) rfl
theorem kl_RX11_332 : Cond.constantLong RX11 332 (7) ∈ cm_all := cm_inT (cm_t8 _ (List.mem_of_getElem? (i := 2) (by decide +kernel))) rfl
theorem kl_RL_210 : Cond.methodLink RL 210 yX11_setAmbient ∈ cm_all := cm_inT (cm_t8 _ (List.mem_of_getElem? (i := 3) (by decide +kernel))) rfl
theorem kv_X11_setAmbient : Cond.instanceMethod yX11_setAmbient ∈ cm_all := cm_inT (cm_t8 _ (List.mem_of_getElem? (i := 4) (by decide +kernel))) rfl
theorem kx_X11_setAmbient : Cond.selects yX11_setAmbient.cls yX11_setAmbient yX11_setAmbient ∈ cm_all := cm_inT (cm_t8 _ (List.mem_of_getElem? (i := 5) (by decide +kernel))) rfl
theorem kc_X11_setAmbient : Cond.code yX11_setAmbient cX11_setAmbient 3 (some .int) ∈ cm_all := cm_inT (cm_t8 _ (List.mem_of_getElem? (i := 6) (by decide +kernel))) rfl
theorem kl_RX11_334 : Cond.constantLong RX11 334 (500) ∈ cm_all := cm_inT (cm_t8 _ (List.mem_of_getElem? (i := 7) (by decide +kernel))) rfl
theorem kl_RL_217 : Cond.methodLink RL 217 yX11_setDerate ∈ cm_all := cm_inT (cm_t8 _ (List.mem_of_getElem? (i := 8) (by decide +kernel))) rfl
theorem kv_X11_setDerate : Cond.instanceMethod yX11_setDerate ∈ cm_all := cm_inT (cm_t8 _ (List.mem_of_getElem? (i := 9) (by decide +kernel))) rfl
theorem kx_X11_setDerate : Cond.selects yX11_setDerate.cls yX11_setDerate yX11_setDerate ∈ cm_all := cm_inT (cm_t8 _ (List.mem_of_getElem? (i := 10) (by decide +kernel))) rfl
theorem kc_X11_setDerate : Cond.code yX11_setDerate cX11_setDerate 3 (some .int) ∈ cm_all := cm_inT (cm_t8 _ (List.mem_of_getElem? (i := 11) (by decide +kernel))) rfl
theorem kl_RX11_336 : Cond.constantLong RX11 336 (200) ∈ cm_all := cm_inT (cm_t8 _ (List.mem_of_getElem? (i := 12) (by decide +kernel))) rfl
theorem kl_RL_214 : Cond.methodLink RL 214 yX11_setLimits ∈ cm_all := cm_inT (cm_t8 _ (List.mem_of_getElem? (i := 13) (by decide +kernel))) rfl
theorem kv_X11_setLimits : Cond.instanceMethod yX11_setLimits ∈ cm_all := cm_inT (cm_t8 _ (List.mem_of_getElem? (i := 14) (by decide +kernel))) rfl
theorem kx_X11_setLimits : Cond.selects yX11_setLimits.cls yX11_setLimits yX11_setLimits ∈ cm_all := cm_inT (cm_t8 _ (List.mem_of_getElem? (i := 15) (by decide +kernel))) rfl
theorem kc_X11_setLimits : Cond.code yX11_setLimits cX11_setLimits 5 (some .int) ∈ cm_all := cm_inT (cm_t8 _ (List.mem_of_getElem? (i := 16) (by decide +kernel))) rfl
theorem kl_RX11_338 : Cond.constantLong RX11 338 (5000) ∈ cm_all := cm_inT (cm_t8 _ (List.mem_of_getElem? (i := 17) (by decide +kernel))) rfl
theorem kl_RX11_209 : Cond.methodLink RX11 209 yX11_of ∈ cm_all := cm_inT (cm_t8 _ (List.mem_of_getElem? (i := 18) (by decide +kernel))) rfl
theorem kv_X11_of : Cond.instanceMethod yX11_of ∈ cm_all := cm_inT (cm_t8 _ (List.mem_of_getElem? (i := 20) (by decide +kernel))) rfl
theorem kc_X11_of : Cond.code yX11_of cX11_of 3 (some .int) ∈ cm_all := cm_inT (cm_t8 _ (List.mem_of_getElem? (i := 21) (by decide +kernel))) rfl
theorem kl_RL_221 : Cond.methodLink RL 221 yX11_stepValue ∈ cm_all := cm_inT (cm_t8 _ (List.mem_of_getElem? (i := 22) (by decide +kernel))) rfl
theorem kv_X11_stepValue : Cond.instanceMethod yX11_stepValue ∈ cm_all := cm_inT (cm_t8 _ (List.mem_of_getElem? (i := 23) (by decide +kernel))) rfl
theorem kx_X11_stepValue : Cond.selects yX11_stepValue.cls yX11_stepValue yX11_stepValue ∈ cm_all := cm_inT (cm_t8 _ (List.mem_of_getElem? (i := 24) (by decide +kernel))) rfl
theorem kc_X11_stepValue : Cond.code yX11_stepValue cX11_stepValue 4 (some .int) ∈ cm_all := cm_inT (cm_t8 _ (List.mem_of_getElem? (i := 25) (by decide +kernel))) rfl
theorem kl_RX11_276 : Cond.methodLink RX11 276 yX11_stepsOf ∈ cm_all := cm_inT (cm_t8 _ (List.mem_of_getElem? (i := 26) (by decide +kernel))) rfl
theorem kv_X11_stepsOf : Cond.instanceMethod yX11_stepsOf ∈ cm_all := cm_inT (cm_t8 _ (List.mem_of_getElem? (i := 28) (by decide +kernel))) rfl
theorem kc_X11_stepsOf : Cond.code yX11_stepsOf cX11_stepsOf 2 (some .int) ∈ cm_all := cm_inT (cm_t8 _ (List.mem_of_getElem? (i := 29) (by decide +kernel))) rfl
theorem kl_RX11_218 : Cond.methodLink RX11 218 yX11_stepOf ∈ cm_all := cm_inT (cm_t8 _ (List.mem_of_getElem? (i := 30) (by decide +kernel))) rfl
theorem kv_X11_stepOf : Cond.instanceMethod yX11_stepOf ∈ cm_all := cm_inT (cm_t8 _ (List.mem_of_getElem? (i := 32) (by decide +kernel))) rfl
theorem kc_X11_stepOf : Cond.code yX11_stepOf cX11_stepOf 4 (some .int) ∈ cm_all := cm_inT (cm_t8 _ (List.mem_of_getElem? (i := 33) (by decide +kernel))) rfl
theorem kl_RL_225 : Cond.methodLink RL 225 yX11_now ∈ cm_all := cm_inT (cm_t8 _ (List.mem_of_getElem? (i := 34) (by decide +kernel))) rfl
theorem kv_X11_now : Cond.instanceMethod yX11_now ∈ cm_all := cm_inT (cm_t8 _ (List.mem_of_getElem? (i := 35) (by decide +kernel))) rfl
theorem kx_X11_now : Cond.selects yX11_now.cls yX11_now yX11_now ∈ cm_all := cm_inT (cm_t8 _ (List.mem_of_getElem? (i := 36) (by decide +kernel))) rfl
theorem kc_X11_now : Cond.code yX11_now cX11_now 1 (some .int) ∈ cm_all := cm_inT (cm_t8 _ (List.mem_of_getElem? (i := 37) (by decide +kernel))) rfl
theorem kl_RL_228 : Cond.methodLink RL 228 yX11_advance ∈ cm_all := cm_inT (cm_t8 _ (List.mem_of_getElem? (i := 38) (by decide +kernel))) rfl
theorem kv_X11_advance : Cond.instanceMethod yX11_advance ∈ cm_all := cm_inT (cm_t8 _ (List.mem_of_getElem? (i := 39) (by decide +kernel))) rfl
theorem kx_X11_advance : Cond.selects yX11_advance.cls yX11_advance yX11_advance ∈ cm_all := cm_inT (cm_t8 _ (List.mem_of_getElem? (i := 40) (by decide +kernel))) rfl
theorem kc_X11_advance : Cond.code yX11_advance cX11_advance 3 (some .int) ∈ cm_all := cm_inT (cm_t8 _ (List.mem_of_getElem? (i := 41) (by decide +kernel))) rfl
theorem kl_RX11_340 : Cond.constant RX11 340 (300000) ∈ cm_all := cm_inT (cm_t8 _ (List.mem_of_getElem? (i := 42) (by decide +kernel))) rfl
theorem kl_RX11_341 : Cond.methodLink RX11 341 yX11_ticks ∈ cm_all := cm_inT (cm_t8 _ (List.mem_of_getElem? (i := 43) (by decide +kernel))) rfl
theorem kv_X11_ticks : Cond.instanceMethod yX11_ticks ∈ cm_all := cm_inT (cm_t8 _ (List.mem_of_getElem? (i := 45) (by decide +kernel))) rfl
theorem kc_X11_ticks : Cond.code yX11_ticks cX11_ticks 2 none ∈ cm_all := cm_inT (cm_t8 _ (List.mem_of_getElem? (i := 46) (by decide +kernel))) rfl
theorem kl_RX11_323 : Cond.methodLink RX11 323 yX11_goes ∈ cm_all := cm_inT (cm_t8 _ (List.mem_of_getElem? (i := 47) (by decide +kernel))) rfl
theorem kv_X11_goes : Cond.instanceMethod yX11_goes ∈ cm_all := cm_inT (cm_t8 _ (List.mem_of_getElem? (i := 49) (by decide +kernel))) rfl
theorem kc_X11_goes : Cond.code yX11_goes cX11_goes 6 none ∈ cm_all := cm_inT (cm_t8 _ (List.mem_of_getElem? (i := 50) (by decide +kernel))) rfl
theorem kl_RX11_308 : Cond.methodLink RX11 308 yX11_currentOf ∈ cm_all := cm_inT (cm_t8 _ (List.mem_of_getElem? (i := 51) (by decide +kernel))) rfl
theorem kv_X11_currentOf : Cond.instanceMethod yX11_currentOf ∈ cm_all := cm_inT (cm_t8 _ (List.mem_of_getElem? (i := 53) (by decide +kernel))) rfl
theorem kc_X11_currentOf : Cond.code yX11_currentOf cX11_currentOf 3 (some .int) ∈ cm_all := cm_inT (cm_t8 _ (List.mem_of_getElem? (i := 54) (by decide +kernel))) rfl
theorem kl_RX11_222 : Cond.methodLink RX11 222 yX11_wantedOf ∈ cm_all := cm_inT (cm_t8 _ (List.mem_of_getElem? (i := 55) (by decide +kernel))) rfl
theorem kv_X11_wantedOf : Cond.instanceMethod yX11_wantedOf ∈ cm_all := cm_inT (cm_t8 _ (List.mem_of_getElem? (i := 57) (by decide +kernel))) rfl
theorem kc_X11_wantedOf : Cond.code yX11_wantedOf cX11_wantedOf 4 (some .int) ∈ cm_all := cm_inT (cm_t8 _ (List.mem_of_getElem? (i := 58) (by decide +kernel))) rfl
theorem kl_RX11_228 : Cond.methodLink RX11 228 yX11_step ∈ cm_all := cm_inT (cm_t8 _ (List.mem_of_getElem? (i := 59) (by decide +kernel))) rfl
theorem kv_X11_step : Cond.instanceMethod yX11_step ∈ cm_all := cm_inT (cm_t8 _ (List.mem_of_getElem? (i := 61) (by decide +kernel))) rfl
theorem kc_X11_step : Cond.code yX11_step cX11_step 3 (some .int) ∈ cm_all := cm_inT (cm_t8 _ (List.mem_of_getElem? (i := 62) (by decide +kernel))) rfl
theorem kl_RX11_231 : Cond.methodLink RX11 231 yX11_restAt ∈ cm_all := cm_inT (cm_t8 _ (List.mem_of_getElem? (i := 63) (by decide +kernel))) rfl
theorem kv_X11_restAt : Cond.instanceMethod yX11_restAt ∈ cm_all := cm_inT (cm_t8 _ (List.mem_of_getElem? (i := 65) (by decide +kernel))) rfl
theorem kc_X11_restAt : Cond.code yX11_restAt cX11_restAt 12 (some .int) ∈ cm_all := cm_inT (cm_t8 _ (List.mem_of_getElem? (i := 66) (by decide +kernel))) rfl
theorem kl_RX11_212 : Cond.methodLink RX11 212 yX11_voltsMany ∈ cm_all := cm_inT (cm_t8 _ (List.mem_of_getElem? (i := 67) (by decide +kernel))) rfl
theorem kv_X11_voltsMany : Cond.instanceMethod yX11_voltsMany ∈ cm_all := cm_inT (cm_t8 _ (List.mem_of_getElem? (i := 69) (by decide +kernel))) rfl
theorem kc_X11_voltsMany : Cond.code yX11_voltsMany cX11_voltsMany 2 (some .int) ∈ cm_all := cm_inT (cm_t8 _ (List.mem_of_getElem? (i := 70) (by decide +kernel))) rfl
theorem kl_RX11_215 : Cond.methodLink RX11 215 yX11_volts ∈ cm_all := cm_inT (cm_t8 _ (List.mem_of_getElem? (i := 71) (by decide +kernel))) rfl
theorem kv_X11_volts : Cond.instanceMethod yX11_volts ∈ cm_all := cm_inT (cm_t8 _ (List.mem_of_getElem? (i := 73) (by decide +kernel))) rfl
theorem kc_X11_volts : Cond.code yX11_volts cX11_volts 3 (some .int) ∈ cm_all := cm_inT (cm_t8 _ (List.mem_of_getElem? (i := 74) (by decide +kernel))) rfl
theorem kl_RX11_225 : Cond.methodLink RX11 225 yJ9_max_7cf53 ∈ cm_all := cm_inT (cm_t8 _ (List.mem_of_getElem? (i := 75) (by decide +kernel))) rfl
theorem kl_RX11_311 : Cond.methodLink RX11 311 yX11_flows ∈ cm_all := cm_inT (cm_t8 _ (List.mem_of_getElem? (i := 76) (by decide +kernel))) rfl
theorem kv_X11_flows : Cond.instanceMethod yX11_flows ∈ cm_all := cm_inT (cm_t8 _ (List.mem_of_getElem? (i := 78) (by decide +kernel))) rfl
theorem kc_X11_flows : Cond.code yX11_flows cX11_flows 4 none ∈ cm_all := cm_inT (cm_t8 _ (List.mem_of_getElem? (i := 79) (by decide +kernel))) rfl
theorem kl_RX11_245 : Cond.methodLink RX11 245 yX11_polarizes ∈ cm_all := cm_inT (cm_t8 _ (List.mem_of_getElem? (i := 80) (by decide +kernel))) rfl
theorem kv_X11_polarizes : Cond.instanceMethod yX11_polarizes ∈ cm_all := cm_inT (cm_t8 _ (List.mem_of_getElem? (i := 82) (by decide +kernel))) rfl
theorem kc_X11_polarizes : Cond.code yX11_polarizes cX11_polarizes 5 none ∈ cm_all := cm_inT (cm_t8 _ (List.mem_of_getElem? (i := 83) (by decide +kernel))) rfl
theorem kl_RX11_234 : Cond.methodLink RX11 234 yX11_put ∈ cm_all := cm_inT (cm_t8 _ (List.mem_of_getElem? (i := 84) (by decide +kernel))) rfl
theorem kv_X11_put : Cond.instanceMethod yX11_put ∈ cm_all := cm_inT (cm_t8 _ (List.mem_of_getElem? (i := 86) (by decide +kernel))) rfl
theorem kc_X11_put : Cond.code yX11_put cX11_put 4 none ∈ cm_all := cm_inT (cm_t8 _ (List.mem_of_getElem? (i := 87) (by decide +kernel))) rfl
theorem kl_RX11_249 : Cond.methodLink RX11 249 yX11_moves ∈ cm_all := cm_inT (cm_t8 _ (List.mem_of_getElem? (i := 88) (by decide +kernel))) rfl
theorem kv_X11_moves : Cond.instanceMethod yX11_moves ∈ cm_all := cm_inT (cm_t8 _ (List.mem_of_getElem? (i := 90) (by decide +kernel))) rfl
theorem kc_X11_moves : Cond.code yX11_moves cX11_moves 4 none ∈ cm_all := cm_inT (cm_t8 _ (List.mem_of_getElem? (i := 91) (by decide +kernel))) rfl
theorem kl_RX11_238 : Cond.methodLink RX11 238 yX11_adds ∈ cm_all := cm_inT (cm_t8 _ (List.mem_of_getElem? (i := 92) (by decide +kernel))) rfl
theorem kv_X11_adds : Cond.instanceMethod yX11_adds ∈ cm_all := cm_inT (cm_t8 _ (List.mem_of_getElem? (i := 94) (by decide +kernel))) rfl
theorem kc_X11_adds : Cond.code yX11_adds cX11_adds 5 none ∈ cm_all := cm_inT (cm_t8 _ (List.mem_of_getElem? (i := 95) (by decide +kernel))) rfl
theorem kl_RX11_252 : Cond.methodLink RX11 252 yX11_fades ∈ cm_all := cm_inT (cm_t8 _ (List.mem_of_getElem? (i := 96) (by decide +kernel))) rfl
theorem kv_X11_fades : Cond.instanceMethod yX11_fades ∈ cm_all := cm_inT (cm_t8 _ (List.mem_of_getElem? (i := 98) (by decide +kernel))) rfl
theorem kc_X11_fades : Cond.code yX11_fades cX11_fades 4 none ∈ cm_all := cm_inT (cm_t8 _ (List.mem_of_getElem? (i := 99) (by decide +kernel))) rfl
theorem kl_RX11_242 : Cond.methodLink RX11 242 yJ9_abs_0f7a4 ∈ cm_all := cm_inT (cm_t8 _ (List.mem_of_getElem? (i := 100) (by decide +kernel))) rfl
theorem ks_J9_abs_0f7a4 : Cond.static yJ9_abs_0f7a4 ∈ cm_all := cm_inT (cm_t8 _ (List.mem_of_getElem? (i := 101) (by decide +kernel))) rfl
theorem kc_J9_abs_0f7a4 : Cond.code yJ9_abs_0f7a4 cJ9_abs_0f7a4 1 (some .int) ∈ cm_all := cm_inT (cm_t8 _ (List.mem_of_getElem? (i := 102) (by decide +kernel))) rfl
theorem kl_RX11_255 : Cond.methodLink RX11 255 yX11_warms ∈ cm_all := cm_inT (cm_t8 _ (List.mem_of_getElem? (i := 103) (by decide +kernel))) rfl
theorem kv_X11_warms : Cond.instanceMethod yX11_warms ∈ cm_all := cm_inT (cm_t8 _ (List.mem_of_getElem? (i := 105) (by decide +kernel))) rfl
theorem kc_X11_warms : Cond.code yX11_warms cX11_warms 4 none ∈ cm_all := cm_inT (cm_t8 _ (List.mem_of_getElem? (i := 106) (by decide +kernel))) rfl
theorem kl_RX11_314 : Cond.methodLink RX11 314 yX11_filled ∈ cm_all := cm_inT (cm_t8 _ (List.mem_of_getElem? (i := 107) (by decide +kernel))) rfl
theorem kv_X11_filled : Cond.instanceMethod yX11_filled ∈ cm_all := cm_inT (cm_t8 _ (List.mem_of_getElem? (i := 109) (by decide +kernel))) rfl
theorem kc_X11_filled : Cond.code yX11_filled cX11_filled 2 (some .int) ∈ cm_all := cm_inT (cm_t8 _ (List.mem_of_getElem? (i := 110) (by decide +kernel))) rfl
theorem kl_RX11_303 : Cond.constantLong RX11 303 (1000) ∈ cm_all := cm_inT (cm_t8 _ (List.mem_of_getElem? (i := 111) (by decide +kernel))) rfl
theorem kl_RX11_317 : Cond.methodLink RX11 317 yX11_warns ∈ cm_all := cm_inT (cm_t8 _ (List.mem_of_getElem? (i := 112) (by decide +kernel))) rfl
theorem kv_X11_warns : Cond.instanceMethod yX11_warns ∈ cm_all := cm_inT (cm_t8 _ (List.mem_of_getElem? (i := 114) (by decide +kernel))) rfl
theorem kc_X11_warns : Cond.code yX11_warns cX11_warns 3 none ∈ cm_all := cm_inT (cm_t8 _ (List.mem_of_getElem? (i := 115) (by decide +kernel))) rfl
theorem kl_RX11_305 : Cond.methodLink RX11 305 yX11_warningNow ∈ cm_all := cm_inT (cm_t8 _ (List.mem_of_getElem? (i := 116) (by decide +kernel))) rfl
theorem kv_X11_warningNow : Cond.instanceMethod yX11_warningNow ∈ cm_all := cm_inT (cm_t8 _ (List.mem_of_getElem? (i := 118) (by decide +kernel))) rfl
theorem kc_X11_warningNow : Cond.code yX11_warningNow cX11_warningNow 2 (some .int) ∈ cm_all := cm_inT (cm_t8 _ (List.mem_of_getElem? (i := 119) (by decide +kernel))) rfl
theorem kl_RX11_282 : Cond.methodLink RX11 282 yX11_notes ∈ cm_all := cm_inT (cm_t8 _ (List.mem_of_getElem? (i := 120) (by decide +kernel))) rfl
theorem kv_X11_notes : Cond.instanceMethod yX11_notes ∈ cm_all := cm_inT (cm_t8 _ (List.mem_of_getElem? (i := 122) (by decide +kernel))) rfl
theorem kc_X11_notes : Cond.code yX11_notes cX11_notes 5 none ∈ cm_all := cm_inT (cm_t8 _ (List.mem_of_getElem? (i := 123) (by decide +kernel))) rfl
theorem kl_RX11_320 : Cond.methodLink RX11 320 yX11_watches ∈ cm_all := cm_inT (cm_t8 _ (List.mem_of_getElem? (i := 124) (by decide +kernel))) rfl
theorem kv_X11_watches : Cond.instanceMethod yX11_watches ∈ cm_all := cm_inT (cm_t8 _ (List.mem_of_getElem? (i := 126) (by decide +kernel))) rfl
theorem kc_X11_watches : Cond.code yX11_watches cX11_watches 3 none ∈ cm_all := cm_inT (cm_t8 _ (List.mem_of_getElem? (i := 127) (by decide +kernel))) rfl
theorem kl_RX11_294 : Cond.methodLink RX11 294 yX11_reasonNow ∈ cm_all := cm_inT (cm_t8 _ (List.mem_of_getElem? (i := 128) (by decide +kernel))) rfl
theorem kv_X11_reasonNow : Cond.instanceMethod yX11_reasonNow ∈ cm_all := cm_inT (cm_t8 _ (List.mem_of_getElem? (i := 130) (by decide +kernel))) rfl
theorem kc_X11_reasonNow : Cond.code yX11_reasonNow cX11_reasonNow 2 (some .int) ∈ cm_all := cm_inT (cm_t8 _ (List.mem_of_getElem? (i := 131) (by decide +kernel))) rfl
theorem kl_RX11_258 : Cond.methodLink RX11 258 yX11_isOver ∈ cm_all := cm_inT (cm_t8 _ (List.mem_of_getElem? (i := 132) (by decide +kernel))) rfl
theorem kv_X11_isOver : Cond.instanceMethod yX11_isOver ∈ cm_all := cm_inT (cm_t8 _ (List.mem_of_getElem? (i := 134) (by decide +kernel))) rfl
end
section
/-! words of the tables, by name -/
theorem kc_X11_isOver : Cond.code yX11_isOver cX11_isOver 2 (some .boolean) ∈ cm_all := cm_inT (cm_t8 _ (List.mem_of_getElem? (i := 135) (by decide +kernel))) rfl
theorem kl_RX11_297 : Cond.methodLink RX11 297 yX11_ends ∈ cm_all := cm_inT (cm_t8 _ (List.mem_of_getElem? (i := 136) (by decide +kernel))) rfl
theorem kv_X11_ends : Cond.instanceMethod yX11_ends ∈ cm_all := cm_inT (cm_t8 _ (List.mem_of_getElem? (i := 138) (by decide +kernel))) rfl
theorem kc_X11_ends : Cond.code yX11_ends cX11_ends 4 none ∈ cm_all := cm_inT (cm_t8 _ (List.mem_of_getElem? (i := 139) (by decide +kernel))) rfl
theorem kl_RX11_268 : Cond.methodLink RX11 268 yX11_records ∈ cm_all := cm_inT (cm_t8 _ (List.mem_of_getElem? (i := 140) (by decide +kernel))) rfl
theorem kv_X11_records : Cond.instanceMethod yX11_records ∈ cm_all := cm_inT (cm_t8 _ (List.mem_of_getElem? (i := 142) (by decide +kernel))) rfl
theorem kc_X11_records : Cond.code yX11_records cX11_records 4 none ∈ cm_all := cm_inT (cm_t8 _ (List.mem_of_getElem? (i := 143) (by decide +kernel))) rfl
theorem kl_RX11_261 : Cond.methodLink RX11 261 yX11_sum ∈ cm_all := cm_inT (cm_t8 _ (List.mem_of_getElem? (i := 144) (by decide +kernel))) rfl
theorem kv_X11_sum : Cond.instanceMethod yX11_sum ∈ cm_all := cm_inT (cm_t8 _ (List.mem_of_getElem? (i := 146) (by decide +kernel))) rfl
theorem kc_X11_sum : Cond.code yX11_sum cX11_sum 3 (some .long) ∈ cm_all := cm_inT (cm_t8 _ (List.mem_of_getElem? (i := 147) (by decide +kernel))) rfl
theorem kl_RX11_272 : Cond.methodLink RX11 272 yX11_clears ∈ cm_all := cm_inT (cm_t8 _ (List.mem_of_getElem? (i := 148) (by decide +kernel))) rfl
theorem kv_X11_clears : Cond.instanceMethod yX11_clears ∈ cm_all := cm_inT (cm_t8 _ (List.mem_of_getElem? (i := 150) (by decide +kernel))) rfl
theorem kc_X11_clears : Cond.code yX11_clears cX11_clears 2 none ∈ cm_all := cm_inT (cm_t8 _ (List.mem_of_getElem? (i := 151) (by decide +kernel))) rfl
theorem kl_RX11_265 : Cond.methodLink RX11 265 yX11_putSum ∈ cm_all := cm_inT (cm_t8 _ (List.mem_of_getElem? (i := 152) (by decide +kernel))) rfl
theorem kv_X11_putSum : Cond.instanceMethod yX11_putSum ∈ cm_all := cm_inT (cm_t8 _ (List.mem_of_getElem? (i := 154) (by decide +kernel))) rfl
theorem kc_X11_putSum : Cond.code yX11_putSum cX11_putSum 5 none ∈ cm_all := cm_inT (cm_t8 _ (List.mem_of_getElem? (i := 155) (by decide +kernel))) rfl
theorem kl_RX11_291 : Cond.methodLink RX11 291 yX11_comes ∈ cm_all := cm_inT (cm_t8 _ (List.mem_of_getElem? (i := 156) (by decide +kernel))) rfl
theorem kv_X11_comes : Cond.instanceMethod yX11_comes ∈ cm_all := cm_inT (cm_t8 _ (List.mem_of_getElem? (i := 158) (by decide +kernel))) rfl
theorem kc_X11_comes : Cond.code yX11_comes cX11_comes 6 none ∈ cm_all := cm_inT (cm_t8 _ (List.mem_of_getElem? (i := 159) (by decide +kernel))) rfl
theorem kl_RX11_279 : Cond.methodLink RX11 279 yX11_comesToEnd ∈ cm_all := cm_inT (cm_t8 _ (List.mem_of_getElem? (i := 160) (by decide +kernel))) rfl
theorem kv_X11_comesToEnd : Cond.instanceMethod yX11_comesToEnd ∈ cm_all := cm_inT (cm_t8 _ (List.mem_of_getElem? (i := 162) (by decide +kernel))) rfl
theorem kc_X11_comesToEnd : Cond.code yX11_comesToEnd cX11_comesToEnd 2 none ∈ cm_all := cm_inT (cm_t8 _ (List.mem_of_getElem? (i := 163) (by decide +kernel))) rfl
theorem kl_RX11_285 : Cond.methodLink RX11 285 yX11_leavesQueue ∈ cm_all := cm_inT (cm_t8 _ (List.mem_of_getElem? (i := 164) (by decide +kernel))) rfl
theorem kv_X11_leavesQueue : Cond.instanceMethod yX11_leavesQueue ∈ cm_all := cm_inT (cm_t8 _ (List.mem_of_getElem? (i := 166) (by decide +kernel))) rfl
theorem kc_X11_leavesQueue : Cond.code yX11_leavesQueue cX11_leavesQueue 4 (some .int) ∈ cm_all := cm_inT (cm_t8 _ (List.mem_of_getElem? (i := 167) (by decide +kernel))) rfl
theorem kl_RX11_288 : Cond.methodLink RX11 288 yX11_startsOn ∈ cm_all := cm_inT (cm_t8 _ (List.mem_of_getElem? (i := 168) (by decide +kernel))) rfl
theorem kv_X11_startsOn : Cond.instanceMethod yX11_startsOn ∈ cm_all := cm_inT (cm_t8 _ (List.mem_of_getElem? (i := 170) (by decide +kernel))) rfl
theorem kc_X11_startsOn : Cond.code yX11_startsOn cX11_startsOn 4 none ∈ cm_all := cm_inT (cm_t8 _ (List.mem_of_getElem? (i := 171) (by decide +kernel))) rfl
theorem kl_RL_231 : Cond.methodLink RL 231 yX11_start ∈ cm_all := cm_inT (cm_t8 _ (List.mem_of_getElem? (i := 172) (by decide +kernel))) rfl
theorem kv_X11_start : Cond.instanceMethod yX11_start ∈ cm_all := cm_inT (cm_t8 _ (List.mem_of_getElem? (i := 173) (by decide +kernel))) rfl
theorem kx_X11_start : Cond.selects yX11_start.cls yX11_start yX11_start ∈ cm_all := cm_inT (cm_t8 _ (List.mem_of_getElem? (i := 174) (by decide +kernel))) rfl
theorem kc_X11_start : Cond.code yX11_start cX11_start 5 (some .int) ∈ cm_all := cm_inT (cm_t8 _ (List.mem_of_getElem? (i := 175) (by decide +kernel))) rfl
theorem kl_RX11_347 : Cond.methodLink RX11 347 yX11_noProgram ∈ cm_all := cm_inT (cm_t8 _ (List.mem_of_getElem? (i := 176) (by decide +kernel))) rfl
theorem kv_X11_noProgram : Cond.instanceMethod yX11_noProgram ∈ cm_all := cm_inT (cm_t8 _ (List.mem_of_getElem? (i := 178) (by decide +kernel))) rfl
theorem kc_X11_noProgram : Cond.code yX11_noProgram cX11_noProgram 3 (some .boolean) ∈ cm_all := cm_inT (cm_t8 _ (List.mem_of_getElem? (i := 179) (by decide +kernel))) rfl
theorem kl_RX11_344 : Cond.methodLink RX11 344 yX11_noChannel ∈ cm_all := cm_inT (cm_t8 _ (List.mem_of_getElem? (i := 180) (by decide +kernel))) rfl
theorem kv_X11_noChannel : Cond.instanceMethod yX11_noChannel ∈ cm_all := cm_inT (cm_t8 _ (List.mem_of_getElem? (i := 182) (by decide +kernel))) rfl
theorem kc_X11_noChannel : Cond.code yX11_noChannel cX11_noChannel 2 (some .boolean) ∈ cm_all := cm_inT (cm_t8 _ (List.mem_of_getElem? (i := 183) (by decide +kernel))) rfl
theorem kl_RX11_350 : Cond.methodLink RX11 350 yX11_isIn ∈ cm_all := cm_inT (cm_t8 _ (List.mem_of_getElem? (i := 184) (by decide +kernel))) rfl
theorem kv_X11_isIn : Cond.instanceMethod yX11_isIn ∈ cm_all := cm_inT (cm_t8 _ (List.mem_of_getElem? (i := 186) (by decide +kernel))) rfl
theorem kc_X11_isIn : Cond.code yX11_isIn cX11_isIn 3 (some .boolean) ∈ cm_all := cm_inT (cm_t8 _ (List.mem_of_getElem? (i := 187) (by decide +kernel))) rfl
theorem kl_RL_234 : Cond.methodLink RL 234 yX11_pause ∈ cm_all := cm_inT (cm_t8 _ (List.mem_of_getElem? (i := 188) (by decide +kernel))) rfl
theorem kv_X11_pause : Cond.instanceMethod yX11_pause ∈ cm_all := cm_inT (cm_t8 _ (List.mem_of_getElem? (i := 189) (by decide +kernel))) rfl
theorem kx_X11_pause : Cond.selects yX11_pause.cls yX11_pause yX11_pause ∈ cm_all := cm_inT (cm_t8 _ (List.mem_of_getElem? (i := 190) (by decide +kernel))) rfl
theorem kc_X11_pause : Cond.code yX11_pause cX11_pause 2 (some .int) ∈ cm_all := cm_inT (cm_t8 _ (List.mem_of_getElem? (i := 191) (by decide +kernel))) rfl
theorem kl_RX11_353 : Cond.methodLink RX11 353 yX11_turns ∈ cm_all := cm_inT (cm_t8 _ (List.mem_of_getElem? (i := 192) (by decide +kernel))) rfl
theorem kv_X11_turns : Cond.instanceMethod yX11_turns ∈ cm_all := cm_inT (cm_t8 _ (List.mem_of_getElem? (i := 194) (by decide +kernel))) rfl
theorem kc_X11_turns : Cond.code yX11_turns cX11_turns 4 (some .int) ∈ cm_all := cm_inT (cm_t8 _ (List.mem_of_getElem? (i := 195) (by decide +kernel))) rfl
theorem kl_RL_237 : Cond.methodLink RL 237 yX11_resume ∈ cm_all := cm_inT (cm_t8 _ (List.mem_of_getElem? (i := 196) (by decide +kernel))) rfl
theorem kv_X11_resume : Cond.instanceMethod yX11_resume ∈ cm_all := cm_inT (cm_t8 _ (List.mem_of_getElem? (i := 197) (by decide +kernel))) rfl
theorem kx_X11_resume : Cond.selects yX11_resume.cls yX11_resume yX11_resume ∈ cm_all := cm_inT (cm_t8 _ (List.mem_of_getElem? (i := 198) (by decide +kernel))) rfl
theorem kc_X11_resume : Cond.code yX11_resume cX11_resume 2 (some .int) ∈ cm_all := cm_inT (cm_t8 _ (List.mem_of_getElem? (i := 199) (by decide +kernel))) rfl
theorem kl_RL_240 : Cond.methodLink RL 240 yX11_stop ∈ cm_all := cm_inT (cm_t8 _ (List.mem_of_getElem? (i := 200) (by decide +kernel))) rfl
theorem kv_X11_stop : Cond.instanceMethod yX11_stop ∈ cm_all := cm_inT (cm_t8 _ (List.mem_of_getElem? (i := 201) (by decide +kernel))) rfl
theorem kx_X11_stop : Cond.selects yX11_stop.cls yX11_stop yX11_stop ∈ cm_all := cm_inT (cm_t8 _ (List.mem_of_getElem? (i := 202) (by decide +kernel))) rfl
theorem kc_X11_stop : Cond.code yX11_stop cX11_stop 3 (some .int) ∈ cm_all := cm_inT (cm_t8 _ (List.mem_of_getElem? (i := 203) (by decide +kernel))) rfl
theorem kl_RL_243 : Cond.methodLink RL 243 yX11_skip ∈ cm_all := cm_inT (cm_t8 _ (List.mem_of_getElem? (i := 204) (by decide +kernel))) rfl
theorem kv_X11_skip : Cond.instanceMethod yX11_skip ∈ cm_all := cm_inT (cm_t8 _ (List.mem_of_getElem? (i := 205) (by decide +kernel))) rfl
theorem kx_X11_skip : Cond.selects yX11_skip.cls yX11_skip yX11_skip ∈ cm_all := cm_inT (cm_t8 _ (List.mem_of_getElem? (i := 206) (by decide +kernel))) rfl
theorem kc_X11_skip : Cond.code yX11_skip cX11_skip 2 (some .int) ∈ cm_all := cm_inT (cm_t8 _ (List.mem_of_getElem? (i := 207) (by decide +kernel))) rfl
theorem kl_RL_246 : Cond.methodLink RL 246 yX11_replace ∈ cm_all := cm_inT (cm_t8 _ (List.mem_of_getElem? (i := 208) (by decide +kernel))) rfl
theorem kv_X11_replace : Cond.instanceMethod yX11_replace ∈ cm_all := cm_inT (cm_t8 _ (List.mem_of_getElem? (i := 209) (by decide +kernel))) rfl
theorem kx_X11_replace : Cond.selects yX11_replace.cls yX11_replace yX11_replace ∈ cm_all := cm_inT (cm_t8 _ (List.mem_of_getElem? (i := 210) (by decide +kernel))) rfl
theorem kc_X11_replace : Cond.code yX11_replace cX11_replace 5 (some .int) ∈ cm_all := cm_inT (cm_t8 _ (List.mem_of_getElem? (i := 211) (by decide +kernel))) rfl
theorem kl_RL_249 : Cond.methodLink RL 249 yX11_enqueue ∈ cm_all := cm_inT (cm_t8 _ (List.mem_of_getElem? (i := 212) (by decide +kernel))) rfl
theorem kv_X11_enqueue : Cond.instanceMethod yX11_enqueue ∈ cm_all := cm_inT (cm_t8 _ (List.mem_of_getElem? (i := 213) (by decide +kernel))) rfl
theorem kx_X11_enqueue : Cond.selects yX11_enqueue.cls yX11_enqueue yX11_enqueue ∈ cm_all := cm_inT (cm_t8 _ (List.mem_of_getElem? (i := 214) (by decide +kernel))) rfl
theorem kc_X11_enqueue : Cond.code yX11_enqueue cX11_enqueue 3 (some .int) ∈ cm_all := cm_inT (cm_t8 _ (List.mem_of_getElem? (i := 215) (by decide +kernel))) rfl
theorem kl_RL_252 : Cond.methodLink RL 252 yX11_dequeue ∈ cm_all := cm_inT (cm_t8 _ (List.mem_of_getElem? (i := 216) (by decide +kernel))) rfl
theorem kv_X11_dequeue : Cond.instanceMethod yX11_dequeue ∈ cm_all := cm_inT (cm_t8 _ (List.mem_of_getElem? (i := 217) (by decide +kernel))) rfl
theorem kx_X11_dequeue : Cond.selects yX11_dequeue.cls yX11_dequeue yX11_dequeue ∈ cm_all := cm_inT (cm_t8 _ (List.mem_of_getElem? (i := 218) (by decide +kernel))) rfl
theorem kc_X11_dequeue : Cond.code yX11_dequeue cX11_dequeue 2 (some .int) ∈ cm_all := cm_inT (cm_t8 _ (List.mem_of_getElem? (i := 219) (by decide +kernel))) rfl
theorem kl_RL_255 : Cond.methodLink RL 255 yX11_startNext ∈ cm_all := cm_inT (cm_t8 _ (List.mem_of_getElem? (i := 220) (by decide +kernel))) rfl
theorem kv_X11_startNext : Cond.instanceMethod yX11_startNext ∈ cm_all := cm_inT (cm_t8 _ (List.mem_of_getElem? (i := 221) (by decide +kernel))) rfl
theorem kx_X11_startNext : Cond.selects yX11_startNext.cls yX11_startNext yX11_startNext ∈ cm_all := cm_inT (cm_t8 _ (List.mem_of_getElem? (i := 222) (by decide +kernel))) rfl
theorem kc_X11_startNext : Cond.code yX11_startNext cX11_startNext 3 (some .int) ∈ cm_all := cm_inT (cm_t8 _ (List.mem_of_getElem? (i := 223) (by decide +kernel))) rfl
theorem kl_RL_258 : Cond.methodLink RL 258 yX11_queueAt ∈ cm_all := cm_inT (cm_t8 _ (List.mem_of_getElem? (i := 224) (by decide +kernel))) rfl
theorem kv_X11_queueAt : Cond.instanceMethod yX11_queueAt ∈ cm_all := cm_inT (cm_t8 _ (List.mem_of_getElem? (i := 225) (by decide +kernel))) rfl
theorem kx_X11_queueAt : Cond.selects yX11_queueAt.cls yX11_queueAt yX11_queueAt ∈ cm_all := cm_inT (cm_t8 _ (List.mem_of_getElem? (i := 226) (by decide +kernel))) rfl
theorem kc_X11_queueAt : Cond.code yX11_queueAt cX11_queueAt 3 (some .int) ∈ cm_all := cm_inT (cm_t8 _ (List.mem_of_getElem? (i := 227) (by decide +kernel))) rfl
theorem kl_RL_261 : Cond.methodLink RL 261 yX11_queueSize ∈ cm_all := cm_inT (cm_t8 _ (List.mem_of_getElem? (i := 228) (by decide +kernel))) rfl
theorem kv_X11_queueSize : Cond.instanceMethod yX11_queueSize ∈ cm_all := cm_inT (cm_t8 _ (List.mem_of_getElem? (i := 229) (by decide +kernel))) rfl
theorem kx_X11_queueSize : Cond.selects yX11_queueSize.cls yX11_queueSize yX11_queueSize ∈ cm_all := cm_inT (cm_t8 _ (List.mem_of_getElem? (i := 230) (by decide +kernel))) rfl
theorem kc_X11_queueSize : Cond.code yX11_queueSize cX11_queueSize 2 (some .int) ∈ cm_all := cm_inT (cm_t8 _ (List.mem_of_getElem? (i := 231) (by decide +kernel))) rfl
theorem kl_RL_295 : Cond.methodLink RL 295 yX11_internalResistance ∈ cm_all := cm_inT (cm_t8 _ (List.mem_of_getElem? (i := 232) (by decide +kernel))) rfl
theorem kv_X11_internalResistance : Cond.instanceMethod yX11_internalResistance ∈ cm_all := cm_inT (cm_t8 _ (List.mem_of_getElem? (i := 233) (by decide +kernel))) rfl
theorem kx_X11_internalResistance : Cond.selects yX11_internalResistance.cls yX11_internalResistance yX11_internalResistance ∈ cm_all := cm_inT (cm_t8 _ (List.mem_of_getElem? (i := 234) (by decide +kernel))) rfl
theorem kc_X11_internalResistance : Cond.code yX11_internalResistance cX11_internalResistance 2 (some .int) ∈ cm_all := cm_inT (cm_t8 _ (List.mem_of_getElem? (i := 235) (by decide +kernel))) rfl
theorem kl_RL_298 : Cond.methodLink RL 298 yX11_ticksIn ∈ cm_all := cm_inT (cm_t8 _ (List.mem_of_getElem? (i := 236) (by decide +kernel))) rfl
theorem kv_X11_ticksIn : Cond.instanceMethod yX11_ticksIn ∈ cm_all := cm_inT (cm_t8 _ (List.mem_of_getElem? (i := 237) (by decide +kernel))) rfl
theorem kx_X11_ticksIn : Cond.selects yX11_ticksIn.cls yX11_ticksIn yX11_ticksIn ∈ cm_all := cm_inT (cm_t8 _ (List.mem_of_getElem? (i := 238) (by decide +kernel))) rfl
theorem kc_X11_ticksIn : Cond.code yX11_ticksIn cX11_ticksIn 3 (some .int) ∈ cm_all := cm_inT (cm_t8 _ (List.mem_of_getElem? (i := 239) (by decide +kernel))) rfl
theorem kl_RX11_356 : Cond.constantLong RX11 356 (9) ∈ cm_all := cm_inT (cm_t9 _ (List.mem_of_getElem? (i := 0) (by decide +kernel))) rfl
theorem kl_RL_301 : Cond.methodLink RL 301 yX11_warnings ∈ cm_all := cm_inT (cm_t9 _ (List.mem_of_getElem? (i := 1) (by decide +kernel))) rfl
theorem kv_X11_warnings : Cond.instanceMethod yX11_warnings ∈ cm_all := cm_inT (cm_t9 _ (List.mem_of_getElem? (i := 2) (by decide +kernel))) rfl
theorem kx_X11_warnings : Cond.selects yX11_warnings.cls yX11_warnings yX11_warnings ∈ cm_all := cm_inT (cm_t9 _ (List.mem_of_getElem? (i := 3) (by decide +kernel))) rfl
theorem kc_X11_warnings : Cond.code yX11_warnings cX11_warnings 2 (some .int) ∈ cm_all := cm_inT (cm_t9 _ (List.mem_of_getElem? (i := 4) (by decide +kernel))) rfl
theorem kl_RL_304 : Cond.methodLink RL 304 yX11_warned ∈ cm_all := cm_inT (cm_t9 _ (List.mem_of_getElem? (i := 5) (by decide +kernel))) rfl
theorem kv_X11_warned : Cond.instanceMethod yX11_warned ∈ cm_all := cm_inT (cm_t9 _ (List.mem_of_getElem? (i := 6) (by decide +kernel))) rfl
theorem kx_X11_warned : Cond.selects yX11_warned.cls yX11_warned yX11_warned ∈ cm_all := cm_inT (cm_t9 _ (List.mem_of_getElem? (i := 7) (by decide +kernel))) rfl
theorem kc_X11_warned : Cond.code yX11_warned cX11_warned 2 (some .int) ∈ cm_all := cm_inT (cm_t9 _ (List.mem_of_getElem? (i := 8) (by decide +kernel))) rfl
theorem kl_RL_335 : Cond.methodLink RL 335 yX11_logSize ∈ cm_all := cm_inT (cm_t9 _ (List.mem_of_getElem? (i := 9) (by decide +kernel))) rfl
theorem kv_X11_logSize : Cond.instanceMethod yX11_logSize ∈ cm_all := cm_inT (cm_t9 _ (List.mem_of_getElem? (i := 10) (by decide +kernel))) rfl
theorem kx_X11_logSize : Cond.selects yX11_logSize.cls yX11_logSize yX11_logSize ∈ cm_all := cm_inT (cm_t9 _ (List.mem_of_getElem? (i := 11) (by decide +kernel))) rfl
theorem kc_X11_logSize : Cond.code yX11_logSize cX11_logSize 1 (some .int) ∈ cm_all := cm_inT (cm_t9 _ (List.mem_of_getElem? (i := 12) (by decide +kernel))) rfl
theorem kl_RL_338 : Cond.methodLink RL 338 yX11_logEntry ∈ cm_all := cm_inT (cm_t9 _ (List.mem_of_getElem? (i := 13) (by decide +kernel))) rfl
theorem kv_X11_logEntry : Cond.instanceMethod yX11_logEntry ∈ cm_all := cm_inT (cm_t9 _ (List.mem_of_getElem? (i := 14) (by decide +kernel))) rfl
theorem kx_X11_logEntry : Cond.selects yX11_logEntry.cls yX11_logEntry yX11_logEntry ∈ cm_all := cm_inT (cm_t9 _ (List.mem_of_getElem? (i := 15) (by decide +kernel))) rfl
theorem kc_X11_logEntry : Cond.code yX11_logEntry cX11_logEntry 3 (some .int) ∈ cm_all := cm_inT (cm_t9 _ (List.mem_of_getElem? (i := 16) (by decide +kernel))) rfl
theorem kl_RX11_358 : Cond.constantLong RX11 358 (3) ∈ cm_all := cm_inT (cm_t9 _ (List.mem_of_getElem? (i := 17) (by decide +kernel))) rfl
theorem kl_RL_341 : Cond.methodLink RL 341 yX11_eventsOf ∈ cm_all := cm_inT (cm_t9 _ (List.mem_of_getElem? (i := 18) (by decide +kernel))) rfl
theorem kv_X11_eventsOf : Cond.instanceMethod yX11_eventsOf ∈ cm_all := cm_inT (cm_t9 _ (List.mem_of_getElem? (i := 19) (by decide +kernel))) rfl
theorem kx_X11_eventsOf : Cond.selects yX11_eventsOf.cls yX11_eventsOf yX11_eventsOf ∈ cm_all := cm_inT (cm_t9 _ (List.mem_of_getElem? (i := 20) (by decide +kernel))) rfl
theorem kc_X11_eventsOf : Cond.code yX11_eventsOf cX11_eventsOf 5 (some .int) ∈ cm_all := cm_inT (cm_t9 _ (List.mem_of_getElem? (i := 21) (by decide +kernel))) rfl
theorem kl_RX11_360 : Cond.constantLong RX11 360 (5) ∈ cm_all := cm_inT (cm_t9 _ (List.mem_of_getElem? (i := 22) (by decide +kernel))) rfl
theorem kl_RL_264 : Cond.methodLink RL 264 yX11_value ∈ cm_all := cm_inT (cm_t9 _ (List.mem_of_getElem? (i := 23) (by decide +kernel))) rfl
theorem kv_X11_value : Cond.instanceMethod yX11_value ∈ cm_all := cm_inT (cm_t9 _ (List.mem_of_getElem? (i := 24) (by decide +kernel))) rfl
theorem kx_X11_value : Cond.selects yX11_value.cls yX11_value yX11_value ∈ cm_all := cm_inT (cm_t9 _ (List.mem_of_getElem? (i := 25) (by decide +kernel))) rfl
theorem kc_X11_value : Cond.code yX11_value cX11_value 3 (some .int) ∈ cm_all := cm_inT (cm_t9 _ (List.mem_of_getElem? (i := 26) (by decide +kernel))) rfl
theorem kl_RL_267 : Cond.methodLink RL 267 yX11_restVoltage ∈ cm_all := cm_inT (cm_t9 _ (List.mem_of_getElem? (i := 27) (by decide +kernel))) rfl
theorem kv_X11_restVoltage : Cond.instanceMethod yX11_restVoltage ∈ cm_all := cm_inT (cm_t9 _ (List.mem_of_getElem? (i := 28) (by decide +kernel))) rfl
theorem kx_X11_restVoltage : Cond.selects yX11_restVoltage.cls yX11_restVoltage yX11_restVoltage ∈ cm_all := cm_inT (cm_t9 _ (List.mem_of_getElem? (i := 29) (by decide +kernel))) rfl
theorem kc_X11_restVoltage : Cond.code yX11_restVoltage cX11_restVoltage 3 (some .int) ∈ cm_all := cm_inT (cm_t9 _ (List.mem_of_getElem? (i := 30) (by decide +kernel))) rfl
theorem kl_RX11_362 : Cond.constantLong RX11 362 (200000) ∈ cm_all := cm_inT (cm_t9 _ (List.mem_of_getElem? (i := 31) (by decide +kernel))) rfl
theorem kl_RL_270 : Cond.methodLink RL 270 yX11_chargeFor ∈ cm_all := cm_inT (cm_t9 _ (List.mem_of_getElem? (i := 32) (by decide +kernel))) rfl
theorem kv_X11_chargeFor : Cond.instanceMethod yX11_chargeFor ∈ cm_all := cm_inT (cm_t9 _ (List.mem_of_getElem? (i := 33) (by decide +kernel))) rfl
theorem kx_X11_chargeFor : Cond.selects yX11_chargeFor.cls yX11_chargeFor yX11_chargeFor ∈ cm_all := cm_inT (cm_t9 _ (List.mem_of_getElem? (i := 34) (by decide +kernel))) rfl
theorem kc_X11_chargeFor : Cond.code yX11_chargeFor cX11_chargeFor 6 (some .int) ∈ cm_all := cm_inT (cm_t9 _ (List.mem_of_getElem? (i := 35) (by decide +kernel))) rfl
theorem kl_RL_273 : Cond.methodLink RL 273 yX11_filling ∈ cm_all := cm_inT (cm_t9 _ (List.mem_of_getElem? (i := 36) (by decide +kernel))) rfl
theorem kv_X11_filling : Cond.instanceMethod yX11_filling ∈ cm_all := cm_inT (cm_t9 _ (List.mem_of_getElem? (i := 37) (by decide +kernel))) rfl
theorem kx_X11_filling : Cond.selects yX11_filling.cls yX11_filling yX11_filling ∈ cm_all := cm_inT (cm_t9 _ (List.mem_of_getElem? (i := 38) (by decide +kernel))) rfl
theorem kc_X11_filling : Cond.code yX11_filling cX11_filling 2 (some .int) ∈ cm_all := cm_inT (cm_t9 _ (List.mem_of_getElem? (i := 39) (by decide +kernel))) rfl
theorem kl_RL_276 : Cond.methodLink RL 276 yX11_ledger ∈ cm_all := cm_inT (cm_t9 _ (List.mem_of_getElem? (i := 40) (by decide +kernel))) rfl
theorem kv_X11_ledger : Cond.instanceMethod yX11_ledger ∈ cm_all := cm_inT (cm_t9 _ (List.mem_of_getElem? (i := 41) (by decide +kernel))) rfl
theorem kx_X11_ledger : Cond.selects yX11_ledger.cls yX11_ledger yX11_ledger ∈ cm_all := cm_inT (cm_t9 _ (List.mem_of_getElem? (i := 42) (by decide +kernel))) rfl
theorem kc_X11_ledger : Cond.code yX11_ledger cX11_ledger 3 (some .long) ∈ cm_all := cm_inT (cm_t9 _ (List.mem_of_getElem? (i := 43) (by decide +kernel))) rfl
theorem kl_RX11_364 : Cond.constantLong RX11 364 (4) ∈ cm_all := cm_inT (cm_t9 _ (List.mem_of_getElem? (i := 44) (by decide +kernel))) rfl
theorem kl_RL_280 : Cond.methodLink RL 280 yX11_chargeEfficiency ∈ cm_all := cm_inT (cm_t9 _ (List.mem_of_getElem? (i := 45) (by decide +kernel))) rfl
theorem kv_X11_chargeEfficiency : Cond.instanceMethod yX11_chargeEfficiency ∈ cm_all := cm_inT (cm_t9 _ (List.mem_of_getElem? (i := 46) (by decide +kernel))) rfl
theorem kx_X11_chargeEfficiency : Cond.selects yX11_chargeEfficiency.cls yX11_chargeEfficiency yX11_chargeEfficiency ∈ cm_all := cm_inT (cm_t9 _ (List.mem_of_getElem? (i := 47) (by decide +kernel))) rfl
theorem kc_X11_chargeEfficiency : Cond.code yX11_chargeEfficiency cX11_chargeEfficiency 2 (some .float) ∈ cm_all := cm_inT (cm_t9 _ (List.mem_of_getElem? (i := 48) (by decide +kernel))) rfl
theorem kl_RL_283 : Cond.methodLink RL 283 yX11_energyEfficiency ∈ cm_all := cm_inT (cm_t9 _ (List.mem_of_getElem? (i := 49) (by decide +kernel))) rfl
theorem kv_X11_energyEfficiency : Cond.instanceMethod yX11_energyEfficiency ∈ cm_all := cm_inT (cm_t9 _ (List.mem_of_getElem? (i := 50) (by decide +kernel))) rfl
theorem kx_X11_energyEfficiency : Cond.selects yX11_energyEfficiency.cls yX11_energyEfficiency yX11_energyEfficiency ∈ cm_all := cm_inT (cm_t9 _ (List.mem_of_getElem? (i := 51) (by decide +kernel))) rfl
theorem kc_X11_energyEfficiency : Cond.code yX11_energyEfficiency cX11_energyEfficiency 2 (some .double) ∈ cm_all := cm_inT (cm_t9 _ (List.mem_of_getElem? (i := 52) (by decide +kernel))) rfl
theorem kl_RL_286 : Cond.methodLink RL 286 yX11_power ∈ cm_all := cm_inT (cm_t9 _ (List.mem_of_getElem? (i := 53) (by decide +kernel))) rfl
theorem kv_X11_power : Cond.instanceMethod yX11_power ∈ cm_all := cm_inT (cm_t9 _ (List.mem_of_getElem? (i := 54) (by decide +kernel))) rfl
theorem kx_X11_power : Cond.selects yX11_power.cls yX11_power yX11_power ∈ cm_all := cm_inT (cm_t9 _ (List.mem_of_getElem? (i := 55) (by decide +kernel))) rfl
theorem kc_X11_power : Cond.code yX11_power cX11_power 2 (some .int) ∈ cm_all := cm_inT (cm_t9 _ (List.mem_of_getElem? (i := 56) (by decide +kernel))) rfl
theorem kl_RL_289 : Cond.methodLink RL 289 yX11_measuredRest ∈ cm_all := cm_inT (cm_t9 _ (List.mem_of_getElem? (i := 57) (by decide +kernel))) rfl
theorem kv_X11_measuredRest : Cond.instanceMethod yX11_measuredRest ∈ cm_all := cm_inT (cm_t9 _ (List.mem_of_getElem? (i := 58) (by decide +kernel))) rfl
theorem kx_X11_measuredRest : Cond.selects yX11_measuredRest.cls yX11_measuredRest yX11_measuredRest ∈ cm_all := cm_inT (cm_t9 _ (List.mem_of_getElem? (i := 59) (by decide +kernel))) rfl
theorem kc_X11_measuredRest : Cond.code yX11_measuredRest cX11_measuredRest 2 (some .int) ∈ cm_all := cm_inT (cm_t9 _ (List.mem_of_getElem? (i := 60) (by decide +kernel))) rfl
theorem kl_RL_292 : Cond.methodLink RL 292 yX11_capacityByRule ∈ cm_all := cm_inT (cm_t9 _ (List.mem_of_getElem? (i := 61) (by decide +kernel))) rfl
theorem kv_X11_capacityByRule : Cond.instanceMethod yX11_capacityByRule ∈ cm_all := cm_inT (cm_t9 _ (List.mem_of_getElem? (i := 62) (by decide +kernel))) rfl
theorem kx_X11_capacityByRule : Cond.selects yX11_capacityByRule.cls yX11_capacityByRule yX11_capacityByRule ∈ cm_all := cm_inT (cm_t9 _ (List.mem_of_getElem? (i := 63) (by decide +kernel))) rfl
theorem kc_X11_capacityByRule : Cond.code yX11_capacityByRule cX11_capacityByRule 2 (some .int) ∈ cm_all := cm_inT (cm_t9 _ (List.mem_of_getElem? (i := 64) (by decide +kernel))) rfl
theorem kl_RL_307 : Cond.methodLink RL 307 yX11_repeats ∈ cm_all := cm_inT (cm_t9 _ (List.mem_of_getElem? (i := 65) (by decide +kernel))) rfl
theorem kv_X11_repeats : Cond.instanceMethod yX11_repeats ∈ cm_all := cm_inT (cm_t9 _ (List.mem_of_getElem? (i := 66) (by decide +kernel))) rfl
theorem kx_X11_repeats : Cond.selects yX11_repeats.cls yX11_repeats yX11_repeats ∈ cm_all := cm_inT (cm_t9 _ (List.mem_of_getElem? (i := 67) (by decide +kernel))) rfl
theorem kc_X11_repeats : Cond.code yX11_repeats cX11_repeats 4 (some .int) ∈ cm_all := cm_inT (cm_t9 _ (List.mem_of_getElem? (i := 68) (by decide +kernel))) rfl
theorem kl_RL_310 : Cond.methodLink RL 310 yX11_inState ∈ cm_all := cm_inT (cm_t9 _ (List.mem_of_getElem? (i := 69) (by decide +kernel))) rfl
theorem kv_X11_inState : Cond.instanceMethod yX11_inState ∈ cm_all := cm_inT (cm_t9 _ (List.mem_of_getElem? (i := 70) (by decide +kernel))) rfl
theorem kx_X11_inState : Cond.selects yX11_inState.cls yX11_inState yX11_inState ∈ cm_all := cm_inT (cm_t9 _ (List.mem_of_getElem? (i := 71) (by decide +kernel))) rfl
theorem kc_X11_inState : Cond.code yX11_inState cX11_inState 4 (some .int) ∈ cm_all := cm_inT (cm_t9 _ (List.mem_of_getElem? (i := 72) (by decide +kernel))) rfl
theorem kl_RL_314 : Cond.methodLink RL 314 yX11_weakest ∈ cm_all := cm_inT (cm_t9 _ (List.mem_of_getElem? (i := 73) (by decide +kernel))) rfl
theorem kv_X11_weakest : Cond.instanceMethod yX11_weakest ∈ cm_all := cm_inT (cm_t9 _ (List.mem_of_getElem? (i := 74) (by decide +kernel))) rfl
theorem kx_X11_weakest : Cond.selects yX11_weakest.cls yX11_weakest yX11_weakest ∈ cm_all := cm_inT (cm_t9 _ (List.mem_of_getElem? (i := 75) (by decide +kernel))) rfl
theorem kc_X11_weakest : Cond.code yX11_weakest cX11_weakest 3 (some .int) ∈ cm_all := cm_inT (cm_t9 _ (List.mem_of_getElem? (i := 76) (by decide +kernel))) rfl
theorem kl_RX11_366 : Cond.methodLink RX11 366 yX11_share ∈ cm_all := cm_inT (cm_t9 _ (List.mem_of_getElem? (i := 77) (by decide +kernel))) rfl
theorem kv_X11_share : Cond.instanceMethod yX11_share ∈ cm_all := cm_inT (cm_t9 _ (List.mem_of_getElem? (i := 79) (by decide +kernel))) rfl
theorem kc_X11_share : Cond.code yX11_share cX11_share 2 (some .int) ∈ cm_all := cm_inT (cm_t9 _ (List.mem_of_getElem? (i := 80) (by decide +kernel))) rfl
theorem kl_RL_318 : Cond.methodLink RL 318 yX11_hottest ∈ cm_all := cm_inT (cm_t9 _ (List.mem_of_getElem? (i := 81) (by decide +kernel))) rfl
theorem kv_X11_hottest : Cond.instanceMethod yX11_hottest ∈ cm_all := cm_inT (cm_t9 _ (List.mem_of_getElem? (i := 82) (by decide +kernel))) rfl
theorem kx_X11_hottest : Cond.selects yX11_hottest.cls yX11_hottest yX11_hottest ∈ cm_all := cm_inT (cm_t9 _ (List.mem_of_getElem? (i := 83) (by decide +kernel))) rfl
theorem kc_X11_hottest : Cond.code yX11_hottest cX11_hottest 3 (some .int) ∈ cm_all := cm_inT (cm_t9 _ (List.mem_of_getElem? (i := 84) (by decide +kernel))) rfl
theorem kl_RL_322 : Cond.methodLink RL 322 yX11_recordCount ∈ cm_all := cm_inT (cm_t9 _ (List.mem_of_getElem? (i := 85) (by decide +kernel))) rfl
theorem kv_X11_recordCount : Cond.instanceMethod yX11_recordCount ∈ cm_all := cm_inT (cm_t9 _ (List.mem_of_getElem? (i := 86) (by decide +kernel))) rfl
theorem kx_X11_recordCount : Cond.selects yX11_recordCount.cls yX11_recordCount yX11_recordCount ∈ cm_all := cm_inT (cm_t9 _ (List.mem_of_getElem? (i := 87) (by decide +kernel))) rfl
theorem kc_X11_recordCount : Cond.code yX11_recordCount cX11_recordCount 1 (some .int) ∈ cm_all := cm_inT (cm_t9 _ (List.mem_of_getElem? (i := 88) (by decide +kernel))) rfl
theorem kl_RL_325 : Cond.methodLink RL 325 yX11_record ∈ cm_all := cm_inT (cm_t9 _ (List.mem_of_getElem? (i := 89) (by decide +kernel))) rfl
theorem kv_X11_record : Cond.instanceMethod yX11_record ∈ cm_all := cm_inT (cm_t9 _ (List.mem_of_getElem? (i := 90) (by decide +kernel))) rfl
theorem kx_X11_record : Cond.selects yX11_record.cls yX11_record yX11_record ∈ cm_all := cm_inT (cm_t9 _ (List.mem_of_getElem? (i := 91) (by decide +kernel))) rfl
theorem kc_X11_record : Cond.code yX11_record cX11_record 3 (some .int) ∈ cm_all := cm_inT (cm_t9 _ (List.mem_of_getElem? (i := 92) (by decide +kernel))) rfl
theorem kl_RX11_369 : Cond.methodLink RX11 369 yX11_recorded ∈ cm_all := cm_inT (cm_t9 _ (List.mem_of_getElem? (i := 93) (by decide +kernel))) rfl
theorem kv_X11_recorded : Cond.instanceMethod yX11_recorded ∈ cm_all := cm_inT (cm_t9 _ (List.mem_of_getElem? (i := 95) (by decide +kernel))) rfl
theorem kc_X11_recorded : Cond.code yX11_recorded cX11_recorded 3 (some .int) ∈ cm_all := cm_inT (cm_t9 _ (List.mem_of_getElem? (i := 96) (by decide +kernel))) rfl
theorem kl_RL_328 : Cond.methodLink RL 328 yX11_counting ∈ cm_all := cm_inT (cm_t9 _ (List.mem_of_getElem? (i := 97) (by decide +kernel))) rfl
theorem kv_X11_counting : Cond.instanceMethod yX11_counting ∈ cm_all := cm_inT (cm_t9 _ (List.mem_of_getElem? (i := 98) (by decide +kernel))) rfl
theorem kx_X11_counting : Cond.selects yX11_counting.cls yX11_counting yX11_counting ∈ cm_all := cm_inT (cm_t9 _ (List.mem_of_getElem? (i := 99) (by decide +kernel))) rfl
theorem kc_X11_counting : Cond.code yX11_counting cX11_counting 4 (some .int) ∈ cm_all := cm_inT (cm_t9 _ (List.mem_of_getElem? (i := 100) (by decide +kernel))) rfl
theorem kl_RX11_372 : Cond.methodLink RX11 372 yX11_isCounting ∈ cm_all := cm_inT (cm_t9 _ (List.mem_of_getElem? (i := 101) (by decide +kernel))) rfl
theorem kv_X11_isCounting : Cond.instanceMethod yX11_isCounting ∈ cm_all := cm_inT (cm_t9 _ (List.mem_of_getElem? (i := 103) (by decide +kernel))) rfl
theorem kc_X11_isCounting : Cond.code yX11_isCounting cX11_isCounting 3 (some .boolean) ∈ cm_all := cm_inT (cm_t9 _ (List.mem_of_getElem? (i := 104) (by decide +kernel))) rfl
theorem kl_RL_331 : Cond.methodLink RL 331 yX11_loss ∈ cm_all := cm_inT (cm_t9 _ (List.mem_of_getElem? (i := 105) (by decide +kernel))) rfl
theorem kv_X11_loss : Cond.instanceMethod yX11_loss ∈ cm_all := cm_inT (cm_t9 _ (List.mem_of_getElem? (i := 106) (by decide +kernel))) rfl
theorem kx_X11_loss : Cond.selects yX11_loss.cls yX11_loss yX11_loss ∈ cm_all := cm_inT (cm_t9 _ (List.mem_of_getElem? (i := 107) (by decide +kernel))) rfl
theorem kc_X11_loss : Cond.code yX11_loss cX11_loss 5 (some .int) ∈ cm_all := cm_inT (cm_t9 _ (List.mem_of_getElem? (i := 108) (by decide +kernel))) rfl
theorem kl_RL_344 : Cond.methodLink RL 344 yX11_stepEndsIn ∈ cm_all := cm_inT (cm_t9 _ (List.mem_of_getElem? (i := 109) (by decide +kernel))) rfl
theorem kv_X11_stepEndsIn : Cond.instanceMethod yX11_stepEndsIn ∈ cm_all := cm_inT (cm_t9 _ (List.mem_of_getElem? (i := 110) (by decide +kernel))) rfl
theorem kx_X11_stepEndsIn : Cond.selects yX11_stepEndsIn.cls yX11_stepEndsIn yX11_stepEndsIn ∈ cm_all := cm_inT (cm_t9 _ (List.mem_of_getElem? (i := 111) (by decide +kernel))) rfl
theorem kc_X11_stepEndsIn : Cond.code yX11_stepEndsIn cX11_stepEndsIn 4 (some .int) ∈ cm_all := cm_inT (cm_t9 _ (List.mem_of_getElem? (i := 112) (by decide +kernel))) rfl
theorem kl_RX11_379 : Cond.methodLink RX11 379 yX11_goesAside ∈ cm_all := cm_inT (cm_t9 _ (List.mem_of_getElem? (i := 113) (by decide +kernel))) rfl
theorem kv_X11_goesAside : Cond.instanceMethod yX11_goesAside ∈ cm_all := cm_inT (cm_t9 _ (List.mem_of_getElem? (i := 115) (by decide +kernel))) rfl
theorem kc_X11_goesAside : Cond.code yX11_goesAside cX11_goesAside 1 none ∈ cm_all := cm_inT (cm_t9 _ (List.mem_of_getElem? (i := 116) (by decide +kernel))) rfl
theorem kl_RX11_375 : Cond.methodLink RX11 375 yX11_copiesSums ∈ cm_all := cm_inT (cm_t9 _ (List.mem_of_getElem? (i := 117) (by decide +kernel))) rfl
theorem ks_X11_copiesSums : Cond.static yX11_copiesSums ∈ cm_all := cm_inT (cm_t9 _ (List.mem_of_getElem? (i := 118) (by decide +kernel))) rfl
theorem kc_X11_copiesSums : Cond.code yX11_copiesSums cX11_copiesSums 3 none ∈ cm_all := cm_inT (cm_t9 _ (List.mem_of_getElem? (i := 119) (by decide +kernel))) rfl
theorem kl_RX11_382 : Cond.methodLink RX11 382 yX11_alone ∈ cm_all := cm_inT (cm_t9 _ (List.mem_of_getElem? (i := 120) (by decide +kernel))) rfl
theorem kv_X11_alone : Cond.instanceMethod yX11_alone ∈ cm_all := cm_inT (cm_t9 _ (List.mem_of_getElem? (i := 122) (by decide +kernel))) rfl
theorem kc_X11_alone : Cond.code yX11_alone cX11_alone 2 none ∈ cm_all := cm_inT (cm_t9 _ (List.mem_of_getElem? (i := 123) (by decide +kernel))) rfl
theorem kl_RX11_385 : Cond.methodLink RX11 385 yX11_comesBack ∈ cm_all := cm_inT (cm_t9 _ (List.mem_of_getElem? (i := 124) (by decide +kernel))) rfl
theorem kv_X11_comesBack : Cond.instanceMethod yX11_comesBack ∈ cm_all := cm_inT (cm_t9 _ (List.mem_of_getElem? (i := 126) (by decide +kernel))) rfl
theorem kc_X11_comesBack : Cond.code yX11_comesBack cX11_comesBack 1 none ∈ cm_all := cm_inT (cm_t9 _ (List.mem_of_getElem? (i := 127) (by decide +kernel))) rfl
theorem kl_RL_347 : Cond.methodLink RL 347 yX11_doneIn ∈ cm_all := cm_inT (cm_t9 _ (List.mem_of_getElem? (i := 128) (by decide +kernel))) rfl
theorem kv_X11_doneIn : Cond.instanceMethod yX11_doneIn ∈ cm_all := cm_inT (cm_t9 _ (List.mem_of_getElem? (i := 129) (by decide +kernel))) rfl
theorem kx_X11_doneIn : Cond.selects yX11_doneIn.cls yX11_doneIn yX11_doneIn ∈ cm_all := cm_inT (cm_t9 _ (List.mem_of_getElem? (i := 130) (by decide +kernel))) rfl
theorem kc_X11_doneIn : Cond.code yX11_doneIn cX11_doneIn 2 (some .int) ∈ cm_all := cm_inT (cm_t9 _ (List.mem_of_getElem? (i := 131) (by decide +kernel))) rfl
theorem kl_RX11_391 : Cond.methodLink RX11 391 yX11_untilAside ∈ cm_all := cm_inT (cm_t9 _ (List.mem_of_getElem? (i := 132) (by decide +kernel))) rfl
theorem kv_X11_untilAside : Cond.instanceMethod yX11_untilAside ∈ cm_all := cm_inT (cm_t9 _ (List.mem_of_getElem? (i := 134) (by decide +kernel))) rfl
theorem kc_X11_untilAside : Cond.code yX11_untilAside cX11_untilAside 4 (some .int) ∈ cm_all := cm_inT (cm_t9 _ (List.mem_of_getElem? (i := 135) (by decide +kernel))) rfl
theorem kl_RX11_388 : Cond.methodLink RX11 388 yX11_until ∈ cm_all := cm_inT (cm_t9 _ (List.mem_of_getElem? (i := 136) (by decide +kernel))) rfl
theorem kv_X11_until : Cond.instanceMethod yX11_until ∈ cm_all := cm_inT (cm_t9 _ (List.mem_of_getElem? (i := 138) (by decide +kernel))) rfl
theorem kc_X11_until : Cond.code yX11_until cX11_until 4 (some .int) ∈ cm_all := cm_inT (cm_t9 _ (List.mem_of_getElem? (i := 139) (by decide +kernel))) rfl
theorem kl_RL_350 : Cond.methodLink RL 350 yX11_tripsIn ∈ cm_all := cm_inT (cm_t9 _ (List.mem_of_getElem? (i := 140) (by decide +kernel))) rfl
theorem kv_X11_tripsIn : Cond.instanceMethod yX11_tripsIn ∈ cm_all := cm_inT (cm_t9 _ (List.mem_of_getElem? (i := 141) (by decide +kernel))) rfl
theorem kx_X11_tripsIn : Cond.selects yX11_tripsIn.cls yX11_tripsIn yX11_tripsIn ∈ cm_all := cm_inT (cm_t9 _ (List.mem_of_getElem? (i := 142) (by decide +kernel))) rfl
theorem kc_X11_tripsIn : Cond.code yX11_tripsIn cX11_tripsIn 2 (some .int) ∈ cm_all := cm_inT (cm_t9 _ (List.mem_of_getElem? (i := 143) (by decide +kernel))) rfl
theorem kl_RL_353 : Cond.methodLink RL 353 yX11_valueAfter ∈ cm_all := cm_inT (cm_t9 _ (List.mem_of_getElem? (i := 144) (by decide +kernel))) rfl
theorem kv_X11_valueAfter : Cond.instanceMethod yX11_valueAfter ∈ cm_all := cm_inT (cm_t9 _ (List.mem_of_getElem? (i := 145) (by decide +kernel))) rfl
theorem kx_X11_valueAfter : Cond.selects yX11_valueAfter.cls yX11_valueAfter yX11_valueAfter ∈ cm_all := cm_inT (cm_t9 _ (List.mem_of_getElem? (i := 146) (by decide +kernel))) rfl
theorem kc_X11_valueAfter : Cond.code yX11_valueAfter cX11_valueAfter 5 (some .int) ∈ cm_all := cm_inT (cm_t9 _ (List.mem_of_getElem? (i := 147) (by decide +kernel))) rfl
theorem kl_RX11_394 : Cond.constantLong RX11 394 (10000) ∈ cm_all := cm_inT (cm_t9 _ (List.mem_of_getElem? (i := 148) (by decide +kernel))) rfl
theorem kl_RL_356 : Cond.methodLink RL 356 yX11_peakTemperature ∈ cm_all := cm_inT (cm_t9 _ (List.mem_of_getElem? (i := 149) (by decide +kernel))) rfl
theorem kv_X11_peakTemperature : Cond.instanceMethod yX11_peakTemperature ∈ cm_all := cm_inT (cm_t9 _ (List.mem_of_getElem? (i := 150) (by decide +kernel))) rfl
theorem kx_X11_peakTemperature : Cond.selects yX11_peakTemperature.cls yX11_peakTemperature yX11_peakTemperature ∈ cm_all := cm_inT (cm_t9 _ (List.mem_of_getElem? (i := 151) (by decide +kernel))) rfl
theorem kc_X11_peakTemperature : Cond.code yX11_peakTemperature cX11_peakTemperature 5 (some .int) ∈ cm_all := cm_inT (cm_t9 _ (List.mem_of_getElem? (i := 152) (by decide +kernel))) rfl
theorem kl_RL_359 : Cond.methodLink RL 359 yX11_settledIn ∈ cm_all := cm_inT (cm_t9 _ (List.mem_of_getElem? (i := 153) (by decide +kernel))) rfl
theorem kv_X11_settledIn : Cond.instanceMethod yX11_settledIn ∈ cm_all := cm_inT (cm_t9 _ (List.mem_of_getElem? (i := 154) (by decide +kernel))) rfl
theorem kx_X11_settledIn : Cond.selects yX11_settledIn.cls yX11_settledIn yX11_settledIn ∈ cm_all := cm_inT (cm_t9 _ (List.mem_of_getElem? (i := 155) (by decide +kernel))) rfl
theorem kc_X11_settledIn : Cond.code yX11_settledIn cX11_settledIn 3 (some .int) ∈ cm_all := cm_inT (cm_t9 _ (List.mem_of_getElem? (i := 156) (by decide +kernel))) rfl
theorem kl_RL_362 : Cond.methodLink RL 362 yX11_duration ∈ cm_all := cm_inT (cm_t9 _ (List.mem_of_getElem? (i := 157) (by decide +kernel))) rfl
theorem kv_X11_duration : Cond.instanceMethod yX11_duration ∈ cm_all := cm_inT (cm_t9 _ (List.mem_of_getElem? (i := 158) (by decide +kernel))) rfl
theorem kx_X11_duration : Cond.selects yX11_duration.cls yX11_duration yX11_duration ∈ cm_all := cm_inT (cm_t9 _ (List.mem_of_getElem? (i := 159) (by decide +kernel))) rfl
theorem kc_X11_duration : Cond.code yX11_duration cX11_duration 3 (some .int) ∈ cm_all := cm_inT (cm_t9 _ (List.mem_of_getElem? (i := 160) (by decide +kernel))) rfl
theorem kl_RX11_396 : Cond.methodLink RX11 396 yX11_durationOf ∈ cm_all := cm_inT (cm_t9 _ (List.mem_of_getElem? (i := 161) (by decide +kernel))) rfl
theorem kv_X11_durationOf : Cond.instanceMethod yX11_durationOf ∈ cm_all := cm_inT (cm_t9 _ (List.mem_of_getElem? (i := 163) (by decide +kernel))) rfl
theorem kc_X11_durationOf : Cond.code yX11_durationOf cX11_durationOf 4 (some .int) ∈ cm_all := cm_inT (cm_t9 _ (List.mem_of_getElem? (i := 164) (by decide +kernel))) rfl
theorem kl_RL_365 : Cond.methodLink RL 365 yX11_shortest ∈ cm_all := cm_inT (cm_t9 _ (List.mem_of_getElem? (i := 165) (by decide +kernel))) rfl
theorem kv_X11_shortest : Cond.instanceMethod yX11_shortest ∈ cm_all := cm_inT (cm_t9 _ (List.mem_of_getElem? (i := 166) (by decide +kernel))) rfl
theorem kx_X11_shortest : Cond.selects yX11_shortest.cls yX11_shortest yX11_shortest ∈ cm_all := cm_inT (cm_t9 _ (List.mem_of_getElem? (i := 167) (by decide +kernel))) rfl
theorem kc_X11_shortest : Cond.code yX11_shortest cX11_shortest 6 (some .int) ∈ cm_all := cm_inT (cm_t9 _ (List.mem_of_getElem? (i := 168) (by decide +kernel))) rfl
theorem kl_RL_368 : Cond.methodLink RL 368 yX11_capacityIf ∈ cm_all := cm_inT (cm_t9 _ (List.mem_of_getElem? (i := 169) (by decide +kernel))) rfl
theorem kv_X11_capacityIf : Cond.instanceMethod yX11_capacityIf ∈ cm_all := cm_inT (cm_t9 _ (List.mem_of_getElem? (i := 170) (by decide +kernel))) rfl
theorem kx_X11_capacityIf : Cond.selects yX11_capacityIf.cls yX11_capacityIf yX11_capacityIf ∈ cm_all := cm_inT (cm_t9 _ (List.mem_of_getElem? (i := 171) (by decide +kernel))) rfl
theorem kc_X11_capacityIf : Cond.code yX11_capacityIf cX11_capacityIf 5 (some .int) ∈ cm_all := cm_inT (cm_t9 _ (List.mem_of_getElem? (i := 172) (by decide +kernel))) rfl
theorem kl_RL_371 : Cond.methodLink RL 371 yX11_safeCurrent ∈ cm_all := cm_inT (cm_t9 _ (List.mem_of_getElem? (i := 173) (by decide +kernel))) rfl
theorem kv_X11_safeCurrent : Cond.instanceMethod yX11_safeCurrent ∈ cm_all := cm_inT (cm_t9 _ (List.mem_of_getElem? (i := 174) (by decide +kernel))) rfl
theorem kx_X11_safeCurrent : Cond.selects yX11_safeCurrent.cls yX11_safeCurrent yX11_safeCurrent ∈ cm_all := cm_inT (cm_t9 _ (List.mem_of_getElem? (i := 175) (by decide +kernel))) rfl
theorem kc_X11_safeCurrent : Cond.code yX11_safeCurrent cX11_safeCurrent 4 (some .int) ∈ cm_all := cm_inT (cm_t9 _ (List.mem_of_getElem? (i := 176) (by decide +kernel))) rfl
theorem kl_RX11_399 : Cond.methodLink RX11 399 yX11_isSafe ∈ cm_all := cm_inT (cm_t9 _ (List.mem_of_getElem? (i := 177) (by decide +kernel))) rfl
theorem kv_X11_isSafe : Cond.instanceMethod yX11_isSafe ∈ cm_all := cm_inT (cm_t9 _ (List.mem_of_getElem? (i := 179) (by decide +kernel))) rfl
theorem kc_X11_isSafe : Cond.code yX11_isSafe cX11_isSafe 6 (some .boolean) ∈ cm_all := cm_inT (cm_t9 _ (List.mem_of_getElem? (i := 180) (by decide +kernel))) rfl
theorem kl_RL_374 : Cond.methodLink RL 374 yX11_saveSnapshot ∈ cm_all := cm_inT (cm_t9 _ (List.mem_of_getElem? (i := 181) (by decide +kernel))) rfl
theorem kv_X11_saveSnapshot : Cond.instanceMethod yX11_saveSnapshot ∈ cm_all := cm_inT (cm_t9 _ (List.mem_of_getElem? (i := 182) (by decide +kernel))) rfl
theorem kx_X11_saveSnapshot : Cond.selects yX11_saveSnapshot.cls yX11_saveSnapshot yX11_saveSnapshot ∈ cm_all := cm_inT (cm_t9 _ (List.mem_of_getElem? (i := 183) (by decide +kernel))) rfl
theorem kc_X11_saveSnapshot : Cond.code yX11_saveSnapshot cX11_saveSnapshot 2 (some .int) ∈ cm_all := cm_inT (cm_t9 _ (List.mem_of_getElem? (i := 184) (by decide +kernel))) rfl
theorem kl_RX11_402 : Cond.methodLink RX11 402 yX11_noSlot ∈ cm_all := cm_inT (cm_t9 _ (List.mem_of_getElem? (i := 185) (by decide +kernel))) rfl
theorem kv_X11_noSlot : Cond.instanceMethod yX11_noSlot ∈ cm_all := cm_inT (cm_t9 _ (List.mem_of_getElem? (i := 187) (by decide +kernel))) rfl
theorem kc_X11_noSlot : Cond.code yX11_noSlot cX11_noSlot 2 (some .boolean) ∈ cm_all := cm_inT (cm_t9 _ (List.mem_of_getElem? (i := 188) (by decide +kernel))) rfl
theorem kl_RL_377 : Cond.methodLink RL 377 yX11_restoreSnapshot ∈ cm_all := cm_inT (cm_t9 _ (List.mem_of_getElem? (i := 189) (by decide +kernel))) rfl
theorem kv_X11_restoreSnapshot : Cond.instanceMethod yX11_restoreSnapshot ∈ cm_all := cm_inT (cm_t9 _ (List.mem_of_getElem? (i := 190) (by decide +kernel))) rfl
theorem kx_X11_restoreSnapshot : Cond.selects yX11_restoreSnapshot.cls yX11_restoreSnapshot yX11_restoreSnapshot ∈ cm_all := cm_inT (cm_t9 _ (List.mem_of_getElem? (i := 191) (by decide +kernel))) rfl
theorem kc_X11_restoreSnapshot : Cond.code yX11_restoreSnapshot cX11_restoreSnapshot 2 (some .int) ∈ cm_all := cm_inT (cm_t9 _ (List.mem_of_getElem? (i := 192) (by decide +kernel))) rfl
theorem kl_RL_176 : Cond.constantLong RL 176 (4294967295) ∈ cm_all := cm_inT (cm_t9 _ (List.mem_of_getElem? (i := 193) (by decide +kernel))) rfl
theorem ka_double : Cond.arrayClass .double ∈ cm_all := cm_inT (cm_t9 _ (List.mem_of_getElem? (i := 194) (by decide +kernel))) rfl
theorem kl_RJ0_9 : Cond.fieldLink RJ0 9 "java/lang/String" "value" "[B" ∈ cm_all := cm_inT (cm_t9 _ (List.mem_of_getElem? (i := 196) (by decide +kernel))) rfl
theorem kl_RJ0_15 : Cond.fieldLink RJ0 15 "java/lang/String" "coder" "B" ∈ cm_all := cm_inT (cm_t9 _ (List.mem_of_getElem? (i := 197) (by decide +kernel))) rfl
theorem kx_X7_clear : Cond.selects yX7_clear.cls yX7_clear yX7_clear ∈ cm_all := cm_sel (q := (yX7_clear, 12)) (cm_p1 _ (List.mem_of_getElem? (i := 0) (by decide +kernel)))
theorem kx_X9_clear : Cond.selects yX9_clear.cls yX9_clear yX9_clear ∈ cm_all := cm_sel (q := (yX9_clear, 8)) (cm_p1 _ (List.mem_of_getElem? (i := 1) (by decide +kernel)))
theorem kx_X8_clear : Cond.selects yX8_clear.cls yX8_clear yX8_clear ∈ cm_all := cm_sel (q := (yX8_clear, 5)) (cm_p1 _ (List.mem_of_getElem? (i := 2) (by decide +kernel)))
theorem kx_X6_readText : Cond.selects yX6_readText.cls yX6_readText yX6_readText ∈ cm_all := cm_sel (q := (yX6_readText, 7)) (cm_p1 _ (List.mem_of_getElem? (i := 3) (by decide +kernel)))
theorem kx_X6_readWord : Cond.selects yX6_readWord.cls yX6_readWord yX6_readWord ∈ cm_all := cm_sel (q := (yX6_readWord, 7)) (cm_p1 _ (List.mem_of_getElem? (i := 4) (by decide +kernel)))
theorem kx_X6_skipSpaces : Cond.selects yX6_skipSpaces.cls yX6_skipSpaces yX6_skipSpaces ∈ cm_all := cm_sel (q := (yX6_skipSpaces, 7)) (cm_p1 _ (List.mem_of_getElem? (i := 5) (by decide +kernel)))
theorem kx_X6_next : Cond.selects yX6_next.cls yX6_next yX6_next ∈ cm_all := cm_sel (q := (yX6_next, 7)) (cm_p1 _ (List.mem_of_getElem? (i := 6) (by decide +kernel)))
theorem kx_X6_fail : Cond.selects yX6_fail.cls yX6_fail yX6_fail ∈ cm_all := cm_sel (q := (yX6_fail, 7)) (cm_p1 _ (List.mem_of_getElem? (i := 7) (by decide +kernel)))
theorem kx_X6_wordIs : Cond.selects yX6_wordIs.cls yX6_wordIs yX6_wordIs ∈ cm_all := cm_sel (q := (yX6_wordIs, 7)) (cm_p1 _ (List.mem_of_getElem? (i := 8) (by decide +kernel)))
theorem kx_X6_readCurve : Cond.selects yX6_readCurve.cls yX6_readCurve yX6_readCurve ∈ cm_all := cm_sel (q := (yX6_readCurve, 7)) (cm_p1 _ (List.mem_of_getElem? (i := 9) (by decide +kernel)))
theorem kx_X2_find : Cond.selects yX2_find.cls yX2_find yX2_find ∈ cm_all := cm_sel (q := (yX2_find, 4)) (cm_p1 _ (List.mem_of_getElem? (i := 10) (by decide +kernel)))
theorem kx_X2_add : Cond.selects yX2_add.cls yX2_add yX2_add ∈ cm_all := cm_sel (q := (yX2_add, 4)) (cm_p1 _ (List.mem_of_getElem? (i := 11) (by decide +kernel)))
theorem kx_X6_readNumber : Cond.selects yX6_readNumber.cls yX6_readNumber yX6_readNumber ∈ cm_all := cm_sel (q := (yX6_readNumber, 7)) (cm_p1 _ (List.mem_of_getElem? (i := 12) (by decide +kernel)))
theorem kx_X2_addVoltageToLast : Cond.selects yX2_addVoltageToLast.cls yX2_addVoltageToLast yX2_addVoltageToLast ∈ cm_all := cm_sel (q := (yX2_addVoltageToLast, 4)) (cm_p1 _ (List.mem_of_getElem? (i := 13) (by decide +kernel)))
theorem kx_X6_readCell : Cond.selects yX6_readCell.cls yX6_readCell yX6_readCell ∈ cm_all := cm_sel (q := (yX6_readCell, 7)) (cm_p1 _ (List.mem_of_getElem? (i := 14) (by decide +kernel)))
theorem kx_X9_channelAt : Cond.selects yX9_channelAt.cls yX9_channelAt yX9_channelAt ∈ cm_all := cm_sel (q := (yX9_channelAt, 8)) (cm_p1 _ (List.mem_of_getElem? (i := 15) (by decide +kernel)))
theorem kx_X0_takeCurve : Cond.selects yX0_takeCurve.cls yX0_takeCurve yX0_takeCurve ∈ cm_all := cm_sel (q := (yX0_takeCurve, 16)) (cm_p2 _ (List.mem_of_getElem? (i := 0) (by decide +kernel)))
theorem kx_X2_voltageOf : Cond.selects yX2_voltageOf.cls yX2_voltageOf yX2_voltageOf ∈ cm_all := cm_sel (q := (yX2_voltageOf, 4)) (cm_p2 _ (List.mem_of_getElem? (i := 1) (by decide +kernel)))
theorem kx_X6_readProgram : Cond.selects yX6_readProgram.cls yX6_readProgram yX6_readProgram ∈ cm_all := cm_sel (q := (yX6_readProgram, 7)) (cm_p2 _ (List.mem_of_getElem? (i := 2) (by decide +kernel)))
theorem kx_X5_add : Cond.selects yX5_add.cls yX5_add yX5_add ∈ cm_all := cm_sel (q := (yX5_add, 5)) (cm_p2 _ (List.mem_of_getElem? (i := 3) (by decide +kernel)))
theorem kx_X6_readStep : Cond.selects yX6_readStep.cls yX6_readStep yX6_readStep ∈ cm_all := cm_sel (q := (yX6_readStep, 7)) (cm_p2 _ (List.mem_of_getElem? (i := 4) (by decide +kernel)))
theorem kx_X5_addStepToLast : Cond.selects yX5_addStepToLast.cls yX5_addStepToLast yX5_addStepToLast ∈ cm_all := cm_sel (q := (yX5_addStepToLast, 5)) (cm_p2 _ (List.mem_of_getElem? (i := 5) (by decide +kernel)))
theorem kx_X6_readSetting : Cond.selects yX6_readSetting.cls yX6_readSetting yX6_readSetting ∈ cm_all := cm_sel (q := (yX6_readSetting, 7)) (cm_p2 _ (List.mem_of_getElem? (i := 6) (by decide +kernel)))
theorem kx_X9_insertCells : Cond.selects yX9_insertCells.cls yX9_insertCells yX9_insertCells ∈ cm_all := cm_sel (q := (yX9_insertCells, 8)) (cm_p2 _ (List.mem_of_getElem? (i := 7) (by decide +kernel)))
theorem kx_X1_insertCell : Cond.selects yX1_insertCell.cls yX1_insertCell yX1_insertCell ∈ cm_all := cm_sel (q := (yX1_insertCell, 14)) (cm_p2 _ (List.mem_of_getElem? (i := 8) (by decide +kernel)))
theorem kx_X0_renew : Cond.selects yX0_renew.cls yX0_renew yX0_renew ∈ cm_all := cm_sel (q := (yX0_renew, 16)) (cm_p2 _ (List.mem_of_getElem? (i := 9) (by decide +kernel)))
theorem kx_X3_clear : Cond.selects yX3_clear.cls yX3_clear yX3_clear ∈ cm_all := cm_sel (q := (yX3_clear, 4)) (cm_p2 _ (List.mem_of_getElem? (i := 10) (by decide +kernel)))
theorem kx_X4_clear : Cond.selects yX4_clear.cls yX4_clear yX4_clear ∈ cm_all := cm_sel (q := (yX4_clear, 7)) (cm_p2 _ (List.mem_of_getElem? (i := 11) (by decide +kernel)))
theorem kx_X9_copyFrom : Cond.selects yX9_copyFrom.cls yX9_copyFrom yX9_copyFrom ∈ cm_all := cm_sel (q := (yX9_copyFrom, 8)) (cm_p2 _ (List.mem_of_getElem? (i := 12) (by decide +kernel)))
theorem kx_X7_copyFrom : Cond.selects yX7_copyFrom.cls yX7_copyFrom yX7_copyFrom ∈ cm_all := cm_sel (q := (yX7_copyFrom, 12)) (cm_p2 _ (List.mem_of_getElem? (i := 13) (by decide +kernel)))
theorem kx_X2_copyFrom : Cond.selects yX2_copyFrom.cls yX2_copyFrom yX2_copyFrom ∈ cm_all := cm_sel (q := (yX2_copyFrom, 4)) (cm_p2 _ (List.mem_of_getElem? (i := 14) (by decide +kernel)))
theorem kx_X5_copyFrom : Cond.selects yX5_copyFrom.cls yX5_copyFrom yX5_copyFrom ∈ cm_all := cm_sel (q := (yX5_copyFrom, 5)) (cm_p2 _ (List.mem_of_getElem? (i := 15) (by decide +kernel)))
theorem kx_X1_copyFrom : Cond.selects yX1_copyFrom.cls yX1_copyFrom yX1_copyFrom ∈ cm_all := cm_sel (q := (yX1_copyFrom, 14)) (cm_p3 _ (List.mem_of_getElem? (i := 0) (by decide +kernel)))
theorem kx_X0_copyFrom : Cond.selects yX0_copyFrom.cls yX0_copyFrom yX0_copyFrom ∈ cm_all := cm_sel (q := (yX0_copyFrom, 16)) (cm_p3 _ (List.mem_of_getElem? (i := 1) (by decide +kernel)))
theorem kx_X3_copyFrom : Cond.selects yX3_copyFrom.cls yX3_copyFrom yX3_copyFrom ∈ cm_all := cm_sel (q := (yX3_copyFrom, 4)) (cm_p3 _ (List.mem_of_getElem? (i := 2) (by decide +kernel)))
theorem kx_X4_copyFrom : Cond.selects yX4_copyFrom.cls yX4_copyFrom yX4_copyFrom ∈ cm_all := cm_sel (q := (yX4_copyFrom, 7)) (cm_p3 _ (List.mem_of_getElem? (i := 3) (by decide +kernel)))
theorem kx_X8_copyFrom : Cond.selects yX8_copyFrom.cls yX8_copyFrom yX8_copyFrom ∈ cm_all := cm_sel (q := (yX8_copyFrom, 5)) (cm_p3 _ (List.mem_of_getElem? (i := 4) (by decide +kernel)))
theorem kx_X10_needProgram : Cond.selects yX10_needProgram.cls yX10_needProgram yX10_needProgram ∈ cm_all := cm_sel (q := (yX10_needProgram, 6)) (cm_p3 _ (List.mem_of_getElem? (i := 6) (by decide +kernel)))
theorem kx_X5_stepsOf : Cond.selects yX5_stepsOf.cls yX5_stepsOf yX5_stepsOf ∈ cm_all := cm_sel (q := (yX5_stepsOf, 5)) (cm_p3 _ (List.mem_of_getElem? (i := 7) (by decide +kernel)))
theorem kx_X5_kindOf : Cond.selects yX5_kindOf.cls yX5_kindOf yX5_kindOf ∈ cm_all := cm_sel (q := (yX5_kindOf, 5)) (cm_p3 _ (List.mem_of_getElem? (i := 8) (by decide +kernel)))
theorem kx_X5_firstOf : Cond.selects yX5_firstOf.cls yX5_firstOf yX5_firstOf ∈ cm_all := cm_sel (q := (yX5_firstOf, 5)) (cm_p3 _ (List.mem_of_getElem? (i := 9) (by decide +kernel)))
theorem kx_X5_secondOf : Cond.selects yX5_secondOf.cls yX5_secondOf yX5_secondOf ∈ cm_all := cm_sel (q := (yX5_secondOf, 5)) (cm_p3 _ (List.mem_of_getElem? (i := 10) (by decide +kernel)))
theorem kx_X1_passTick : Cond.selects yX1_passTick.cls yX1_passTick yX1_passTick ∈ cm_all := cm_sel (q := (yX1_passTick, 14)) (cm_p3 _ (List.mem_of_getElem? (i := 11) (by decide +kernel)))
theorem kx_X1_wantedCurrent : Cond.selects yX1_wantedCurrent.cls yX1_wantedCurrent yX1_wantedCurrent ∈ cm_all := cm_sel (q := (yX1_wantedCurrent, 14)) (cm_p3 _ (List.mem_of_getElem? (i := 12) (by decide +kernel)))
theorem kx_X0_holding : Cond.selects yX0_holding.cls yX0_holding yX0_holding ∈ cm_all := cm_sel (q := (yX0_holding, 16)) (cm_p3 _ (List.mem_of_getElem? (i := 13) (by decide +kernel)))
theorem kx_X0_restVoltageAt : Cond.selects yX0_restVoltageAt.cls yX0_restVoltageAt yX0_restVoltageAt ∈ cm_all := cm_sel (q := (yX0_restVoltageAt, 16)) (cm_p3 _ (List.mem_of_getElem? (i := 14) (by decide +kernel)))
theorem kx_X0_allowed : Cond.selects yX0_allowed.cls yX0_allowed yX0_allowed ∈ cm_all := cm_sel (q := (yX0_allowed, 16)) (cm_p3 _ (List.mem_of_getElem? (i := 15) (by decide +kernel)))
theorem kx_X0_passCurrent : Cond.selects yX0_passCurrent.cls yX0_passCurrent yX0_passCurrent ∈ cm_all := cm_sel (q := (yX0_passCurrent, 16)) (cm_p4 _ (List.mem_of_getElem? (i := 0) (by decide +kernel)))
theorem kx_X0_polarize : Cond.selects yX0_polarize.cls yX0_polarize yX0_polarize ∈ cm_all := cm_sel (q := (yX0_polarize, 16)) (cm_p4 _ (List.mem_of_getElem? (i := 1) (by decide +kernel)))
theorem kx_X0_moveCharge : Cond.selects yX0_moveCharge.cls yX0_moveCharge yX0_moveCharge ∈ cm_all := cm_sel (q := (yX0_moveCharge, 16)) (cm_p4 _ (List.mem_of_getElem? (i := 2) (by decide +kernel)))
theorem kx_X0_wear : Cond.selects yX0_wear.cls yX0_wear yX0_wear ∈ cm_all := cm_sel (q := (yX0_wear, 16)) (cm_p4 _ (List.mem_of_getElem? (i := 3) (by decide +kernel)))
theorem kx_X0_warm : Cond.selects yX0_warm.cls yX0_warm yX0_warm ∈ cm_all := cm_sel (q := (yX0_warm, 16)) (cm_p4 _ (List.mem_of_getElem? (i := 4) (by decide +kernel)))
theorem kx_X0_thousandths : Cond.selects yX0_thousandths.cls yX0_thousandths yX0_thousandths ∈ cm_all := cm_sel (q := (yX0_thousandths, 16)) (cm_p4 _ (List.mem_of_getElem? (i := 5) (by decide +kernel)))
theorem kx_X4_countFilling : Cond.selects yX4_countFilling.cls yX4_countFilling yX4_countFilling ∈ cm_all := cm_sel (q := (yX4_countFilling, 7)) (cm_p4 _ (List.mem_of_getElem? (i := 6) (by decide +kernel)))
theorem kx_X1_warn : Cond.selects yX1_warn.cls yX1_warn yX1_warn ∈ cm_all := cm_sel (q := (yX1_warn, 14)) (cm_p4 _ (List.mem_of_getElem? (i := 7) (by decide +kernel)))
theorem kx_X9_note : Cond.selects yX9_note.cls yX9_note yX9_note ∈ cm_all := cm_sel (q := (yX9_note, 8)) (cm_p4 _ (List.mem_of_getElem? (i := 8) (by decide +kernel)))
theorem kx_X8_addRow : Cond.selects yX8_addRow.cls yX8_addRow yX8_addRow ∈ cm_all := cm_sel (q := (yX8_addRow, 5)) (cm_p4 _ (List.mem_of_getElem? (i := 9) (by decide +kernel)))
theorem kx_X8_placeOf : Cond.selects yX8_placeOf.cls yX8_placeOf yX8_placeOf ∈ cm_all := cm_sel (q := (yX8_placeOf, 5)) (cm_p4 _ (List.mem_of_getElem? (i := 10) (by decide +kernel)))
theorem kx_X1_stepEnds : Cond.selects yX1_stepEnds.cls yX1_stepEnds yX1_stepEnds ∈ cm_all := cm_sel (q := (yX1_stepEnds, 14)) (cm_p4 _ (List.mem_of_getElem? (i := 11) (by decide +kernel)))
theorem kx_X1_tripReason : Cond.selects yX1_tripReason.cls yX1_tripReason yX1_tripReason ∈ cm_all := cm_sel (q := (yX1_tripReason, 14)) (cm_p4 _ (List.mem_of_getElem? (i := 12) (by decide +kernel)))
theorem kx_X1_trip : Cond.selects yX1_trip.cls yX1_trip yX1_trip ∈ cm_all := cm_sel (q := (yX1_trip, 14)) (cm_p4 _ (List.mem_of_getElem? (i := 13) (by decide +kernel)))
theorem kx_X1_measureEnd : Cond.selects yX1_measureEnd.cls yX1_measureEnd yX1_measureEnd ∈ cm_all := cm_sel (q := (yX1_measureEnd, 14)) (cm_p4 _ (List.mem_of_getElem? (i := 14) (by decide +kernel)))
theorem kx_X1_makeRecord : Cond.selects yX1_makeRecord.cls yX1_makeRecord yX1_makeRecord ∈ cm_all := cm_sel (q := (yX1_makeRecord, 14)) (cm_p4 _ (List.mem_of_getElem? (i := 15) (by decide +kernel)))
theorem kx_X1_countFromHere : Cond.selects yX1_countFromHere.cls yX1_countFromHere yX1_countFromHere ∈ cm_all := cm_sel (q := (yX1_countFromHere, 14)) (cm_p5 _ (List.mem_of_getElem? (i := 0) (by decide +kernel)))
theorem kx_X1_leaveStep : Cond.selects yX1_leaveStep.cls yX1_leaveStep yX1_leaveStep ∈ cm_all := cm_sel (q := (yX1_leaveStep, 14)) (cm_p5 _ (List.mem_of_getElem? (i := 1) (by decide +kernel)))
theorem kx_X1_stepBehind : Cond.selects yX1_stepBehind.cls yX1_stepBehind yX1_stepBehind ∈ cm_all := cm_sel (q := (yX1_stepBehind, 14)) (cm_p5 _ (List.mem_of_getElem? (i := 2) (by decide +kernel)))
theorem kx_X1_enterStep : Cond.selects yX1_enterStep.cls yX1_enterStep yX1_enterStep ∈ cm_all := cm_sel (q := (yX1_enterStep, 14)) (cm_p5 _ (List.mem_of_getElem? (i := 3) (by decide +kernel)))
theorem kx_X1_takeWaiting : Cond.selects yX1_takeWaiting.cls yX1_takeWaiting yX1_takeWaiting ∈ cm_all := cm_sel (q := (yX1_takeWaiting, 14)) (cm_p5 _ (List.mem_of_getElem? (i := 4) (by decide +kernel)))
theorem kx_X1_begin : Cond.selects yX1_begin.cls yX1_begin yX1_begin ∈ cm_all := cm_sel (q := (yX1_begin, 14)) (cm_p5 _ (List.mem_of_getElem? (i := 5) (by decide +kernel)))
theorem kx_X10_needChannel : Cond.selects yX10_needChannel.cls yX10_needChannel yX10_needChannel ∈ cm_all := cm_sel (q := (yX10_needChannel, 6)) (cm_p5 _ (List.mem_of_getElem? (i := 6) (by decide +kernel)))
theorem kx_X1_isFree : Cond.selects yX1_isFree.cls yX1_isFree yX1_isFree ∈ cm_all := cm_sel (q := (yX1_isFree, 14)) (cm_p5 _ (List.mem_of_getElem? (i := 7) (by decide +kernel)))
theorem kx_X9_channelsIn : Cond.selects yX9_channelsIn.cls yX9_channelsIn yX9_channelsIn ∈ cm_all := cm_sel (q := (yX9_channelsIn, 8)) (cm_p5 _ (List.mem_of_getElem? (i := 8) (by decide +kernel)))
theorem kx_X1_number : Cond.selects yX1_number.cls yX1_number yX1_number ∈ cm_all := cm_sel (q := (yX1_number, 14)) (cm_p5 _ (List.mem_of_getElem? (i := 9) (by decide +kernel)))
theorem kx_X0_smallestChargeFor : Cond.selects yX0_smallestChargeFor.cls yX0_smallestChargeFor yX0_smallestChargeFor ∈ cm_all := cm_sel (q := (yX0_smallestChargeFor, 16)) (cm_p5 _ (List.mem_of_getElem? (i := 10) (by decide +kernel)))
theorem kx_X8_get : Cond.selects yX8_get.cls yX8_get yX8_get ∈ cm_all := cm_sel (q := (yX8_get, 5)) (cm_p5 _ (List.mem_of_getElem? (i := 11) (by decide +kernel)))
theorem kx_X9_recordCounts : Cond.selects yX9_recordCounts.cls yX9_recordCounts yX9_recordCounts ∈ cm_all := cm_sel (q := (yX9_recordCounts, 8)) (cm_p5 _ (List.mem_of_getElem? (i := 12) (by decide +kernel)))
theorem kx_X10_needTrial : Cond.selects yX10_needTrial.cls yX10_needTrial yX10_needTrial ∈ cm_all := cm_sel (q := (yX10_needTrial, 6)) (cm_p5 _ (List.mem_of_getElem? (i := 13) (by decide +kernel)))
theorem kx_X10_ticksUntil : Cond.selects yX10_ticksUntil.cls yX10_ticksUntil yX10_ticksUntil ∈ cm_all := cm_sel (q := (yX10_ticksUntil, 6)) (cm_p5 _ (List.mem_of_getElem? (i := 14) (by decide +kernel)))
theorem kx_X10_needTrialOf : Cond.selects yX10_needTrialOf.cls yX10_needTrialOf yX10_needTrialOf ∈ cm_all := cm_sel (q := (yX10_needTrialOf, 6)) (cm_p5 _ (List.mem_of_getElem? (i := 15) (by decide +kernel)))
theorem kx_X10_isSafe : Cond.selects yX10_isSafe.cls yX10_isSafe yX10_isSafe ∈ cm_all := cm_sel (q := (yX10_isSafe, 6)) (cm_p6 _ (List.mem_of_getElem? (i := 0) (by decide +kernel)))
theorem kx_X10_savedAt : Cond.selects yX10_savedAt.cls yX10_savedAt yX10_savedAt ∈ cm_all := cm_sel (q := (yX10_savedAt, 6)) (cm_p6 _ (List.mem_of_getElem? (i := 1) (by decide +kernel)))
theorem kx_X10_keepAt : Cond.selects yX10_keepAt.cls yX10_keepAt yX10_keepAt ∈ cm_all := cm_sel (q := (yX10_keepAt, 6)) (cm_p6 _ (List.mem_of_getElem? (i := 2) (by decide +kernel)))
theorem kx_X11_readsAll : Cond.selects yX11_readsAll.cls yX11_readsAll yX11_readsAll ∈ cm_all := cm_sel (q := (yX11_readsAll, 19)) (cm_p6 _ (List.mem_of_getElem? (i := 3) (by decide +kernel)))
theorem kx_X11_readStatement : Cond.selects yX11_readStatement.cls yX11_readStatement yX11_readStatement ∈ cm_all := cm_sel (q := (yX11_readStatement, 19)) (cm_p6 _ (List.mem_of_getElem? (i := 4) (by decide +kernel)))
theorem kx_X11_see : Cond.selects yX11_see.cls yX11_see yX11_see ∈ cm_all := cm_sel (q := (yX11_see, 19)) (cm_p6 _ (List.mem_of_getElem? (i := 5) (by decide +kernel)))
theorem kx_X11_byteAt : Cond.selects yX11_byteAt.cls yX11_byteAt yX11_byteAt ∈ cm_all := cm_sel (q := (yX11_byteAt, 19)) (cm_p6 _ (List.mem_of_getElem? (i := 6) (by decide +kernel)))
theorem kx_X11_isWord : Cond.selects yX11_isWord.cls yX11_isWord yX11_isWord ∈ cm_all := cm_sel (q := (yX11_isWord, 19)) (cm_p6 _ (List.mem_of_getElem? (i := 7) (by decide +kernel)))
theorem kx_X11_wordEnd : Cond.selects yX11_wordEnd.cls yX11_wordEnd yX11_wordEnd ∈ cm_all := cm_sel (q := (yX11_wordEnd, 19)) (cm_p6 _ (List.mem_of_getElem? (i := 8) (by decide +kernel)))
theorem kx_X11_isLetter : Cond.selects yX11_isLetter.cls yX11_isLetter yX11_isLetter ∈ cm_all := cm_sel (q := (yX11_isLetter, 19)) (cm_p6 _ (List.mem_of_getElem? (i := 9) (by decide +kernel)))
theorem kx_X11_readCurve : Cond.selects yX11_readCurve.cls yX11_readCurve yX11_readCurve ∈ cm_all := cm_sel (q := (yX11_readCurve, 19)) (cm_p6 _ (List.mem_of_getElem? (i := 10) (by decide +kernel)))
theorem kx_X11_fails : Cond.selects yX11_fails.cls yX11_fails yX11_fails ∈ cm_all := cm_sel (q := (yX11_fails, 19)) (cm_p6 _ (List.mem_of_getElem? (i := 11) (by decide +kernel)))
theorem kx_X11_passes : Cond.selects yX11_passes.cls yX11_passes yX11_passes ∈ cm_all := cm_sel (q := (yX11_passes, 19)) (cm_p6 _ (List.mem_of_getElem? (i := 12) (by decide +kernel)))
theorem kx_X11_readName : Cond.selects yX11_readName.cls yX11_readName yX11_readName ∈ cm_all := cm_sel (q := (yX11_readName, 19)) (cm_p6 _ (List.mem_of_getElem? (i := 13) (by decide +kernel)))
theorem kx_X11_named : Cond.selects yX11_named.cls yX11_named yX11_named ∈ cm_all := cm_sel (q := (yX11_named, 19)) (cm_p6 _ (List.mem_of_getElem? (i := 14) (by decide +kernel)))
theorem kx_X11_isNamed : Cond.selects yX11_isNamed.cls yX11_isNamed yX11_isNamed ∈ cm_all := cm_sel (q := (yX11_isNamed, 19)) (cm_p6 _ (List.mem_of_getElem? (i := 15) (by decide +kernel)))
theorem kx_X11_reads : Cond.selects yX11_reads.cls yX11_reads yX11_reads ∈ cm_all := cm_sel (q := (yX11_reads, 19)) (cm_p7 _ (List.mem_of_getElem? (i := 0) (by decide +kernel)))
theorem kx_X11_isDigit : Cond.selects yX11_isDigit.cls yX11_isDigit yX11_isDigit ∈ cm_all := cm_sel (q := (yX11_isDigit, 19)) (cm_p7 _ (List.mem_of_getElem? (i := 1) (by decide +kernel)))
theorem kx_X11_readCell : Cond.selects yX11_readCell.cls yX11_readCell yX11_readCell ∈ cm_all := cm_sel (q := (yX11_readCell, 19)) (cm_p7 _ (List.mem_of_getElem? (i := 2) (by decide +kernel)))
theorem kx_X11_readProgram : Cond.selects yX11_readProgram.cls yX11_readProgram yX11_readProgram ∈ cm_all := cm_sel (q := (yX11_readProgram, 19)) (cm_p7 _ (List.mem_of_getElem? (i := 3) (by decide +kernel)))
theorem kx_X11_readStep : Cond.selects yX11_readStep.cls yX11_readStep yX11_readStep ∈ cm_all := cm_sel (q := (yX11_readStep, 19)) (cm_p7 _ (List.mem_of_getElem? (i := 4) (by decide +kernel)))
theorem kx_X11_throwsIf : Cond.selects yX11_throwsIf.cls yX11_throwsIf yX11_throwsIf ∈ cm_all := cm_sel (q := (yX11_throwsIf, 19)) (cm_p7 _ (List.mem_of_getElem? (i := 5) (by decide +kernel)))
theorem kx_X11_of : Cond.selects yX11_of.cls yX11_of yX11_of ∈ cm_all := cm_sel (q := (yX11_of, 19)) (cm_p7 _ (List.mem_of_getElem? (i := 6) (by decide +kernel)))
theorem kx_X11_stepsOf : Cond.selects yX11_stepsOf.cls yX11_stepsOf yX11_stepsOf ∈ cm_all := cm_sel (q := (yX11_stepsOf, 19)) (cm_p7 _ (List.mem_of_getElem? (i := 7) (by decide +kernel)))
theorem kx_X11_stepOf : Cond.selects yX11_stepOf.cls yX11_stepOf yX11_stepOf ∈ cm_all := cm_sel (q := (yX11_stepOf, 19)) (cm_p7 _ (List.mem_of_getElem? (i := 8) (by decide +kernel)))
theorem kx_X11_ticks : Cond.selects yX11_ticks.cls yX11_ticks yX11_ticks ∈ cm_all := cm_sel (q := (yX11_ticks, 19)) (cm_p7 _ (List.mem_of_getElem? (i := 9) (by decide +kernel)))
theorem kx_X11_goes : Cond.selects yX11_goes.cls yX11_goes yX11_goes ∈ cm_all := cm_sel (q := (yX11_goes, 19)) (cm_p7 _ (List.mem_of_getElem? (i := 10) (by decide +kernel)))
theorem kx_X11_currentOf : Cond.selects yX11_currentOf.cls yX11_currentOf yX11_currentOf ∈ cm_all := cm_sel (q := (yX11_currentOf, 19)) (cm_p7 _ (List.mem_of_getElem? (i := 11) (by decide +kernel)))
theorem kx_X11_wantedOf : Cond.selects yX11_wantedOf.cls yX11_wantedOf yX11_wantedOf ∈ cm_all := cm_sel (q := (yX11_wantedOf, 19)) (cm_p7 _ (List.mem_of_getElem? (i := 12) (by decide +kernel)))
theorem kx_X11_step : Cond.selects yX11_step.cls yX11_step yX11_step ∈ cm_all := cm_sel (q := (yX11_step, 19)) (cm_p7 _ (List.mem_of_getElem? (i := 13) (by decide +kernel)))
theorem kx_X11_restAt : Cond.selects yX11_restAt.cls yX11_restAt yX11_restAt ∈ cm_all := cm_sel (q := (yX11_restAt, 19)) (cm_p7 _ (List.mem_of_getElem? (i := 14) (by decide +kernel)))
theorem kx_X11_voltsMany : Cond.selects yX11_voltsMany.cls yX11_voltsMany yX11_voltsMany ∈ cm_all := cm_sel (q := (yX11_voltsMany, 19)) (cm_p7 _ (List.mem_of_getElem? (i := 15) (by decide +kernel)))
theorem kx_X11_volts : Cond.selects yX11_volts.cls yX11_volts yX11_volts ∈ cm_all := cm_sel (q := (yX11_volts, 19)) (cm_p8 _ (List.mem_of_getElem? (i := 0) (by decide +kernel)))
theorem kx_X11_flows : Cond.selects yX11_flows.cls yX11_flows yX11_flows ∈ cm_all := cm_sel (q := (yX11_flows, 19)) (cm_p8 _ (List.mem_of_getElem? (i := 1) (by decide +kernel)))
theorem kx_X11_polarizes : Cond.selects yX11_polarizes.cls yX11_polarizes yX11_polarizes ∈ cm_all := cm_sel (q := (yX11_polarizes, 19)) (cm_p8 _ (List.mem_of_getElem? (i := 2) (by decide +kernel)))
theorem kx_X11_put : Cond.selects yX11_put.cls yX11_put yX11_put ∈ cm_all := cm_sel (q := (yX11_put, 19)) (cm_p8 _ (List.mem_of_getElem? (i := 3) (by decide +kernel)))
theorem kx_X11_moves : Cond.selects yX11_moves.cls yX11_moves yX11_moves ∈ cm_all := cm_sel (q := (yX11_moves, 19)) (cm_p8 _ (List.mem_of_getElem? (i := 4) (by decide +kernel)))
theorem kx_X11_adds : Cond.selects yX11_adds.cls yX11_adds yX11_adds ∈ cm_all := cm_sel (q := (yX11_adds, 19)) (cm_p8 _ (List.mem_of_getElem? (i := 5) (by decide +kernel)))
theorem kx_X11_fades : Cond.selects yX11_fades.cls yX11_fades yX11_fades ∈ cm_all := cm_sel (q := (yX11_fades, 19)) (cm_p8 _ (List.mem_of_getElem? (i := 6) (by decide +kernel)))
theorem kx_X11_warms : Cond.selects yX11_warms.cls yX11_warms yX11_warms ∈ cm_all := cm_sel (q := (yX11_warms, 19)) (cm_p8 _ (List.mem_of_getElem? (i := 7) (by decide +kernel)))
theorem kx_X11_filled : Cond.selects yX11_filled.cls yX11_filled yX11_filled ∈ cm_all := cm_sel (q := (yX11_filled, 19)) (cm_p8 _ (List.mem_of_getElem? (i := 8) (by decide +kernel)))
theorem kx_X11_warns : Cond.selects yX11_warns.cls yX11_warns yX11_warns ∈ cm_all := cm_sel (q := (yX11_warns, 19)) (cm_p8 _ (List.mem_of_getElem? (i := 9) (by decide +kernel)))
theorem kx_X11_warningNow : Cond.selects yX11_warningNow.cls yX11_warningNow yX11_warningNow ∈ cm_all := cm_sel (q := (yX11_warningNow, 19)) (cm_p8 _ (List.mem_of_getElem? (i := 10) (by decide +kernel)))
theorem kx_X11_notes : Cond.selects yX11_notes.cls yX11_notes yX11_notes ∈ cm_all := cm_sel (q := (yX11_notes, 19)) (cm_p8 _ (List.mem_of_getElem? (i := 11) (by decide +kernel)))
theorem kx_X11_watches : Cond.selects yX11_watches.cls yX11_watches yX11_watches ∈ cm_all := cm_sel (q := (yX11_watches, 19)) (cm_p8 _ (List.mem_of_getElem? (i := 12) (by decide +kernel)))
theorem kx_X11_reasonNow : Cond.selects yX11_reasonNow.cls yX11_reasonNow yX11_reasonNow ∈ cm_all := cm_sel (q := (yX11_reasonNow, 19)) (cm_p8 _ (List.mem_of_getElem? (i := 13) (by decide +kernel)))
theorem kx_X11_isOver : Cond.selects yX11_isOver.cls yX11_isOver yX11_isOver ∈ cm_all := cm_sel (q := (yX11_isOver, 19)) (cm_p8 _ (List.mem_of_getElem? (i := 14) (by decide +kernel)))
theorem kx_X11_ends : Cond.selects yX11_ends.cls yX11_ends yX11_ends ∈ cm_all := cm_sel (q := (yX11_ends, 19)) (cm_p8 _ (List.mem_of_getElem? (i := 15) (by decide +kernel)))
theorem kx_X11_records : Cond.selects yX11_records.cls yX11_records yX11_records ∈ cm_all := cm_sel (q := (yX11_records, 19)) (cm_p9 _ (List.mem_of_getElem? (i := 0) (by decide +kernel)))
theorem kx_X11_sum : Cond.selects yX11_sum.cls yX11_sum yX11_sum ∈ cm_all := cm_sel (q := (yX11_sum, 19)) (cm_p9 _ (List.mem_of_getElem? (i := 1) (by decide +kernel)))
theorem kx_X11_clears : Cond.selects yX11_clears.cls yX11_clears yX11_clears ∈ cm_all := cm_sel (q := (yX11_clears, 19)) (cm_p9 _ (List.mem_of_getElem? (i := 2) (by decide +kernel)))
theorem kx_X11_putSum : Cond.selects yX11_putSum.cls yX11_putSum yX11_putSum ∈ cm_all := cm_sel (q := (yX11_putSum, 19)) (cm_p9 _ (List.mem_of_getElem? (i := 3) (by decide +kernel)))
theorem kx_X11_comes : Cond.selects yX11_comes.cls yX11_comes yX11_comes ∈ cm_all := cm_sel (q := (yX11_comes, 19)) (cm_p9 _ (List.mem_of_getElem? (i := 4) (by decide +kernel)))
theorem kx_X11_comesToEnd : Cond.selects yX11_comesToEnd.cls yX11_comesToEnd yX11_comesToEnd ∈ cm_all := cm_sel (q := (yX11_comesToEnd, 19)) (cm_p9 _ (List.mem_of_getElem? (i := 5) (by decide +kernel)))
theorem kx_X11_leavesQueue : Cond.selects yX11_leavesQueue.cls yX11_leavesQueue yX11_leavesQueue ∈ cm_all := cm_sel (q := (yX11_leavesQueue, 19)) (cm_p9 _ (List.mem_of_getElem? (i := 6) (by decide +kernel)))
theorem kx_X11_startsOn : Cond.selects yX11_startsOn.cls yX11_startsOn yX11_startsOn ∈ cm_all := cm_sel (q := (yX11_startsOn, 19)) (cm_p9 _ (List.mem_of_getElem? (i := 7) (by decide +kernel)))
theorem kx_X11_noProgram : Cond.selects yX11_noProgram.cls yX11_noProgram yX11_noProgram ∈ cm_all := cm_sel (q := (yX11_noProgram, 19)) (cm_p9 _ (List.mem_of_getElem? (i := 8) (by decide +kernel)))
theorem kx_X11_noChannel : Cond.selects yX11_noChannel.cls yX11_noChannel yX11_noChannel ∈ cm_all := cm_sel (q := (yX11_noChannel, 19)) (cm_p9 _ (List.mem_of_getElem? (i := 9) (by decide +kernel)))
theorem kx_X11_isIn : Cond.selects yX11_isIn.cls yX11_isIn yX11_isIn ∈ cm_all := cm_sel (q := (yX11_isIn, 19)) (cm_p9 _ (List.mem_of_getElem? (i := 10) (by decide +kernel)))
theorem kx_X11_turns : Cond.selects yX11_turns.cls yX11_turns yX11_turns ∈ cm_all := cm_sel (q := (yX11_turns, 19)) (cm_p9 _ (List.mem_of_getElem? (i := 11) (by decide +kernel)))
theorem kx_X11_share : Cond.selects yX11_share.cls yX11_share yX11_share ∈ cm_all := cm_sel (q := (yX11_share, 19)) (cm_p9 _ (List.mem_of_getElem? (i := 12) (by decide +kernel)))
theorem kx_X11_recorded : Cond.selects yX11_recorded.cls yX11_recorded yX11_recorded ∈ cm_all := cm_sel (q := (yX11_recorded, 19)) (cm_p9 _ (List.mem_of_getElem? (i := 13) (by decide +kernel)))
theorem kx_X11_isCounting : Cond.selects yX11_isCounting.cls yX11_isCounting yX11_isCounting ∈ cm_all := cm_sel (q := (yX11_isCounting, 19)) (cm_p9 _ (List.mem_of_getElem? (i := 14) (by decide +kernel)))
theorem kx_X11_goesAside : Cond.selects yX11_goesAside.cls yX11_goesAside yX11_goesAside ∈ cm_all := cm_sel (q := (yX11_goesAside, 19)) (cm_p9 _ (List.mem_of_getElem? (i := 15) (by decide +kernel)))
theorem kx_X11_alone : Cond.selects yX11_alone.cls yX11_alone yX11_alone ∈ cm_all := cm_sel (q := (yX11_alone, 19)) (cm_p10 _ (List.mem_of_getElem? (i := 0) (by decide +kernel)))
theorem kx_X11_comesBack : Cond.selects yX11_comesBack.cls yX11_comesBack yX11_comesBack ∈ cm_all := cm_sel (q := (yX11_comesBack, 19)) (cm_p10 _ (List.mem_of_getElem? (i := 1) (by decide +kernel)))
theorem kx_X11_untilAside : Cond.selects yX11_untilAside.cls yX11_untilAside yX11_untilAside ∈ cm_all := cm_sel (q := (yX11_untilAside, 19)) (cm_p10 _ (List.mem_of_getElem? (i := 2) (by decide +kernel)))
theorem kx_X11_until : Cond.selects yX11_until.cls yX11_until yX11_until ∈ cm_all := cm_sel (q := (yX11_until, 19)) (cm_p10 _ (List.mem_of_getElem? (i := 3) (by decide +kernel)))
theorem kx_X11_durationOf : Cond.selects yX11_durationOf.cls yX11_durationOf yX11_durationOf ∈ cm_all := cm_sel (q := (yX11_durationOf, 19)) (cm_p10 _ (List.mem_of_getElem? (i := 4) (by decide +kernel)))
theorem kx_X11_isSafe : Cond.selects yX11_isSafe.cls yX11_isSafe yX11_isSafe ∈ cm_all := cm_sel (q := (yX11_isSafe, 19)) (cm_p10 _ (List.mem_of_getElem? (i := 5) (by decide +kernel)))
theorem kx_X11_noSlot : Cond.selects yX11_noSlot.cls yX11_noSlot yX11_noSlot ∈ cm_all := cm_sel (q := (yX11_noSlot, 19)) (cm_p10 _ (List.mem_of_getElem? (i := 6) (by decide +kernel)))
theorem in_X0 : ∀ w ∈ u_ws RX0 TX0 16, w ∈ cm_all := by
  intro w hw
  obtain ⟨k, hk, rfl⟩ := List.mem_map.mp hw
  have hk := List.mem_range.mp hk
  match k, hk with
  | 0, _ => exact cm_inT (cm_t2 _ (List.mem_of_getElem? (i := 11) (by decide +kernel))) (by decide)
  | 1, _ => exact cm_inT (cm_t2 _ (List.mem_of_getElem? (i := 13) (by decide +kernel))) (by decide)
  | 2, _ => exact cm_inT (cm_t2 _ (List.mem_of_getElem? (i := 15) (by decide +kernel))) (by decide)
  | 3, _ => exact cm_inT (cm_t2 _ (List.mem_of_getElem? (i := 17) (by decide +kernel))) (by decide)
  | 4, _ => exact cm_inT (cm_t2 _ (List.mem_of_getElem? (i := 19) (by decide +kernel))) (by decide)
  | 5, _ => exact cm_inT (cm_t2 _ (List.mem_of_getElem? (i := 21) (by decide +kernel))) (by decide)
  | 6, _ => exact cm_inT (cm_t2 _ (List.mem_of_getElem? (i := 23) (by decide +kernel))) (by decide)
  | 7, _ => exact cm_inT (cm_t2 _ (List.mem_of_getElem? (i := 25) (by decide +kernel))) (by decide)
  | 8, _ => exact cm_inT (cm_t2 _ (List.mem_of_getElem? (i := 27) (by decide +kernel))) (by decide)
  | 9, _ => exact cm_inT (cm_t2 _ (List.mem_of_getElem? (i := 29) (by decide +kernel))) (by decide)
  | 10, _ => exact cm_inT (cm_t2 _ (List.mem_of_getElem? (i := 31) (by decide +kernel))) (by decide)
  | 11, _ => exact cm_inT (cm_t2 _ (List.mem_of_getElem? (i := 33) (by decide +kernel))) (by decide)
  | 12, _ => exact cm_inT (cm_t2 _ (List.mem_of_getElem? (i := 35) (by decide +kernel))) (by decide)
  | 13, _ => exact cm_inT (cm_t2 _ (List.mem_of_getElem? (i := 37) (by decide +kernel))) (by decide)
  | 14, _ => exact cm_inT (cm_t2 _ (List.mem_of_getElem? (i := 39) (by decide +kernel))) (by decide)
  | 15, _ => exact cm_inT (cm_t2 _ (List.mem_of_getElem? (i := 41) (by decide +kernel))) (by decide)
  | k + 16, hk => exact absurd hk (by omega)
theorem in_X1 : ∀ w ∈ u_ws RX1 TX1 14, w ∈ cm_all := by
  intro w hw
  obtain ⟨k, hk, rfl⟩ := List.mem_map.mp hw
  have hk := List.mem_range.mp hk
  match k, hk with
  | 0, _ => exact cm_inT (cm_t2 _ (List.mem_of_getElem? (i := 109) (by decide +kernel))) (by decide)
  | 1, _ => exact cm_inT (cm_t2 _ (List.mem_of_getElem? (i := 111) (by decide +kernel))) (by decide)
  | 2, _ => exact cm_inT (cm_t2 _ (List.mem_of_getElem? (i := 113) (by decide +kernel))) (by decide)
  | 3, _ => exact cm_inT (cm_t2 _ (List.mem_of_getElem? (i := 115) (by decide +kernel))) (by decide)
  | 4, _ => exact cm_inT (cm_t2 _ (List.mem_of_getElem? (i := 117) (by decide +kernel))) (by decide)
  | 5, _ => exact cm_inT (cm_t2 _ (List.mem_of_getElem? (i := 119) (by decide +kernel))) (by decide)
  | 6, _ => exact cm_inT (cm_t2 _ (List.mem_of_getElem? (i := 121) (by decide +kernel))) (by decide)
  | 7, _ => exact cm_inT (cm_t2 _ (List.mem_of_getElem? (i := 123) (by decide +kernel))) (by decide)
  | 8, _ => exact cm_inT (cm_t2 _ (List.mem_of_getElem? (i := 125) (by decide +kernel))) (by decide)
  | 9, _ => exact cm_inT (cm_t2 _ (List.mem_of_getElem? (i := 127) (by decide +kernel))) (by decide)
  | 10, _ => exact cm_inT (cm_t2 _ (List.mem_of_getElem? (i := 129) (by decide +kernel))) (by decide)
  | 11, _ => exact cm_inT (cm_t2 _ (List.mem_of_getElem? (i := 131) (by decide +kernel))) (by decide)
  | 12, _ => exact cm_inT (cm_t2 _ (List.mem_of_getElem? (i := 133) (by decide +kernel))) (by decide)
  | 13, _ => exact cm_inT (cm_t2 _ (List.mem_of_getElem? (i := 135) (by decide +kernel))) (by decide)
  | k + 14, hk => exact absurd hk (by omega)
theorem in_X2 : ∀ w ∈ u_ws RX2 TX2 4, w ∈ cm_all := by
  intro w hw
  obtain ⟨k, hk, rfl⟩ := List.mem_map.mp hw
  have hk := List.mem_range.mp hk
  match k, hk with
  | 0, _ => exact cm_inT (cm_t1 _ (List.mem_of_getElem? (i := 136) (by decide +kernel))) (by decide)
  | 1, _ => exact cm_inT (cm_t1 _ (List.mem_of_getElem? (i := 138) (by decide +kernel))) (by decide)
  | 2, _ => exact cm_inT (cm_t1 _ (List.mem_of_getElem? (i := 140) (by decide +kernel))) (by decide)
  | 3, _ => exact cm_inT (cm_t1 _ (List.mem_of_getElem? (i := 142) (by decide +kernel))) (by decide)
  | k + 4, hk => exact absurd hk (by omega)
theorem in_X3 : ∀ w ∈ u_ws RX3 TX3 4, w ∈ cm_all := by
  intro w hw
  obtain ⟨k, hk, rfl⟩ := List.mem_map.mp hw
  have hk := List.mem_range.mp hk
  match k, hk with
  | 0, _ => exact cm_inT (cm_t1 _ (List.mem_of_getElem? (i := 205) (by decide +kernel))) (by decide)
  | 1, _ => exact cm_inT (cm_t1 _ (List.mem_of_getElem? (i := 207) (by decide +kernel))) (by decide)
  | 2, _ => exact cm_inT (cm_t1 _ (List.mem_of_getElem? (i := 209) (by decide +kernel))) (by decide)
  | 3, _ => exact cm_inT (cm_t1 _ (List.mem_of_getElem? (i := 211) (by decide +kernel))) (by decide)
  | k + 4, hk => exact absurd hk (by omega)
theorem in_X4 : ∀ w ∈ u_ws RX4 TX4 7, w ∈ cm_all := by
  intro w hw
  obtain ⟨k, hk, rfl⟩ := List.mem_map.mp hw
  have hk := List.mem_range.mp hk
  match k, hk with
  | 0, _ => exact cm_inT (cm_t2 _ (List.mem_of_getElem? (i := 69) (by decide +kernel))) (by decide)
  | 1, _ => exact cm_inT (cm_t2 _ (List.mem_of_getElem? (i := 71) (by decide +kernel))) (by decide)
  | 2, _ => exact cm_inT (cm_t2 _ (List.mem_of_getElem? (i := 73) (by decide +kernel))) (by decide)
  | 3, _ => exact cm_inT (cm_t2 _ (List.mem_of_getElem? (i := 75) (by decide +kernel))) (by decide)
  | 4, _ => exact cm_inT (cm_t2 _ (List.mem_of_getElem? (i := 77) (by decide +kernel))) (by decide)
  | 5, _ => exact cm_inT (cm_t2 _ (List.mem_of_getElem? (i := 79) (by decide +kernel))) (by decide)
  | 6, _ => exact cm_inT (cm_t2 _ (List.mem_of_getElem? (i := 81) (by decide +kernel))) (by decide)
  | k + 7, hk => exact absurd hk (by omega)
theorem in_X5 : ∀ w ∈ u_ws RX5 TX5 5, w ∈ cm_all := by
  intro w hw
  obtain ⟨k, hk, rfl⟩ := List.mem_map.mp hw
  have hk := List.mem_range.mp hk
  match k, hk with
  | 0, _ => exact cm_inT (cm_t1 _ (List.mem_of_getElem? (i := 161) (by decide +kernel))) (by decide)
  | 1, _ => exact cm_inT (cm_t1 _ (List.mem_of_getElem? (i := 163) (by decide +kernel))) (by decide)
  | 2, _ => exact cm_inT (cm_t1 _ (List.mem_of_getElem? (i := 165) (by decide +kernel))) (by decide)
  | 3, _ => exact cm_inT (cm_t1 _ (List.mem_of_getElem? (i := 167) (by decide +kernel))) (by decide)
  | 4, _ => exact cm_inT (cm_t1 _ (List.mem_of_getElem? (i := 169) (by decide +kernel))) (by decide)
  | k + 5, hk => exact absurd hk (by omega)
theorem in_X6 : ∀ w ∈ u_ws RX6 TX6 7, w ∈ cm_all := by
  intro w hw
  obtain ⟨k, hk, rfl⟩ := List.mem_map.mp hw
  have hk := List.mem_range.mp hk
  match k, hk with
  | 0, _ => exact cm_inT (cm_t3 _ (List.mem_of_getElem? (i := 24) (by decide +kernel))) (by decide)
  | 1, _ => exact cm_inT (cm_t3 _ (List.mem_of_getElem? (i := 26) (by decide +kernel))) (by decide)
  | 2, _ => exact cm_inT (cm_t3 _ (List.mem_of_getElem? (i := 28) (by decide +kernel))) (by decide)
  | 3, _ => exact cm_inT (cm_t3 _ (List.mem_of_getElem? (i := 30) (by decide +kernel))) (by decide)
  | 4, _ => exact cm_inT (cm_t3 _ (List.mem_of_getElem? (i := 32) (by decide +kernel))) (by decide)
  | 5, _ => exact cm_inT (cm_t3 _ (List.mem_of_getElem? (i := 34) (by decide +kernel))) (by decide)
  | 6, _ => exact cm_inT (cm_t3 _ (List.mem_of_getElem? (i := 36) (by decide +kernel))) (by decide)
  | k + 7, hk => exact absurd hk (by omega)
theorem in_X7 : ∀ w ∈ u_ws RX7 TX7 12, w ∈ cm_all := by
  intro w hw
  obtain ⟨k, hk, rfl⟩ := List.mem_map.mp hw
  have hk := List.mem_range.mp hk
  match k, hk with
  | 0, _ => exact cm_inT (cm_t1 _ (List.mem_of_getElem? (i := 97) (by decide +kernel))) (by decide)
  | 1, _ => exact cm_inT (cm_t1 _ (List.mem_of_getElem? (i := 99) (by decide +kernel))) (by decide)
  | 2, _ => exact cm_inT (cm_t1 _ (List.mem_of_getElem? (i := 101) (by decide +kernel))) (by decide)
  | 3, _ => exact cm_inT (cm_t1 _ (List.mem_of_getElem? (i := 103) (by decide +kernel))) (by decide)
  | 4, _ => exact cm_inT (cm_t1 _ (List.mem_of_getElem? (i := 105) (by decide +kernel))) (by decide)
  | 5, _ => exact cm_inT (cm_t1 _ (List.mem_of_getElem? (i := 107) (by decide +kernel))) (by decide)
  | 6, _ => exact cm_inT (cm_t1 _ (List.mem_of_getElem? (i := 109) (by decide +kernel))) (by decide)
  | 7, _ => exact cm_inT (cm_t1 _ (List.mem_of_getElem? (i := 111) (by decide +kernel))) (by decide)
  | 8, _ => exact cm_inT (cm_t1 _ (List.mem_of_getElem? (i := 113) (by decide +kernel))) (by decide)
  | 9, _ => exact cm_inT (cm_t1 _ (List.mem_of_getElem? (i := 115) (by decide +kernel))) (by decide)
  | 10, _ => exact cm_inT (cm_t1 _ (List.mem_of_getElem? (i := 117) (by decide +kernel))) (by decide)
  | 11, _ => exact cm_inT (cm_t1 _ (List.mem_of_getElem? (i := 119) (by decide +kernel))) (by decide)
  | k + 12, hk => exact absurd hk (by omega)
theorem in_X8 : ∀ w ∈ u_ws RX8 TX8 5, w ∈ cm_all := by
  intro w hw
  obtain ⟨k, hk, rfl⟩ := List.mem_map.mp hw
  have hk := List.mem_range.mp hk
  match k, hk with
  | 0, _ => exact cm_inT (cm_t2 _ (List.mem_of_getElem? (i := 157) (by decide +kernel))) (by decide)
  | 1, _ => exact cm_inT (cm_t2 _ (List.mem_of_getElem? (i := 159) (by decide +kernel))) (by decide)
  | 2, _ => exact cm_inT (cm_t2 _ (List.mem_of_getElem? (i := 161) (by decide +kernel))) (by decide)
  | 3, _ => exact cm_inT (cm_t2 _ (List.mem_of_getElem? (i := 163) (by decide +kernel))) (by decide)
  | 4, _ => exact cm_inT (cm_t2 _ (List.mem_of_getElem? (i := 165) (by decide +kernel))) (by decide)
  | k + 5, hk => exact absurd hk (by omega)
theorem in_X9 : ∀ w ∈ u_ws RX9 TX9 8, w ∈ cm_all := by
  intro w hw
  obtain ⟨k, hk, rfl⟩ := List.mem_map.mp hw
  have hk := List.mem_range.mp hk
  match k, hk with
  | 0, _ => exact cm_inT (cm_t2 _ (List.mem_of_getElem? (i := 191) (by decide +kernel))) (by decide)
  | 1, _ => exact cm_inT (cm_t2 _ (List.mem_of_getElem? (i := 193) (by decide +kernel))) (by decide)
  | 2, _ => exact cm_inT (cm_t2 _ (List.mem_of_getElem? (i := 195) (by decide +kernel))) (by decide)
  | 3, _ => exact cm_inT (cm_t2 _ (List.mem_of_getElem? (i := 197) (by decide +kernel))) (by decide)
  | 4, _ => exact cm_inT (cm_t2 _ (List.mem_of_getElem? (i := 199) (by decide +kernel))) (by decide)
  | 5, _ => exact cm_inT (cm_t2 _ (List.mem_of_getElem? (i := 201) (by decide +kernel))) (by decide)
  | 6, _ => exact cm_inT (cm_t2 _ (List.mem_of_getElem? (i := 203) (by decide +kernel))) (by decide)
  | 7, _ => exact cm_inT (cm_t2 _ (List.mem_of_getElem? (i := 205) (by decide +kernel))) (by decide)
  | k + 8, hk => exact absurd hk (by omega)
theorem in_X10 : ∀ w ∈ u_ws RX10 TX10 6, w ∈ cm_all := by
  intro w hw
  obtain ⟨k, hk, rfl⟩ := List.mem_map.mp hw
  have hk := List.mem_range.mp hk
  match k, hk with
  | 0, _ => exact cm_inT (cm_t2 _ (List.mem_of_getElem? (i := 215) (by decide +kernel))) (by decide)
  | 1, _ => exact cm_inT (cm_t2 _ (List.mem_of_getElem? (i := 217) (by decide +kernel))) (by decide)
  | 2, _ => exact cm_inT (cm_t2 _ (List.mem_of_getElem? (i := 219) (by decide +kernel))) (by decide)
  | 3, _ => exact cm_inT (cm_t2 _ (List.mem_of_getElem? (i := 221) (by decide +kernel))) (by decide)
  | 4, _ => exact cm_inT (cm_t2 _ (List.mem_of_getElem? (i := 223) (by decide +kernel))) (by decide)
  | 5, _ => exact cm_inT (cm_t2 _ (List.mem_of_getElem? (i := 225) (by decide +kernel))) (by decide)
  | k + 6, hk => exact absurd hk (by omega)
theorem in_X11 : ∀ w ∈ u_ws RX11 TX11 19, w ∈ cm_all := by
  intro w hw
  obtain ⟨k, hk, rfl⟩ := List.mem_map.mp hw
  have hk := List.mem_range.mp hk
  match k, hk with
  | 0, _ => exact cm_inT (cm_t7 _ (List.mem_of_getElem? (i := 61) (by decide +kernel))) (by decide)
  | 1, _ => exact cm_inT (cm_t7 _ (List.mem_of_getElem? (i := 63) (by decide +kernel))) (by decide)
  | 2, _ => exact cm_inT (cm_t7 _ (List.mem_of_getElem? (i := 65) (by decide +kernel))) (by decide)
  | 3, _ => exact cm_inT (cm_t7 _ (List.mem_of_getElem? (i := 67) (by decide +kernel))) (by decide)
  | 4, _ => exact cm_inT (cm_t7 _ (List.mem_of_getElem? (i := 69) (by decide +kernel))) (by decide)
  | 5, _ => exact cm_inT (cm_t7 _ (List.mem_of_getElem? (i := 71) (by decide +kernel))) (by decide)
  | 6, _ => exact cm_inT (cm_t7 _ (List.mem_of_getElem? (i := 73) (by decide +kernel))) (by decide)
  | 7, _ => exact cm_inT (cm_t7 _ (List.mem_of_getElem? (i := 75) (by decide +kernel))) (by decide)
  | 8, _ => exact cm_inT (cm_t7 _ (List.mem_of_getElem? (i := 77) (by decide +kernel))) (by decide)
  | 9, _ => exact cm_inT (cm_t7 _ (List.mem_of_getElem? (i := 79) (by decide +kernel))) (by decide)
  | 10, _ => exact cm_inT (cm_t7 _ (List.mem_of_getElem? (i := 81) (by decide +kernel))) (by decide)
  | 11, _ => exact cm_inT (cm_t7 _ (List.mem_of_getElem? (i := 83) (by decide +kernel))) (by decide)
  | 12, _ => exact cm_inT (cm_t7 _ (List.mem_of_getElem? (i := 85) (by decide +kernel))) (by decide)
  | 13, _ => exact cm_inT (cm_t7 _ (List.mem_of_getElem? (i := 87) (by decide +kernel))) (by decide)
  | 14, _ => exact cm_inT (cm_t7 _ (List.mem_of_getElem? (i := 89) (by decide +kernel))) (by decide)
  | 15, _ => exact cm_inT (cm_t7 _ (List.mem_of_getElem? (i := 91) (by decide +kernel))) (by decide)
  | 16, _ => exact cm_inT (cm_t7 _ (List.mem_of_getElem? (i := 93) (by decide +kernel))) (by decide)
  | 17, _ => exact cm_inT (cm_t7 _ (List.mem_of_getElem? (i := 95) (by decide +kernel))) (by decide)
  | 18, _ => exact cm_inT (cm_t7 _ (List.mem_of_getElem? (i := 97) (by decide +kernel))) (by decide)
  | k + 19, hk => exact absurd hk (by omega)
end
section
/-! words of the tables, by name -/
theorem kd_X10_init : yX10_init.cls ≠ "java/lang/invoke/MethodHandle" ∧ yX10_init.cls ≠ "java/lang/invoke/VarHandle" ∧ (parseMethodDescriptor yX10_init.desc).map (fun d => d.parameters.length) = some 0 := by decide +kernel
theorem kd_X9_init : yX9_init.cls ≠ "java/lang/invoke/MethodHandle" ∧ yX9_init.cls ≠ "java/lang/invoke/VarHandle" ∧ (parseMethodDescriptor yX9_init.desc).map (fun d => d.parameters.length) = some 0 := by decide +kernel
theorem kd_X7_init : yX7_init.cls ≠ "java/lang/invoke/MethodHandle" ∧ yX7_init.cls ≠ "java/lang/invoke/VarHandle" ∧ (parseMethodDescriptor yX7_init.desc).map (fun d => d.parameters.length) = some 0 := by decide +kernel
theorem kd_X7_clear : yX7_clear.cls ≠ "java/lang/invoke/MethodHandle" ∧ yX7_clear.cls ≠ "java/lang/invoke/VarHandle" ∧ (parseMethodDescriptor yX7_clear.desc).map (fun d => d.parameters.length) = some 0 := by decide +kernel
theorem kd_X2_init : yX2_init.cls ≠ "java/lang/invoke/MethodHandle" ∧ yX2_init.cls ≠ "java/lang/invoke/VarHandle" ∧ (parseMethodDescriptor yX2_init.desc).map (fun d => d.parameters.length) = some 0 := by decide +kernel
theorem kd_X5_init : yX5_init.cls ≠ "java/lang/invoke/MethodHandle" ∧ yX5_init.cls ≠ "java/lang/invoke/VarHandle" ∧ (parseMethodDescriptor yX5_init.desc).map (fun d => d.parameters.length) = some 0 := by decide +kernel
theorem kd_X1_init : yX1_init.cls ≠ "java/lang/invoke/MethodHandle" ∧ yX1_init.cls ≠ "java/lang/invoke/VarHandle" ∧ (parseMethodDescriptor yX1_init.desc).map (fun d => d.parameters.length) = some 1 := by decide +kernel
theorem kd_X0_init : yX0_init.cls ≠ "java/lang/invoke/MethodHandle" ∧ yX0_init.cls ≠ "java/lang/invoke/VarHandle" ∧ (parseMethodDescriptor yX0_init.desc).map (fun d => d.parameters.length) = some 0 := by decide +kernel
theorem kd_X3_init : yX3_init.cls ≠ "java/lang/invoke/MethodHandle" ∧ yX3_init.cls ≠ "java/lang/invoke/VarHandle" ∧ (parseMethodDescriptor yX3_init.desc).map (fun d => d.parameters.length) = some 0 := by decide +kernel
theorem kd_X4_init : yX4_init.cls ≠ "java/lang/invoke/MethodHandle" ∧ yX4_init.cls ≠ "java/lang/invoke/VarHandle" ∧ (parseMethodDescriptor yX4_init.desc).map (fun d => d.parameters.length) = some 0 := by decide +kernel
theorem kd_X8_init : yX8_init.cls ≠ "java/lang/invoke/MethodHandle" ∧ yX8_init.cls ≠ "java/lang/invoke/VarHandle" ∧ (parseMethodDescriptor yX8_init.desc).map (fun d => d.parameters.length) = some 2 := by decide +kernel
theorem kd_J9_max_7cf53 : yJ9_max_7cf53.cls ≠ "java/lang/invoke/MethodHandle" ∧ yJ9_max_7cf53.cls ≠ "java/lang/invoke/VarHandle" ∧ (parseMethodDescriptor yJ9_max_7cf53.desc).map (fun d => d.parameters.length) = some 2 := by decide +kernel
theorem kd_X10_append : yX10_append.cls ≠ "java/lang/invoke/MethodHandle" ∧ yX10_append.cls ≠ "java/lang/invoke/VarHandle" ∧ (parseMethodDescriptor yX10_append.desc).map (fun d => d.parameters.length) = some 1 := by decide +kernel
theorem kd_X10_put : yX10_put.cls ≠ "java/lang/invoke/MethodHandle" ∧ yX10_put.cls ≠ "java/lang/invoke/VarHandle" ∧ (parseMethodDescriptor yX10_put.desc).map (fun d => d.parameters.length) = some 3 := by decide +kernel
theorem kd_X10_load : yX10_load.cls ≠ "java/lang/invoke/MethodHandle" ∧ yX10_load.cls ≠ "java/lang/invoke/VarHandle" ∧ (parseMethodDescriptor yX10_load.desc).map (fun d => d.parameters.length) = some 0 := by decide +kernel
theorem kd_X9_clear : yX9_clear.cls ≠ "java/lang/invoke/MethodHandle" ∧ yX9_clear.cls ≠ "java/lang/invoke/VarHandle" ∧ (parseMethodDescriptor yX9_clear.desc).map (fun d => d.parameters.length) = some 0 := by decide +kernel
theorem kd_X8_clear : yX8_clear.cls ≠ "java/lang/invoke/MethodHandle" ∧ yX8_clear.cls ≠ "java/lang/invoke/VarHandle" ∧ (parseMethodDescriptor yX8_clear.desc).map (fun d => d.parameters.length) = some 0 := by decide +kernel
theorem kd_X6_init : yX6_init.cls ≠ "java/lang/invoke/MethodHandle" ∧ yX6_init.cls ≠ "java/lang/invoke/VarHandle" ∧ (parseMethodDescriptor yX6_init.desc).map (fun d => d.parameters.length) = some 3 := by decide +kernel
theorem kd_X6_readText : yX6_readText.cls ≠ "java/lang/invoke/MethodHandle" ∧ yX6_readText.cls ≠ "java/lang/invoke/VarHandle" ∧ (parseMethodDescriptor yX6_readText.desc).map (fun d => d.parameters.length) = some 0 := by decide +kernel
theorem kd_X6_readWord : yX6_readWord.cls ≠ "java/lang/invoke/MethodHandle" ∧ yX6_readWord.cls ≠ "java/lang/invoke/VarHandle" ∧ (parseMethodDescriptor yX6_readWord.desc).map (fun d => d.parameters.length) = some 0 := by decide +kernel
theorem kd_X6_skipSpaces : yX6_skipSpaces.cls ≠ "java/lang/invoke/MethodHandle" ∧ yX6_skipSpaces.cls ≠ "java/lang/invoke/VarHandle" ∧ (parseMethodDescriptor yX6_skipSpaces.desc).map (fun d => d.parameters.length) = some 0 := by decide +kernel
theorem kd_X6_next : yX6_next.cls ≠ "java/lang/invoke/MethodHandle" ∧ yX6_next.cls ≠ "java/lang/invoke/VarHandle" ∧ (parseMethodDescriptor yX6_next.desc).map (fun d => d.parameters.length) = some 0 := by decide +kernel
theorem kd_X6_isLetter : yX6_isLetter.cls ≠ "java/lang/invoke/MethodHandle" ∧ yX6_isLetter.cls ≠ "java/lang/invoke/VarHandle" ∧ (parseMethodDescriptor yX6_isLetter.desc).map (fun d => d.parameters.length) = some 1 := by decide +kernel
theorem kd_X6_fail : yX6_fail.cls ≠ "java/lang/invoke/MethodHandle" ∧ yX6_fail.cls ≠ "java/lang/invoke/VarHandle" ∧ (parseMethodDescriptor yX6_fail.desc).map (fun d => d.parameters.length) = some 2 := by decide +kernel
theorem kd_X6_wordIs : yX6_wordIs.cls ≠ "java/lang/invoke/MethodHandle" ∧ yX6_wordIs.cls ≠ "java/lang/invoke/VarHandle" ∧ (parseMethodDescriptor yX6_wordIs.desc).map (fun d => d.parameters.length) = some 1 := by decide +kernel
theorem kd_J0_length_8abf5 : yJ0_length_8abf5.cls ≠ "java/lang/invoke/MethodHandle" ∧ yJ0_length_8abf5.cls ≠ "java/lang/invoke/VarHandle" ∧ (parseMethodDescriptor yJ0_length_8abf5.desc).map (fun d => d.parameters.length) = some 0 := by decide +kernel
theorem kd_J0_coder_7d493 : yJ0_coder_7d493.cls ≠ "java/lang/invoke/MethodHandle" ∧ yJ0_coder_7d493.cls ≠ "java/lang/invoke/VarHandle" ∧ (parseMethodDescriptor yJ0_coder_7d493.desc).map (fun d => d.parameters.length) = some 0 := by decide +kernel
theorem kd_X10_at : yX10_at.cls ≠ "java/lang/invoke/MethodHandle" ∧ yX10_at.cls ≠ "java/lang/invoke/VarHandle" ∧ (parseMethodDescriptor yX10_at.desc).map (fun d => d.parameters.length) = some 2 := by decide +kernel
theorem kd_J0_charAt_5068e : yJ0_charAt_5068e.cls ≠ "java/lang/invoke/MethodHandle" ∧ yJ0_charAt_5068e.cls ≠ "java/lang/invoke/VarHandle" ∧ (parseMethodDescriptor yJ0_charAt_5068e.desc).map (fun d => d.parameters.length) = some 1 := by decide +kernel
theorem kd_J0_isLatin1_aae02 : yJ0_isLatin1_aae02.cls ≠ "java/lang/invoke/MethodHandle" ∧ yJ0_isLatin1_aae02.cls ≠ "java/lang/invoke/VarHandle" ∧ (parseMethodDescriptor yJ0_isLatin1_aae02.desc).map (fun d => d.parameters.length) = some 0 := by decide +kernel
theorem kd_J1_charAt_3b067 : yJ1_charAt_3b067.cls ≠ "java/lang/invoke/MethodHandle" ∧ yJ1_charAt_3b067.cls ≠ "java/lang/invoke/VarHandle" ∧ (parseMethodDescriptor yJ1_charAt_3b067.desc).map (fun d => d.parameters.length) = some 2 := by decide +kernel
theorem kd_J0_checkIndex_df160 : yJ0_checkIndex_df160.cls ≠ "java/lang/invoke/MethodHandle" ∧ yJ0_checkIndex_df160.cls ≠ "java/lang/invoke/VarHandle" ∧ (parseMethodDescriptor yJ0_checkIndex_df160.desc).map (fun d => d.parameters.length) = some 2 := by decide +kernel
theorem kd_J3_checkIndex_8e157 : yJ3_checkIndex_8e157.cls ≠ "java/lang/invoke/MethodHandle" ∧ yJ3_checkIndex_8e157.cls ≠ "java/lang/invoke/VarHandle" ∧ (parseMethodDescriptor yJ3_checkIndex_8e157.desc).map (fun d => d.parameters.length) = some 3 := by decide +kernel
theorem kd_J2_charAt_3b067 : yJ2_charAt_3b067.cls ≠ "java/lang/invoke/MethodHandle" ∧ yJ2_charAt_3b067.cls ≠ "java/lang/invoke/VarHandle" ∧ (parseMethodDescriptor yJ2_charAt_3b067.desc).map (fun d => d.parameters.length) = some 2 := by decide +kernel
theorem kd_J2_checkIndex_2214a : yJ2_checkIndex_2214a.cls ≠ "java/lang/invoke/MethodHandle" ∧ yJ2_checkIndex_2214a.cls ≠ "java/lang/invoke/VarHandle" ∧ (parseMethodDescriptor yJ2_checkIndex_2214a.desc).map (fun d => d.parameters.length) = some 2 := by decide +kernel
theorem kd_J2_length_9d52b : yJ2_length_9d52b.cls ≠ "java/lang/invoke/MethodHandle" ∧ yJ2_length_9d52b.cls ≠ "java/lang/invoke/VarHandle" ∧ (parseMethodDescriptor yJ2_length_9d52b.desc).map (fun d => d.parameters.length) = some 1 := by decide +kernel
theorem kd_J2_getChar_3b067 : yJ2_getChar_3b067.cls ≠ "java/lang/invoke/MethodHandle" ∧ yJ2_getChar_3b067.cls ≠ "java/lang/invoke/VarHandle" ∧ (parseMethodDescriptor yJ2_getChar_3b067.desc).map (fun d => d.parameters.length) = some 2 := by decide +kernel
theorem kd_X6_readCurve : yX6_readCurve.cls ≠ "java/lang/invoke/MethodHandle" ∧ yX6_readCurve.cls ≠ "java/lang/invoke/VarHandle" ∧ (parseMethodDescriptor yX6_readCurve.desc).map (fun d => d.parameters.length) = some 0 := by decide +kernel
theorem kd_X10_nameCode : yX10_nameCode.cls ≠ "java/lang/invoke/MethodHandle" ∧ yX10_nameCode.cls ≠ "java/lang/invoke/VarHandle" ∧ (parseMethodDescriptor yX10_nameCode.desc).map (fun d => d.parameters.length) = some 3 := by decide +kernel
theorem kd_X2_find : yX2_find.cls ≠ "java/lang/invoke/MethodHandle" ∧ yX2_find.cls ≠ "java/lang/invoke/VarHandle" ∧ (parseMethodDescriptor yX2_find.desc).map (fun d => d.parameters.length) = some 1 := by decide +kernel
theorem kd_X2_add : yX2_add.cls ≠ "java/lang/invoke/MethodHandle" ∧ yX2_add.cls ≠ "java/lang/invoke/VarHandle" ∧ (parseMethodDescriptor yX2_add.desc).map (fun d => d.parameters.length) = some 1 := by decide +kernel
theorem kd_X6_isDigit : yX6_isDigit.cls ≠ "java/lang/invoke/MethodHandle" ∧ yX6_isDigit.cls ≠ "java/lang/invoke/VarHandle" ∧ (parseMethodDescriptor yX6_isDigit.desc).map (fun d => d.parameters.length) = some 1 := by decide +kernel
theorem kd_X6_readNumber : yX6_readNumber.cls ≠ "java/lang/invoke/MethodHandle" ∧ yX6_readNumber.cls ≠ "java/lang/invoke/VarHandle" ∧ (parseMethodDescriptor yX6_readNumber.desc).map (fun d => d.parameters.length) = some 2 := by decide +kernel
theorem kd_J9_min_7cf53 : yJ9_min_7cf53.cls ≠ "java/lang/invoke/MethodHandle" ∧ yJ9_min_7cf53.cls ≠ "java/lang/invoke/VarHandle" ∧ (parseMethodDescriptor yJ9_min_7cf53.desc).map (fun d => d.parameters.length) = some 2 := by decide +kernel
theorem kd_X2_addVoltageToLast : yX2_addVoltageToLast.cls ≠ "java/lang/invoke/MethodHandle" ∧ yX2_addVoltageToLast.cls ≠ "java/lang/invoke/VarHandle" ∧ (parseMethodDescriptor yX2_addVoltageToLast.desc).map (fun d => d.parameters.length) = some 1 := by decide +kernel
theorem kd_X6_readCell : yX6_readCell.cls ≠ "java/lang/invoke/MethodHandle" ∧ yX6_readCell.cls ≠ "java/lang/invoke/VarHandle" ∧ (parseMethodDescriptor yX6_readCell.desc).map (fun d => d.parameters.length) = some 0 := by decide +kernel
theorem kd_X9_channelAt : yX9_channelAt.cls ≠ "java/lang/invoke/MethodHandle" ∧ yX9_channelAt.cls ≠ "java/lang/invoke/VarHandle" ∧ (parseMethodDescriptor yX9_channelAt.desc).map (fun d => d.parameters.length) = some 1 := by decide +kernel
theorem kd_X0_takeCurve : yX0_takeCurve.cls ≠ "java/lang/invoke/MethodHandle" ∧ yX0_takeCurve.cls ≠ "java/lang/invoke/VarHandle" ∧ (parseMethodDescriptor yX0_takeCurve.desc).map (fun d => d.parameters.length) = some 2 := by decide +kernel
theorem kd_X2_voltageOf : yX2_voltageOf.cls ≠ "java/lang/invoke/MethodHandle" ∧ yX2_voltageOf.cls ≠ "java/lang/invoke/VarHandle" ∧ (parseMethodDescriptor yX2_voltageOf.desc).map (fun d => d.parameters.length) = some 2 := by decide +kernel
theorem kd_X6_readProgram : yX6_readProgram.cls ≠ "java/lang/invoke/MethodHandle" ∧ yX6_readProgram.cls ≠ "java/lang/invoke/VarHandle" ∧ (parseMethodDescriptor yX6_readProgram.desc).map (fun d => d.parameters.length) = some 0 := by decide +kernel
theorem kd_X5_add : yX5_add.cls ≠ "java/lang/invoke/MethodHandle" ∧ yX5_add.cls ≠ "java/lang/invoke/VarHandle" ∧ (parseMethodDescriptor yX5_add.desc).map (fun d => d.parameters.length) = some 0 := by decide +kernel
theorem kd_X6_readStep : yX6_readStep.cls ≠ "java/lang/invoke/MethodHandle" ∧ yX6_readStep.cls ≠ "java/lang/invoke/VarHandle" ∧ (parseMethodDescriptor yX6_readStep.desc).map (fun d => d.parameters.length) = some 2 := by decide +kernel
theorem kd_X5_addStepToLast : yX5_addStepToLast.cls ≠ "java/lang/invoke/MethodHandle" ∧ yX5_addStepToLast.cls ≠ "java/lang/invoke/VarHandle" ∧ (parseMethodDescriptor yX5_addStepToLast.desc).map (fun d => d.parameters.length) = some 3 := by decide +kernel
theorem kd_X6_readSetting : yX6_readSetting.cls ≠ "java/lang/invoke/MethodHandle" ∧ yX6_readSetting.cls ≠ "java/lang/invoke/VarHandle" ∧ (parseMethodDescriptor yX6_readSetting.desc).map (fun d => d.parameters.length) = some 1 := by decide +kernel
theorem kd_X9_insertCells : yX9_insertCells.cls ≠ "java/lang/invoke/MethodHandle" ∧ yX9_insertCells.cls ≠ "java/lang/invoke/VarHandle" ∧ (parseMethodDescriptor yX9_insertCells.desc).map (fun d => d.parameters.length) = some 0 := by decide +kernel
theorem kd_X1_insertCell : yX1_insertCell.cls ≠ "java/lang/invoke/MethodHandle" ∧ yX1_insertCell.cls ≠ "java/lang/invoke/VarHandle" ∧ (parseMethodDescriptor yX1_insertCell.desc).map (fun d => d.parameters.length) = some 2 := by decide +kernel
theorem kd_X0_renew : yX0_renew.cls ≠ "java/lang/invoke/MethodHandle" ∧ yX0_renew.cls ≠ "java/lang/invoke/VarHandle" ∧ (parseMethodDescriptor yX0_renew.desc).map (fun d => d.parameters.length) = some 2 := by decide +kernel
theorem kd_X3_clear : yX3_clear.cls ≠ "java/lang/invoke/MethodHandle" ∧ yX3_clear.cls ≠ "java/lang/invoke/VarHandle" ∧ (parseMethodDescriptor yX3_clear.desc).map (fun d => d.parameters.length) = some 0 := by decide +kernel
theorem kd_X4_clear : yX4_clear.cls ≠ "java/lang/invoke/MethodHandle" ∧ yX4_clear.cls ≠ "java/lang/invoke/VarHandle" ∧ (parseMethodDescriptor yX4_clear.desc).map (fun d => d.parameters.length) = some 0 := by decide +kernel
theorem kd_X10_clearRow : yX10_clearRow.cls ≠ "java/lang/invoke/MethodHandle" ∧ yX10_clearRow.cls ≠ "java/lang/invoke/VarHandle" ∧ (parseMethodDescriptor yX10_clearRow.desc).map (fun d => d.parameters.length) = some 1 := by decide +kernel
theorem kd_X9_copyFrom : yX9_copyFrom.cls ≠ "java/lang/invoke/MethodHandle" ∧ yX9_copyFrom.cls ≠ "java/lang/invoke/VarHandle" ∧ (parseMethodDescriptor yX9_copyFrom.desc).map (fun d => d.parameters.length) = some 1 := by decide +kernel
theorem kd_X7_copyFrom : yX7_copyFrom.cls ≠ "java/lang/invoke/MethodHandle" ∧ yX7_copyFrom.cls ≠ "java/lang/invoke/VarHandle" ∧ (parseMethodDescriptor yX7_copyFrom.desc).map (fun d => d.parameters.length) = some 1 := by decide +kernel
theorem kd_X2_copyFrom : yX2_copyFrom.cls ≠ "java/lang/invoke/MethodHandle" ∧ yX2_copyFrom.cls ≠ "java/lang/invoke/VarHandle" ∧ (parseMethodDescriptor yX2_copyFrom.desc).map (fun d => d.parameters.length) = some 1 := by decide +kernel
theorem kd_X10_copyRow : yX10_copyRow.cls ≠ "java/lang/invoke/MethodHandle" ∧ yX10_copyRow.cls ≠ "java/lang/invoke/VarHandle" ∧ (parseMethodDescriptor yX10_copyRow.desc).map (fun d => d.parameters.length) = some 2 := by decide +kernel
theorem kd_X5_copyFrom : yX5_copyFrom.cls ≠ "java/lang/invoke/MethodHandle" ∧ yX5_copyFrom.cls ≠ "java/lang/invoke/VarHandle" ∧ (parseMethodDescriptor yX5_copyFrom.desc).map (fun d => d.parameters.length) = some 1 := by decide +kernel
theorem kd_X1_copyFrom : yX1_copyFrom.cls ≠ "java/lang/invoke/MethodHandle" ∧ yX1_copyFrom.cls ≠ "java/lang/invoke/VarHandle" ∧ (parseMethodDescriptor yX1_copyFrom.desc).map (fun d => d.parameters.length) = some 1 := by decide +kernel
theorem kd_X0_copyFrom : yX0_copyFrom.cls ≠ "java/lang/invoke/MethodHandle" ∧ yX0_copyFrom.cls ≠ "java/lang/invoke/VarHandle" ∧ (parseMethodDescriptor yX0_copyFrom.desc).map (fun d => d.parameters.length) = some 1 := by decide +kernel
theorem kd_X3_copyFrom : yX3_copyFrom.cls ≠ "java/lang/invoke/MethodHandle" ∧ yX3_copyFrom.cls ≠ "java/lang/invoke/VarHandle" ∧ (parseMethodDescriptor yX3_copyFrom.desc).map (fun d => d.parameters.length) = some 1 := by decide +kernel
theorem kd_X4_copyFrom : yX4_copyFrom.cls ≠ "java/lang/invoke/MethodHandle" ∧ yX4_copyFrom.cls ≠ "java/lang/invoke/VarHandle" ∧ (parseMethodDescriptor yX4_copyFrom.desc).map (fun d => d.parameters.length) = some 1 := by decide +kernel
theorem kd_X8_copyFrom : yX8_copyFrom.cls ≠ "java/lang/invoke/MethodHandle" ∧ yX8_copyFrom.cls ≠ "java/lang/invoke/VarHandle" ∧ (parseMethodDescriptor yX8_copyFrom.desc).map (fun d => d.parameters.length) = some 1 := by decide +kernel
theorem kd_X10_loadError : yX10_loadError.cls ≠ "java/lang/invoke/MethodHandle" ∧ yX10_loadError.cls ≠ "java/lang/invoke/VarHandle" ∧ (parseMethodDescriptor yX10_loadError.desc).map (fun d => d.parameters.length) = some 0 := by decide +kernel
theorem kd_X10_curveNamed : yX10_curveNamed.cls ≠ "java/lang/invoke/MethodHandle" ∧ yX10_curveNamed.cls ≠ "java/lang/invoke/VarHandle" ∧ (parseMethodDescriptor yX10_curveNamed.desc).map (fun d => d.parameters.length) = some 0 := by decide +kernel
theorem kd_X10_now : yX10_now.cls ≠ "java/lang/invoke/MethodHandle" ∧ yX10_now.cls ≠ "java/lang/invoke/VarHandle" ∧ (parseMethodDescriptor yX10_now.desc).map (fun d => d.parameters.length) = some 0 := by decide +kernel
theorem kd_X10_weakest : yX10_weakest.cls ≠ "java/lang/invoke/MethodHandle" ∧ yX10_weakest.cls ≠ "java/lang/invoke/VarHandle" ∧ (parseMethodDescriptor yX10_weakest.desc).map (fun d => d.parameters.length) = some 0 := by decide +kernel
theorem kd_X10_quotient : yX10_quotient.cls ≠ "java/lang/invoke/MethodHandle" ∧ yX10_quotient.cls ≠ "java/lang/invoke/VarHandle" ∧ (parseMethodDescriptor yX10_quotient.desc).map (fun d => d.parameters.length) = some 2 := by decide +kernel
theorem kd_X10_hottest : yX10_hottest.cls ≠ "java/lang/invoke/MethodHandle" ∧ yX10_hottest.cls ≠ "java/lang/invoke/VarHandle" ∧ (parseMethodDescriptor yX10_hottest.desc).map (fun d => d.parameters.length) = some 0 := by decide +kernel
theorem kd_X10_recordCount : yX10_recordCount.cls ≠ "java/lang/invoke/MethodHandle" ∧ yX10_recordCount.cls ≠ "java/lang/invoke/VarHandle" ∧ (parseMethodDescriptor yX10_recordCount.desc).map (fun d => d.parameters.length) = some 0 := by decide +kernel
theorem kd_X10_logSize : yX10_logSize.cls ≠ "java/lang/invoke/MethodHandle" ∧ yX10_logSize.cls ≠ "java/lang/invoke/VarHandle" ∧ (parseMethodDescriptor yX10_logSize.desc).map (fun d => d.parameters.length) = some 0 := by decide +kernel
theorem kd_L_count : yL_count.cls ≠ "java/lang/invoke/MethodHandle" ∧ yL_count.cls ≠ "java/lang/invoke/VarHandle" ∧ (parseMethodDescriptor yL_count.desc).map (fun d => d.parameters.length) = some 3 := by decide +kernel
theorem kd_X10_count : yX10_count.cls ≠ "java/lang/invoke/MethodHandle" ∧ yX10_count.cls ≠ "java/lang/invoke/VarHandle" ∧ (parseMethodDescriptor yX10_count.desc).map (fun d => d.parameters.length) = some 1 := by decide +kernel
theorem kd_X10_needRange : yX10_needRange.cls ≠ "java/lang/invoke/MethodHandle" ∧ yX10_needRange.cls ≠ "java/lang/invoke/VarHandle" ∧ (parseMethodDescriptor yX10_needRange.desc).map (fun d => d.parameters.length) = some 3 := by decide +kernel
theorem kd_L_setting : yL_setting.cls ≠ "java/lang/invoke/MethodHandle" ∧ yL_setting.cls ≠ "java/lang/invoke/VarHandle" ∧ (parseMethodDescriptor yL_setting.desc).map (fun d => d.parameters.length) = some 3 := by decide +kernel
theorem kd_X10_setting : yX10_setting.cls ≠ "java/lang/invoke/MethodHandle" ∧ yX10_setting.cls ≠ "java/lang/invoke/VarHandle" ∧ (parseMethodDescriptor yX10_setting.desc).map (fun d => d.parameters.length) = some 1 := by decide +kernel
theorem kd_L_setAmbient : yL_setAmbient.cls ≠ "java/lang/invoke/MethodHandle" ∧ yL_setAmbient.cls ≠ "java/lang/invoke/VarHandle" ∧ (parseMethodDescriptor yL_setAmbient.desc).map (fun d => d.parameters.length) = some 3 := by decide +kernel
theorem kd_X10_setAmbient : yX10_setAmbient.cls ≠ "java/lang/invoke/MethodHandle" ∧ yX10_setAmbient.cls ≠ "java/lang/invoke/VarHandle" ∧ (parseMethodDescriptor yX10_setAmbient.desc).map (fun d => d.parameters.length) = some 1 := by decide +kernel
theorem kd_L_setLimits : yL_setLimits.cls ≠ "java/lang/invoke/MethodHandle" ∧ yL_setLimits.cls ≠ "java/lang/invoke/VarHandle" ∧ (parseMethodDescriptor yL_setLimits.desc).map (fun d => d.parameters.length) = some 4 := by decide +kernel
theorem kd_X10_setLimits : yX10_setLimits.cls ≠ "java/lang/invoke/MethodHandle" ∧ yX10_setLimits.cls ≠ "java/lang/invoke/VarHandle" ∧ (parseMethodDescriptor yX10_setLimits.desc).map (fun d => d.parameters.length) = some 2 := by decide +kernel
theorem kd_L_setDerate : yL_setDerate.cls ≠ "java/lang/invoke/MethodHandle" ∧ yL_setDerate.cls ≠ "java/lang/invoke/VarHandle" ∧ (parseMethodDescriptor yL_setDerate.desc).map (fun d => d.parameters.length) = some 3 := by decide +kernel
theorem kd_X10_setDerate : yX10_setDerate.cls ≠ "java/lang/invoke/MethodHandle" ∧ yX10_setDerate.cls ≠ "java/lang/invoke/VarHandle" ∧ (parseMethodDescriptor yX10_setDerate.desc).map (fun d => d.parameters.length) = some 1 := by decide +kernel
theorem kd_L_stepValue : yL_stepValue.cls ≠ "java/lang/invoke/MethodHandle" ∧ yL_stepValue.cls ≠ "java/lang/invoke/VarHandle" ∧ (parseMethodDescriptor yL_stepValue.desc).map (fun d => d.parameters.length) = some 5 := by decide +kernel
theorem kd_X10_stepValue : yX10_stepValue.cls ≠ "java/lang/invoke/MethodHandle" ∧ yX10_stepValue.cls ≠ "java/lang/invoke/VarHandle" ∧ (parseMethodDescriptor yX10_stepValue.desc).map (fun d => d.parameters.length) = some 3 := by decide +kernel
theorem kd_X10_needProgram : yX10_needProgram.cls ≠ "java/lang/invoke/MethodHandle" ∧ yX10_needProgram.cls ≠ "java/lang/invoke/VarHandle" ∧ (parseMethodDescriptor yX10_needProgram.desc).map (fun d => d.parameters.length) = some 1 := by decide +kernel
theorem kd_X5_stepsOf : yX5_stepsOf.cls ≠ "java/lang/invoke/MethodHandle" ∧ yX5_stepsOf.cls ≠ "java/lang/invoke/VarHandle" ∧ (parseMethodDescriptor yX5_stepsOf.desc).map (fun d => d.parameters.length) = some 1 := by decide +kernel
theorem kd_X5_kindOf : yX5_kindOf.cls ≠ "java/lang/invoke/MethodHandle" ∧ yX5_kindOf.cls ≠ "java/lang/invoke/VarHandle" ∧ (parseMethodDescriptor yX5_kindOf.desc).map (fun d => d.parameters.length) = some 2 := by decide +kernel
theorem kd_X5_firstOf : yX5_firstOf.cls ≠ "java/lang/invoke/MethodHandle" ∧ yX5_firstOf.cls ≠ "java/lang/invoke/VarHandle" ∧ (parseMethodDescriptor yX5_firstOf.desc).map (fun d => d.parameters.length) = some 2 := by decide +kernel
theorem kd_X5_secondOf : yX5_secondOf.cls ≠ "java/lang/invoke/MethodHandle" ∧ yX5_secondOf.cls ≠ "java/lang/invoke/VarHandle" ∧ (parseMethodDescriptor yX5_secondOf.desc).map (fun d => d.parameters.length) = some 2 := by decide +kernel
theorem kd_L_advance : yL_advance.cls ≠ "java/lang/invoke/MethodHandle" ∧ yL_advance.cls ≠ "java/lang/invoke/VarHandle" ∧ (parseMethodDescriptor yL_advance.desc).map (fun d => d.parameters.length) = some 3 := by decide +kernel
theorem kd_X10_advance : yX10_advance.cls ≠ "java/lang/invoke/MethodHandle" ∧ yX10_advance.cls ≠ "java/lang/invoke/VarHandle" ∧ (parseMethodDescriptor yX10_advance.desc).map (fun d => d.parameters.length) = some 1 := by decide +kernel
theorem kd_X1_passTick : yX1_passTick.cls ≠ "java/lang/invoke/MethodHandle" ∧ yX1_passTick.cls ≠ "java/lang/invoke/VarHandle" ∧ (parseMethodDescriptor yX1_passTick.desc).map (fun d => d.parameters.length) = some 1 := by decide +kernel
theorem kd_X1_wantedCurrent : yX1_wantedCurrent.cls ≠ "java/lang/invoke/MethodHandle" ∧ yX1_wantedCurrent.cls ≠ "java/lang/invoke/VarHandle" ∧ (parseMethodDescriptor yX1_wantedCurrent.desc).map (fun d => d.parameters.length) = some 1 := by decide +kernel
theorem kd_X0_holding : yX0_holding.cls ≠ "java/lang/invoke/MethodHandle" ∧ yX0_holding.cls ≠ "java/lang/invoke/VarHandle" ∧ (parseMethodDescriptor yX0_holding.desc).map (fun d => d.parameters.length) = some 1 := by decide +kernel
theorem kd_X0_restVoltageAt : yX0_restVoltageAt.cls ≠ "java/lang/invoke/MethodHandle" ∧ yX0_restVoltageAt.cls ≠ "java/lang/invoke/VarHandle" ∧ (parseMethodDescriptor yX0_restVoltageAt.desc).map (fun d => d.parameters.length) = some 1 := by decide +kernel
theorem kd_J9_min_f86c9 : yJ9_min_f86c9.cls ≠ "java/lang/invoke/MethodHandle" ∧ yJ9_min_f86c9.cls ≠ "java/lang/invoke/VarHandle" ∧ (parseMethodDescriptor yJ9_min_f86c9.desc).map (fun d => d.parameters.length) = some 2 := by decide +kernel
theorem kd_J9_max_f86c9 : yJ9_max_f86c9.cls ≠ "java/lang/invoke/MethodHandle" ∧ yJ9_max_f86c9.cls ≠ "java/lang/invoke/VarHandle" ∧ (parseMethodDescriptor yJ9_max_f86c9.desc).map (fun d => d.parameters.length) = some 2 := by decide +kernel
theorem kd_X0_allowed : yX0_allowed.cls ≠ "java/lang/invoke/MethodHandle" ∧ yX0_allowed.cls ≠ "java/lang/invoke/VarHandle" ∧ (parseMethodDescriptor yX0_allowed.desc).map (fun d => d.parameters.length) = some 2 := by decide +kernel
theorem kd_X0_passCurrent : yX0_passCurrent.cls ≠ "java/lang/invoke/MethodHandle" ∧ yX0_passCurrent.cls ≠ "java/lang/invoke/VarHandle" ∧ (parseMethodDescriptor yX0_passCurrent.desc).map (fun d => d.parameters.length) = some 2 := by decide +kernel
theorem kd_X0_polarize : yX0_polarize.cls ≠ "java/lang/invoke/MethodHandle" ∧ yX0_polarize.cls ≠ "java/lang/invoke/VarHandle" ∧ (parseMethodDescriptor yX0_polarize.desc).map (fun d => d.parameters.length) = some 1 := by decide +kernel
theorem kd_J6_compare_7cf53 : yJ6_compare_7cf53.cls ≠ "java/lang/invoke/MethodHandle" ∧ yJ6_compare_7cf53.cls ≠ "java/lang/invoke/VarHandle" ∧ (parseMethodDescriptor yJ6_compare_7cf53.desc).map (fun d => d.parameters.length) = some 2 := by decide +kernel
theorem kd_X0_moveCharge : yX0_moveCharge.cls ≠ "java/lang/invoke/MethodHandle" ∧ yX0_moveCharge.cls ≠ "java/lang/invoke/VarHandle" ∧ (parseMethodDescriptor yX0_moveCharge.desc).map (fun d => d.parameters.length) = some 2 := by decide +kernel
theorem kd_X0_wear : yX0_wear.cls ≠ "java/lang/invoke/MethodHandle" ∧ yX0_wear.cls ≠ "java/lang/invoke/VarHandle" ∧ (parseMethodDescriptor yX0_wear.desc).map (fun d => d.parameters.length) = some 2 := by decide +kernel
theorem kd_X10_remainder : yX10_remainder.cls ≠ "java/lang/invoke/MethodHandle" ∧ yX10_remainder.cls ≠ "java/lang/invoke/VarHandle" ∧ (parseMethodDescriptor yX10_remainder.desc).map (fun d => d.parameters.length) = some 2 := by decide +kernel
theorem kd_X0_warm : yX0_warm.cls ≠ "java/lang/invoke/MethodHandle" ∧ yX0_warm.cls ≠ "java/lang/invoke/VarHandle" ∧ (parseMethodDescriptor yX0_warm.desc).map (fun d => d.parameters.length) = some 2 := by decide +kernel
theorem kd_X0_thousandths : yX0_thousandths.cls ≠ "java/lang/invoke/MethodHandle" ∧ yX0_thousandths.cls ≠ "java/lang/invoke/VarHandle" ∧ (parseMethodDescriptor yX0_thousandths.desc).map (fun d => d.parameters.length) = some 0 := by decide +kernel
theorem kd_X4_countFilling : yX4_countFilling.cls ≠ "java/lang/invoke/MethodHandle" ∧ yX4_countFilling.cls ≠ "java/lang/invoke/VarHandle" ∧ (parseMethodDescriptor yX4_countFilling.desc).map (fun d => d.parameters.length) = some 1 := by decide +kernel
theorem kd_X1_warn : yX1_warn.cls ≠ "java/lang/invoke/MethodHandle" ∧ yX1_warn.cls ≠ "java/lang/invoke/VarHandle" ∧ (parseMethodDescriptor yX1_warn.desc).map (fun d => d.parameters.length) = some 1 := by decide +kernel
theorem kd_X9_note : yX9_note.cls ≠ "java/lang/invoke/MethodHandle" ∧ yX9_note.cls ≠ "java/lang/invoke/VarHandle" ∧ (parseMethodDescriptor yX9_note.desc).map (fun d => d.parameters.length) = some 3 := by decide +kernel
theorem kd_X8_addRow : yX8_addRow.cls ≠ "java/lang/invoke/MethodHandle" ∧ yX8_addRow.cls ≠ "java/lang/invoke/VarHandle" ∧ (parseMethodDescriptor yX8_addRow.desc).map (fun d => d.parameters.length) = some 0 := by decide +kernel
theorem kd_X8_placeOf : yX8_placeOf.cls ≠ "java/lang/invoke/MethodHandle" ∧ yX8_placeOf.cls ≠ "java/lang/invoke/VarHandle" ∧ (parseMethodDescriptor yX8_placeOf.desc).map (fun d => d.parameters.length) = some 1 := by decide +kernel
theorem kd_X1_stepEnds : yX1_stepEnds.cls ≠ "java/lang/invoke/MethodHandle" ∧ yX1_stepEnds.cls ≠ "java/lang/invoke/VarHandle" ∧ (parseMethodDescriptor yX1_stepEnds.desc).map (fun d => d.parameters.length) = some 1 := by decide +kernel
theorem kd_X1_tripReason : yX1_tripReason.cls ≠ "java/lang/invoke/MethodHandle" ∧ yX1_tripReason.cls ≠ "java/lang/invoke/VarHandle" ∧ (parseMethodDescriptor yX1_tripReason.desc).map (fun d => d.parameters.length) = some 2 := by decide +kernel
theorem kd_X1_trip : yX1_trip.cls ≠ "java/lang/invoke/MethodHandle" ∧ yX1_trip.cls ≠ "java/lang/invoke/VarHandle" ∧ (parseMethodDescriptor yX1_trip.desc).map (fun d => d.parameters.length) = some 2 := by decide +kernel
theorem kd_X1_measureEnd : yX1_measureEnd.cls ≠ "java/lang/invoke/MethodHandle" ∧ yX1_measureEnd.cls ≠ "java/lang/invoke/VarHandle" ∧ (parseMethodDescriptor yX1_measureEnd.desc).map (fun d => d.parameters.length) = some 1 := by decide +kernel
theorem kd_X1_makeRecord : yX1_makeRecord.cls ≠ "java/lang/invoke/MethodHandle" ∧ yX1_makeRecord.cls ≠ "java/lang/invoke/VarHandle" ∧ (parseMethodDescriptor yX1_makeRecord.desc).map (fun d => d.parameters.length) = some 1 := by decide +kernel
theorem kd_X1_countFromHere : yX1_countFromHere.cls ≠ "java/lang/invoke/MethodHandle" ∧ yX1_countFromHere.cls ≠ "java/lang/invoke/VarHandle" ∧ (parseMethodDescriptor yX1_countFromHere.desc).map (fun d => d.parameters.length) = some 0 := by decide +kernel
theorem kd_X1_leaveStep : yX1_leaveStep.cls ≠ "java/lang/invoke/MethodHandle" ∧ yX1_leaveStep.cls ≠ "java/lang/invoke/VarHandle" ∧ (parseMethodDescriptor yX1_leaveStep.desc).map (fun d => d.parameters.length) = some 1 := by decide +kernel
theorem kd_X1_stepBehind : yX1_stepBehind.cls ≠ "java/lang/invoke/MethodHandle" ∧ yX1_stepBehind.cls ≠ "java/lang/invoke/VarHandle" ∧ (parseMethodDescriptor yX1_stepBehind.desc).map (fun d => d.parameters.length) = some 1 := by decide +kernel
theorem kd_X1_enterStep : yX1_enterStep.cls ≠ "java/lang/invoke/MethodHandle" ∧ yX1_enterStep.cls ≠ "java/lang/invoke/VarHandle" ∧ (parseMethodDescriptor yX1_enterStep.desc).map (fun d => d.parameters.length) = some 1 := by decide +kernel
theorem kd_X1_takeWaiting : yX1_takeWaiting.cls ≠ "java/lang/invoke/MethodHandle" ∧ yX1_takeWaiting.cls ≠ "java/lang/invoke/VarHandle" ∧ (parseMethodDescriptor yX1_takeWaiting.desc).map (fun d => d.parameters.length) = some 0 := by decide +kernel
theorem kd_X1_begin : yX1_begin.cls ≠ "java/lang/invoke/MethodHandle" ∧ yX1_begin.cls ≠ "java/lang/invoke/VarHandle" ∧ (parseMethodDescriptor yX1_begin.desc).map (fun d => d.parameters.length) = some 2 := by decide +kernel
theorem kd_L_start : yL_start.cls ≠ "java/lang/invoke/MethodHandle" ∧ yL_start.cls ≠ "java/lang/invoke/VarHandle" ∧ (parseMethodDescriptor yL_start.desc).map (fun d => d.parameters.length) = some 4 := by decide +kernel
theorem kd_X10_start : yX10_start.cls ≠ "java/lang/invoke/MethodHandle" ∧ yX10_start.cls ≠ "java/lang/invoke/VarHandle" ∧ (parseMethodDescriptor yX10_start.desc).map (fun d => d.parameters.length) = some 2 := by decide +kernel
theorem kd_X10_needChannel : yX10_needChannel.cls ≠ "java/lang/invoke/MethodHandle" ∧ yX10_needChannel.cls ≠ "java/lang/invoke/VarHandle" ∧ (parseMethodDescriptor yX10_needChannel.desc).map (fun d => d.parameters.length) = some 1 := by decide +kernel
theorem kd_X1_isFree : yX1_isFree.cls ≠ "java/lang/invoke/MethodHandle" ∧ yX1_isFree.cls ≠ "java/lang/invoke/VarHandle" ∧ (parseMethodDescriptor yX1_isFree.desc).map (fun d => d.parameters.length) = some 0 := by decide +kernel
theorem kd_X9_channelsIn : yX9_channelsIn.cls ≠ "java/lang/invoke/MethodHandle" ∧ yX9_channelsIn.cls ≠ "java/lang/invoke/VarHandle" ∧ (parseMethodDescriptor yX9_channelsIn.desc).map (fun d => d.parameters.length) = some 1 := by decide +kernel
theorem kd_J6_bitCount_0f7a4 : yJ6_bitCount_0f7a4.cls ≠ "java/lang/invoke/MethodHandle" ∧ yJ6_bitCount_0f7a4.cls ≠ "java/lang/invoke/VarHandle" ∧ (parseMethodDescriptor yJ6_bitCount_0f7a4.desc).map (fun d => d.parameters.length) = some 1 := by decide +kernel
theorem kd_L_pause : yL_pause.cls ≠ "java/lang/invoke/MethodHandle" ∧ yL_pause.cls ≠ "java/lang/invoke/VarHandle" ∧ (parseMethodDescriptor yL_pause.desc).map (fun d => d.parameters.length) = some 3 := by decide +kernel
theorem kd_X10_pause : yX10_pause.cls ≠ "java/lang/invoke/MethodHandle" ∧ yX10_pause.cls ≠ "java/lang/invoke/VarHandle" ∧ (parseMethodDescriptor yX10_pause.desc).map (fun d => d.parameters.length) = some 1 := by decide +kernel
theorem kd_L_resume : yL_resume.cls ≠ "java/lang/invoke/MethodHandle" ∧ yL_resume.cls ≠ "java/lang/invoke/VarHandle" ∧ (parseMethodDescriptor yL_resume.desc).map (fun d => d.parameters.length) = some 3 := by decide +kernel
theorem kd_X10_resume : yX10_resume.cls ≠ "java/lang/invoke/MethodHandle" ∧ yX10_resume.cls ≠ "java/lang/invoke/VarHandle" ∧ (parseMethodDescriptor yX10_resume.desc).map (fun d => d.parameters.length) = some 1 := by decide +kernel
theorem kd_L_stop : yL_stop.cls ≠ "java/lang/invoke/MethodHandle" ∧ yL_stop.cls ≠ "java/lang/invoke/VarHandle" ∧ (parseMethodDescriptor yL_stop.desc).map (fun d => d.parameters.length) = some 3 := by decide +kernel
theorem kd_X10_stop : yX10_stop.cls ≠ "java/lang/invoke/MethodHandle" ∧ yX10_stop.cls ≠ "java/lang/invoke/VarHandle" ∧ (parseMethodDescriptor yX10_stop.desc).map (fun d => d.parameters.length) = some 1 := by decide +kernel
theorem kd_L_skip : yL_skip.cls ≠ "java/lang/invoke/MethodHandle" ∧ yL_skip.cls ≠ "java/lang/invoke/VarHandle" ∧ (parseMethodDescriptor yL_skip.desc).map (fun d => d.parameters.length) = some 3 := by decide +kernel
theorem kd_X10_skip : yX10_skip.cls ≠ "java/lang/invoke/MethodHandle" ∧ yX10_skip.cls ≠ "java/lang/invoke/VarHandle" ∧ (parseMethodDescriptor yX10_skip.desc).map (fun d => d.parameters.length) = some 1 := by decide +kernel
theorem kd_L_replace : yL_replace.cls ≠ "java/lang/invoke/MethodHandle" ∧ yL_replace.cls ≠ "java/lang/invoke/VarHandle" ∧ (parseMethodDescriptor yL_replace.desc).map (fun d => d.parameters.length) = some 4 := by decide +kernel
theorem kd_X10_replace : yX10_replace.cls ≠ "java/lang/invoke/MethodHandle" ∧ yX10_replace.cls ≠ "java/lang/invoke/VarHandle" ∧ (parseMethodDescriptor yX10_replace.desc).map (fun d => d.parameters.length) = some 2 := by decide +kernel
theorem kd_L_enqueue : yL_enqueue.cls ≠ "java/lang/invoke/MethodHandle" ∧ yL_enqueue.cls ≠ "java/lang/invoke/VarHandle" ∧ (parseMethodDescriptor yL_enqueue.desc).map (fun d => d.parameters.length) = some 4 := by decide +kernel
theorem kd_X10_enqueue : yX10_enqueue.cls ≠ "java/lang/invoke/MethodHandle" ∧ yX10_enqueue.cls ≠ "java/lang/invoke/VarHandle" ∧ (parseMethodDescriptor yX10_enqueue.desc).map (fun d => d.parameters.length) = some 2 := by decide +kernel
theorem kd_L_dequeue : yL_dequeue.cls ≠ "java/lang/invoke/MethodHandle" ∧ yL_dequeue.cls ≠ "java/lang/invoke/VarHandle" ∧ (parseMethodDescriptor yL_dequeue.desc).map (fun d => d.parameters.length) = some 3 := by decide +kernel
theorem kd_X10_dequeue : yX10_dequeue.cls ≠ "java/lang/invoke/MethodHandle" ∧ yX10_dequeue.cls ≠ "java/lang/invoke/VarHandle" ∧ (parseMethodDescriptor yX10_dequeue.desc).map (fun d => d.parameters.length) = some 1 := by decide +kernel
theorem kd_L_startNext : yL_startNext.cls ≠ "java/lang/invoke/MethodHandle" ∧ yL_startNext.cls ≠ "java/lang/invoke/VarHandle" ∧ (parseMethodDescriptor yL_startNext.desc).map (fun d => d.parameters.length) = some 3 := by decide +kernel
theorem kd_X10_startNext : yX10_startNext.cls ≠ "java/lang/invoke/MethodHandle" ∧ yX10_startNext.cls ≠ "java/lang/invoke/VarHandle" ∧ (parseMethodDescriptor yX10_startNext.desc).map (fun d => d.parameters.length) = some 1 := by decide +kernel
theorem kd_L_queueAt : yL_queueAt.cls ≠ "java/lang/invoke/MethodHandle" ∧ yL_queueAt.cls ≠ "java/lang/invoke/VarHandle" ∧ (parseMethodDescriptor yL_queueAt.desc).map (fun d => d.parameters.length) = some 4 := by decide +kernel
theorem kd_X10_queueAt : yX10_queueAt.cls ≠ "java/lang/invoke/MethodHandle" ∧ yX10_queueAt.cls ≠ "java/lang/invoke/VarHandle" ∧ (parseMethodDescriptor yX10_queueAt.desc).map (fun d => d.parameters.length) = some 2 := by decide +kernel
theorem kd_L_queueSize : yL_queueSize.cls ≠ "java/lang/invoke/MethodHandle" ∧ yL_queueSize.cls ≠ "java/lang/invoke/VarHandle" ∧ (parseMethodDescriptor yL_queueSize.desc).map (fun d => d.parameters.length) = some 3 := by decide +kernel
theorem kd_X10_queueSize : yX10_queueSize.cls ≠ "java/lang/invoke/MethodHandle" ∧ yX10_queueSize.cls ≠ "java/lang/invoke/VarHandle" ∧ (parseMethodDescriptor yX10_queueSize.desc).map (fun d => d.parameters.length) = some 1 := by decide +kernel
theorem kd_L_value : yL_value.cls ≠ "java/lang/invoke/MethodHandle" ∧ yL_value.cls ≠ "java/lang/invoke/VarHandle" ∧ (parseMethodDescriptor yL_value.desc).map (fun d => d.parameters.length) = some 4 := by decide +kernel
theorem kd_X10_value : yX10_value.cls ≠ "java/lang/invoke/MethodHandle" ∧ yX10_value.cls ≠ "java/lang/invoke/VarHandle" ∧ (parseMethodDescriptor yX10_value.desc).map (fun d => d.parameters.length) = some 2 := by decide +kernel
theorem kd_X1_number : yX1_number.cls ≠ "java/lang/invoke/MethodHandle" ∧ yX1_number.cls ≠ "java/lang/invoke/VarHandle" ∧ (parseMethodDescriptor yX1_number.desc).map (fun d => d.parameters.length) = some 1 := by decide +kernel
theorem kd_L_restVoltage : yL_restVoltage.cls ≠ "java/lang/invoke/MethodHandle" ∧ yL_restVoltage.cls ≠ "java/lang/invoke/VarHandle" ∧ (parseMethodDescriptor yL_restVoltage.desc).map (fun d => d.parameters.length) = some 4 := by decide +kernel
theorem kd_X10_restVoltage : yX10_restVoltage.cls ≠ "java/lang/invoke/MethodHandle" ∧ yX10_restVoltage.cls ≠ "java/lang/invoke/VarHandle" ∧ (parseMethodDescriptor yX10_restVoltage.desc).map (fun d => d.parameters.length) = some 2 := by decide +kernel
theorem kd_L_chargeFor : yL_chargeFor.cls ≠ "java/lang/invoke/MethodHandle" ∧ yL_chargeFor.cls ≠ "java/lang/invoke/VarHandle" ∧ (parseMethodDescriptor yL_chargeFor.desc).map (fun d => d.parameters.length) = some 4 := by decide +kernel
theorem kd_X10_chargeFor : yX10_chargeFor.cls ≠ "java/lang/invoke/MethodHandle" ∧ yX10_chargeFor.cls ≠ "java/lang/invoke/VarHandle" ∧ (parseMethodDescriptor yX10_chargeFor.desc).map (fun d => d.parameters.length) = some 2 := by decide +kernel
theorem kd_X0_smallestChargeFor : yX0_smallestChargeFor.cls ≠ "java/lang/invoke/MethodHandle" ∧ yX0_smallestChargeFor.cls ≠ "java/lang/invoke/VarHandle" ∧ (parseMethodDescriptor yX0_smallestChargeFor.desc).map (fun d => d.parameters.length) = some 1 := by decide +kernel
theorem kd_L_filling : yL_filling.cls ≠ "java/lang/invoke/MethodHandle" ∧ yL_filling.cls ≠ "java/lang/invoke/VarHandle" ∧ (parseMethodDescriptor yL_filling.desc).map (fun d => d.parameters.length) = some 3 := by decide +kernel
theorem kd_X10_filling : yX10_filling.cls ≠ "java/lang/invoke/MethodHandle" ∧ yX10_filling.cls ≠ "java/lang/invoke/VarHandle" ∧ (parseMethodDescriptor yX10_filling.desc).map (fun d => d.parameters.length) = some 1 := by decide +kernel
theorem kd_L_ledger : yL_ledger.cls ≠ "java/lang/invoke/MethodHandle" ∧ yL_ledger.cls ≠ "java/lang/invoke/VarHandle" ∧ (parseMethodDescriptor yL_ledger.desc).map (fun d => d.parameters.length) = some 4 := by decide +kernel
theorem kd_X10_ledger : yX10_ledger.cls ≠ "java/lang/invoke/MethodHandle" ∧ yX10_ledger.cls ≠ "java/lang/invoke/VarHandle" ∧ (parseMethodDescriptor yX10_ledger.desc).map (fun d => d.parameters.length) = some 2 := by decide +kernel
theorem kd_L_chargeEfficiency : yL_chargeEfficiency.cls ≠ "java/lang/invoke/MethodHandle" ∧ yL_chargeEfficiency.cls ≠ "java/lang/invoke/VarHandle" ∧ (parseMethodDescriptor yL_chargeEfficiency.desc).map (fun d => d.parameters.length) = some 3 := by decide +kernel
theorem kd_X10_chargeEfficiency : yX10_chargeEfficiency.cls ≠ "java/lang/invoke/MethodHandle" ∧ yX10_chargeEfficiency.cls ≠ "java/lang/invoke/VarHandle" ∧ (parseMethodDescriptor yX10_chargeEfficiency.desc).map (fun d => d.parameters.length) = some 1 := by decide +kernel
theorem kd_L_energyEfficiency : yL_energyEfficiency.cls ≠ "java/lang/invoke/MethodHandle" ∧ yL_energyEfficiency.cls ≠ "java/lang/invoke/VarHandle" ∧ (parseMethodDescriptor yL_energyEfficiency.desc).map (fun d => d.parameters.length) = some 3 := by decide +kernel
theorem kd_X10_energyEfficiency : yX10_energyEfficiency.cls ≠ "java/lang/invoke/MethodHandle" ∧ yX10_energyEfficiency.cls ≠ "java/lang/invoke/VarHandle" ∧ (parseMethodDescriptor yX10_energyEfficiency.desc).map (fun d => d.parameters.length) = some 1 := by decide +kernel
theorem kd_L_power : yL_power.cls ≠ "java/lang/invoke/MethodHandle" ∧ yL_power.cls ≠ "java/lang/invoke/VarHandle" ∧ (parseMethodDescriptor yL_power.desc).map (fun d => d.parameters.length) = some 3 := by decide +kernel
theorem kd_X10_power : yX10_power.cls ≠ "java/lang/invoke/MethodHandle" ∧ yX10_power.cls ≠ "java/lang/invoke/VarHandle" ∧ (parseMethodDescriptor yX10_power.desc).map (fun d => d.parameters.length) = some 1 := by decide +kernel
theorem kd_L_measuredRest : yL_measuredRest.cls ≠ "java/lang/invoke/MethodHandle" ∧ yL_measuredRest.cls ≠ "java/lang/invoke/VarHandle" ∧ (parseMethodDescriptor yL_measuredRest.desc).map (fun d => d.parameters.length) = some 3 := by decide +kernel
theorem kd_X10_measuredRest : yX10_measuredRest.cls ≠ "java/lang/invoke/MethodHandle" ∧ yX10_measuredRest.cls ≠ "java/lang/invoke/VarHandle" ∧ (parseMethodDescriptor yX10_measuredRest.desc).map (fun d => d.parameters.length) = some 1 := by decide +kernel
theorem kd_L_capacityByRule : yL_capacityByRule.cls ≠ "java/lang/invoke/MethodHandle" ∧ yL_capacityByRule.cls ≠ "java/lang/invoke/VarHandle" ∧ (parseMethodDescriptor yL_capacityByRule.desc).map (fun d => d.parameters.length) = some 3 := by decide +kernel
theorem kd_X10_capacityByRule : yX10_capacityByRule.cls ≠ "java/lang/invoke/MethodHandle" ∧ yX10_capacityByRule.cls ≠ "java/lang/invoke/VarHandle" ∧ (parseMethodDescriptor yX10_capacityByRule.desc).map (fun d => d.parameters.length) = some 1 := by decide +kernel
theorem kd_L_internalResistance : yL_internalResistance.cls ≠ "java/lang/invoke/MethodHandle" ∧ yL_internalResistance.cls ≠ "java/lang/invoke/VarHandle" ∧ (parseMethodDescriptor yL_internalResistance.desc).map (fun d => d.parameters.length) = some 3 := by decide +kernel
theorem kd_X10_internalResistance : yX10_internalResistance.cls ≠ "java/lang/invoke/MethodHandle" ∧ yX10_internalResistance.cls ≠ "java/lang/invoke/VarHandle" ∧ (parseMethodDescriptor yX10_internalResistance.desc).map (fun d => d.parameters.length) = some 1 := by decide +kernel
theorem kd_L_ticksIn : yL_ticksIn.cls ≠ "java/lang/invoke/MethodHandle" ∧ yL_ticksIn.cls ≠ "java/lang/invoke/VarHandle" ∧ (parseMethodDescriptor yL_ticksIn.desc).map (fun d => d.parameters.length) = some 4 := by decide +kernel
theorem kd_X10_ticksIn : yX10_ticksIn.cls ≠ "java/lang/invoke/MethodHandle" ∧ yX10_ticksIn.cls ≠ "java/lang/invoke/VarHandle" ∧ (parseMethodDescriptor yX10_ticksIn.desc).map (fun d => d.parameters.length) = some 2 := by decide +kernel
theorem kd_L_warnings : yL_warnings.cls ≠ "java/lang/invoke/MethodHandle" ∧ yL_warnings.cls ≠ "java/lang/invoke/VarHandle" ∧ (parseMethodDescriptor yL_warnings.desc).map (fun d => d.parameters.length) = some 3 := by decide +kernel
theorem kd_X10_warnings : yX10_warnings.cls ≠ "java/lang/invoke/MethodHandle" ∧ yX10_warnings.cls ≠ "java/lang/invoke/VarHandle" ∧ (parseMethodDescriptor yX10_warnings.desc).map (fun d => d.parameters.length) = some 1 := by decide +kernel
theorem kd_L_warned : yL_warned.cls ≠ "java/lang/invoke/MethodHandle" ∧ yL_warned.cls ≠ "java/lang/invoke/VarHandle" ∧ (parseMethodDescriptor yL_warned.desc).map (fun d => d.parameters.length) = some 3 := by decide +kernel
theorem kd_X10_warned : yX10_warned.cls ≠ "java/lang/invoke/MethodHandle" ∧ yX10_warned.cls ≠ "java/lang/invoke/VarHandle" ∧ (parseMethodDescriptor yX10_warned.desc).map (fun d => d.parameters.length) = some 1 := by decide +kernel
theorem kd_L_repeats : yL_repeats.cls ≠ "java/lang/invoke/MethodHandle" ∧ yL_repeats.cls ≠ "java/lang/invoke/VarHandle" ∧ (parseMethodDescriptor yL_repeats.desc).map (fun d => d.parameters.length) = some 4 := by decide +kernel
theorem kd_X10_repeats : yX10_repeats.cls ≠ "java/lang/invoke/MethodHandle" ∧ yX10_repeats.cls ≠ "java/lang/invoke/VarHandle" ∧ (parseMethodDescriptor yX10_repeats.desc).map (fun d => d.parameters.length) = some 2 := by decide +kernel
theorem kd_L_inState : yL_inState.cls ≠ "java/lang/invoke/MethodHandle" ∧ yL_inState.cls ≠ "java/lang/invoke/VarHandle" ∧ (parseMethodDescriptor yL_inState.desc).map (fun d => d.parameters.length) = some 3 := by decide +kernel
theorem kd_X10_inState : yX10_inState.cls ≠ "java/lang/invoke/MethodHandle" ∧ yX10_inState.cls ≠ "java/lang/invoke/VarHandle" ∧ (parseMethodDescriptor yX10_inState.desc).map (fun d => d.parameters.length) = some 1 := by decide +kernel
theorem kd_L_record : yL_record.cls ≠ "java/lang/invoke/MethodHandle" ∧ yL_record.cls ≠ "java/lang/invoke/VarHandle" ∧ (parseMethodDescriptor yL_record.desc).map (fun d => d.parameters.length) = some 4 := by decide +kernel
theorem kd_X10_record : yX10_record.cls ≠ "java/lang/invoke/MethodHandle" ∧ yX10_record.cls ≠ "java/lang/invoke/VarHandle" ∧ (parseMethodDescriptor yX10_record.desc).map (fun d => d.parameters.length) = some 2 := by decide +kernel
theorem kd_X8_get : yX8_get.cls ≠ "java/lang/invoke/MethodHandle" ∧ yX8_get.cls ≠ "java/lang/invoke/VarHandle" ∧ (parseMethodDescriptor yX8_get.desc).map (fun d => d.parameters.length) = some 2 := by decide +kernel
theorem kd_L_counting : yL_counting.cls ≠ "java/lang/invoke/MethodHandle" ∧ yL_counting.cls ≠ "java/lang/invoke/VarHandle" ∧ (parseMethodDescriptor yL_counting.desc).map (fun d => d.parameters.length) = some 3 := by decide +kernel
theorem kd_X10_counting : yX10_counting.cls ≠ "java/lang/invoke/MethodHandle" ∧ yX10_counting.cls ≠ "java/lang/invoke/VarHandle" ∧ (parseMethodDescriptor yX10_counting.desc).map (fun d => d.parameters.length) = some 1 := by decide +kernel
theorem kd_X9_recordCounts : yX9_recordCounts.cls ≠ "java/lang/invoke/MethodHandle" ∧ yX9_recordCounts.cls ≠ "java/lang/invoke/VarHandle" ∧ (parseMethodDescriptor yX9_recordCounts.desc).map (fun d => d.parameters.length) = some 2 := by decide +kernel
theorem kd_L_loss : yL_loss.cls ≠ "java/lang/invoke/MethodHandle" ∧ yL_loss.cls ≠ "java/lang/invoke/VarHandle" ∧ (parseMethodDescriptor yL_loss.desc).map (fun d => d.parameters.length) = some 3 := by decide +kernel
theorem kd_X10_loss : yX10_loss.cls ≠ "java/lang/invoke/MethodHandle" ∧ yX10_loss.cls ≠ "java/lang/invoke/VarHandle" ∧ (parseMethodDescriptor yX10_loss.desc).map (fun d => d.parameters.length) = some 1 := by decide +kernel
theorem kd_L_logEntry : yL_logEntry.cls ≠ "java/lang/invoke/MethodHandle" ∧ yL_logEntry.cls ≠ "java/lang/invoke/VarHandle" ∧ (parseMethodDescriptor yL_logEntry.desc).map (fun d => d.parameters.length) = some 4 := by decide +kernel
theorem kd_X10_logEntry : yX10_logEntry.cls ≠ "java/lang/invoke/MethodHandle" ∧ yX10_logEntry.cls ≠ "java/lang/invoke/VarHandle" ∧ (parseMethodDescriptor yX10_logEntry.desc).map (fun d => d.parameters.length) = some 2 := by decide +kernel
theorem kd_L_eventsOf : yL_eventsOf.cls ≠ "java/lang/invoke/MethodHandle" ∧ yL_eventsOf.cls ≠ "java/lang/invoke/VarHandle" ∧ (parseMethodDescriptor yL_eventsOf.desc).map (fun d => d.parameters.length) = some 4 := by decide +kernel
theorem kd_X10_eventsOf : yX10_eventsOf.cls ≠ "java/lang/invoke/MethodHandle" ∧ yX10_eventsOf.cls ≠ "java/lang/invoke/VarHandle" ∧ (parseMethodDescriptor yX10_eventsOf.desc).map (fun d => d.parameters.length) = some 2 := by decide +kernel
theorem kd_L_stepEndsIn : yL_stepEndsIn.cls ≠ "java/lang/invoke/MethodHandle" ∧ yL_stepEndsIn.cls ≠ "java/lang/invoke/VarHandle" ∧ (parseMethodDescriptor yL_stepEndsIn.desc).map (fun d => d.parameters.length) = some 3 := by decide +kernel
theorem kd_X10_stepEndsIn : yX10_stepEndsIn.cls ≠ "java/lang/invoke/MethodHandle" ∧ yX10_stepEndsIn.cls ≠ "java/lang/invoke/VarHandle" ∧ (parseMethodDescriptor yX10_stepEndsIn.desc).map (fun d => d.parameters.length) = some 1 := by decide +kernel
theorem kd_X10_needTrial : yX10_needTrial.cls ≠ "java/lang/invoke/MethodHandle" ∧ yX10_needTrial.cls ≠ "java/lang/invoke/VarHandle" ∧ (parseMethodDescriptor yX10_needTrial.desc).map (fun d => d.parameters.length) = some 1 := by decide +kernel
theorem kd_L_doneIn : yL_doneIn.cls ≠ "java/lang/invoke/MethodHandle" ∧ yL_doneIn.cls ≠ "java/lang/invoke/VarHandle" ∧ (parseMethodDescriptor yL_doneIn.desc).map (fun d => d.parameters.length) = some 3 := by decide +kernel
theorem kd_X10_doneIn : yX10_doneIn.cls ≠ "java/lang/invoke/MethodHandle" ∧ yX10_doneIn.cls ≠ "java/lang/invoke/VarHandle" ∧ (parseMethodDescriptor yX10_doneIn.desc).map (fun d => d.parameters.length) = some 1 := by decide +kernel
theorem kd_X10_ticksUntil : yX10_ticksUntil.cls ≠ "java/lang/invoke/MethodHandle" ∧ yX10_ticksUntil.cls ≠ "java/lang/invoke/VarHandle" ∧ (parseMethodDescriptor yX10_ticksUntil.desc).map (fun d => d.parameters.length) = some 2 := by decide +kernel
theorem kd_L_tripsIn : yL_tripsIn.cls ≠ "java/lang/invoke/MethodHandle" ∧ yL_tripsIn.cls ≠ "java/lang/invoke/VarHandle" ∧ (parseMethodDescriptor yL_tripsIn.desc).map (fun d => d.parameters.length) = some 3 := by decide +kernel
theorem kd_X10_tripsIn : yX10_tripsIn.cls ≠ "java/lang/invoke/MethodHandle" ∧ yX10_tripsIn.cls ≠ "java/lang/invoke/VarHandle" ∧ (parseMethodDescriptor yX10_tripsIn.desc).map (fun d => d.parameters.length) = some 1 := by decide +kernel
theorem kd_L_valueAfter : yL_valueAfter.cls ≠ "java/lang/invoke/MethodHandle" ∧ yL_valueAfter.cls ≠ "java/lang/invoke/VarHandle" ∧ (parseMethodDescriptor yL_valueAfter.desc).map (fun d => d.parameters.length) = some 5 := by decide +kernel
theorem kd_X10_valueAfter : yX10_valueAfter.cls ≠ "java/lang/invoke/MethodHandle" ∧ yX10_valueAfter.cls ≠ "java/lang/invoke/VarHandle" ∧ (parseMethodDescriptor yX10_valueAfter.desc).map (fun d => d.parameters.length) = some 3 := by decide +kernel
theorem kd_L_peakTemperature : yL_peakTemperature.cls ≠ "java/lang/invoke/MethodHandle" ∧ yL_peakTemperature.cls ≠ "java/lang/invoke/VarHandle" ∧ (parseMethodDescriptor yL_peakTemperature.desc).map (fun d => d.parameters.length) = some 4 := by decide +kernel
theorem kd_X10_peakTemperature : yX10_peakTemperature.cls ≠ "java/lang/invoke/MethodHandle" ∧ yX10_peakTemperature.cls ≠ "java/lang/invoke/VarHandle" ∧ (parseMethodDescriptor yX10_peakTemperature.desc).map (fun d => d.parameters.length) = some 2 := by decide +kernel
theorem kd_L_settledIn : yL_settledIn.cls ≠ "java/lang/invoke/MethodHandle" ∧ yL_settledIn.cls ≠ "java/lang/invoke/VarHandle" ∧ (parseMethodDescriptor yL_settledIn.desc).map (fun d => d.parameters.length) = some 3 := by decide +kernel
theorem kd_X10_settledIn : yX10_settledIn.cls ≠ "java/lang/invoke/MethodHandle" ∧ yX10_settledIn.cls ≠ "java/lang/invoke/VarHandle" ∧ (parseMethodDescriptor yX10_settledIn.desc).map (fun d => d.parameters.length) = some 1 := by decide +kernel
theorem kd_L_duration : yL_duration.cls ≠ "java/lang/invoke/MethodHandle" ∧ yL_duration.cls ≠ "java/lang/invoke/VarHandle" ∧ (parseMethodDescriptor yL_duration.desc).map (fun d => d.parameters.length) = some 4 := by decide +kernel
theorem kd_X10_duration : yX10_duration.cls ≠ "java/lang/invoke/MethodHandle" ∧ yX10_duration.cls ≠ "java/lang/invoke/VarHandle" ∧ (parseMethodDescriptor yX10_duration.desc).map (fun d => d.parameters.length) = some 2 := by decide +kernel
theorem kd_X10_needTrialOf : yX10_needTrialOf.cls ≠ "java/lang/invoke/MethodHandle" ∧ yX10_needTrialOf.cls ≠ "java/lang/invoke/VarHandle" ∧ (parseMethodDescriptor yX10_needTrialOf.desc).map (fun d => d.parameters.length) = some 2 := by decide +kernel
theorem kd_L_shortest : yL_shortest.cls ≠ "java/lang/invoke/MethodHandle" ∧ yL_shortest.cls ≠ "java/lang/invoke/VarHandle" ∧ (parseMethodDescriptor yL_shortest.desc).map (fun d => d.parameters.length) = some 3 := by decide +kernel
theorem kd_X10_shortest : yX10_shortest.cls ≠ "java/lang/invoke/MethodHandle" ∧ yX10_shortest.cls ≠ "java/lang/invoke/VarHandle" ∧ (parseMethodDescriptor yX10_shortest.desc).map (fun d => d.parameters.length) = some 1 := by decide +kernel
theorem kd_L_capacityIf : yL_capacityIf.cls ≠ "java/lang/invoke/MethodHandle" ∧ yL_capacityIf.cls ≠ "java/lang/invoke/VarHandle" ∧ (parseMethodDescriptor yL_capacityIf.desc).map (fun d => d.parameters.length) = some 4 := by decide +kernel
theorem kd_X10_capacityIf : yX10_capacityIf.cls ≠ "java/lang/invoke/MethodHandle" ∧ yX10_capacityIf.cls ≠ "java/lang/invoke/VarHandle" ∧ (parseMethodDescriptor yX10_capacityIf.desc).map (fun d => d.parameters.length) = some 2 := by decide +kernel
theorem kd_L_safeCurrent : yL_safeCurrent.cls ≠ "java/lang/invoke/MethodHandle" ∧ yL_safeCurrent.cls ≠ "java/lang/invoke/VarHandle" ∧ (parseMethodDescriptor yL_safeCurrent.desc).map (fun d => d.parameters.length) = some 4 := by decide +kernel
theorem kd_X10_safeCurrent : yX10_safeCurrent.cls ≠ "java/lang/invoke/MethodHandle" ∧ yX10_safeCurrent.cls ≠ "java/lang/invoke/VarHandle" ∧ (parseMethodDescriptor yX10_safeCurrent.desc).map (fun d => d.parameters.length) = some 2 := by decide +kernel
theorem kd_X10_isSafe : yX10_isSafe.cls ≠ "java/lang/invoke/MethodHandle" ∧ yX10_isSafe.cls ≠ "java/lang/invoke/VarHandle" ∧ (parseMethodDescriptor yX10_isSafe.desc).map (fun d => d.parameters.length) = some 3 := by decide +kernel
theorem kd_L_saveSnapshot : yL_saveSnapshot.cls ≠ "java/lang/invoke/MethodHandle" ∧ yL_saveSnapshot.cls ≠ "java/lang/invoke/VarHandle" ∧ (parseMethodDescriptor yL_saveSnapshot.desc).map (fun d => d.parameters.length) = some 3 := by decide +kernel
theorem kd_X10_saveSnapshot : yX10_saveSnapshot.cls ≠ "java/lang/invoke/MethodHandle" ∧ yX10_saveSnapshot.cls ≠ "java/lang/invoke/VarHandle" ∧ (parseMethodDescriptor yX10_saveSnapshot.desc).map (fun d => d.parameters.length) = some 1 := by decide +kernel
theorem kd_X10_savedAt : yX10_savedAt.cls ≠ "java/lang/invoke/MethodHandle" ∧ yX10_savedAt.cls ≠ "java/lang/invoke/VarHandle" ∧ (parseMethodDescriptor yX10_savedAt.desc).map (fun d => d.parameters.length) = some 1 := by decide +kernel
theorem kd_X10_keepAt : yX10_keepAt.cls ≠ "java/lang/invoke/MethodHandle" ∧ yX10_keepAt.cls ≠ "java/lang/invoke/VarHandle" ∧ (parseMethodDescriptor yX10_keepAt.desc).map (fun d => d.parameters.length) = some 2 := by decide +kernel
theorem kd_L_restoreSnapshot : yL_restoreSnapshot.cls ≠ "java/lang/invoke/MethodHandle" ∧ yL_restoreSnapshot.cls ≠ "java/lang/invoke/VarHandle" ∧ (parseMethodDescriptor yL_restoreSnapshot.desc).map (fun d => d.parameters.length) = some 3 := by decide +kernel
theorem kd_X10_restoreSnapshot : yX10_restoreSnapshot.cls ≠ "java/lang/invoke/MethodHandle" ∧ yX10_restoreSnapshot.cls ≠ "java/lang/invoke/VarHandle" ∧ (parseMethodDescriptor yX10_restoreSnapshot.desc).map (fun d => d.parameters.length) = some 1 := by decide +kernel
theorem kd_X11_init : yX11_init.cls ≠ "java/lang/invoke/MethodHandle" ∧ yX11_init.cls ≠ "java/lang/invoke/VarHandle" ∧ (parseMethodDescriptor yX11_init.desc).map (fun d => d.parameters.length) = some 0 := by decide +kernel
theorem kd_X11_starts : yX11_starts.cls ≠ "java/lang/invoke/MethodHandle" ∧ yX11_starts.cls ≠ "java/lang/invoke/VarHandle" ∧ (parseMethodDescriptor yX11_starts.desc).map (fun d => d.parameters.length) = some 1 := by decide +kernel
theorem kd_X11_thrown : yX11_thrown.cls ≠ "java/lang/invoke/MethodHandle" ∧ yX11_thrown.cls ≠ "java/lang/invoke/VarHandle" ∧ (parseMethodDescriptor yX11_thrown.desc).map (fun d => d.parameters.length) = some 0 := by decide +kernel
theorem kd_X11_append : yX11_append.cls ≠ "java/lang/invoke/MethodHandle" ∧ yX11_append.cls ≠ "java/lang/invoke/VarHandle" ∧ (parseMethodDescriptor yX11_append.desc).map (fun d => d.parameters.length) = some 1 := by decide +kernel
theorem kd_X11_loadError : yX11_loadError.cls ≠ "java/lang/invoke/MethodHandle" ∧ yX11_loadError.cls ≠ "java/lang/invoke/VarHandle" ∧ (parseMethodDescriptor yX11_loadError.desc).map (fun d => d.parameters.length) = some 0 := by decide +kernel
theorem kd_X11_load : yX11_load.cls ≠ "java/lang/invoke/MethodHandle" ∧ yX11_load.cls ≠ "java/lang/invoke/VarHandle" ∧ (parseMethodDescriptor yX11_load.desc).map (fun d => d.parameters.length) = some 0 := by decide +kernel
theorem kd_X11_readsAll : yX11_readsAll.cls ≠ "java/lang/invoke/MethodHandle" ∧ yX11_readsAll.cls ≠ "java/lang/invoke/VarHandle" ∧ (parseMethodDescriptor yX11_readsAll.desc).map (fun d => d.parameters.length) = some 0 := by decide +kernel
theorem kd_X11_readStatement : yX11_readStatement.cls ≠ "java/lang/invoke/MethodHandle" ∧ yX11_readStatement.cls ≠ "java/lang/invoke/VarHandle" ∧ (parseMethodDescriptor yX11_readStatement.desc).map (fun d => d.parameters.length) = some 0 := by decide +kernel
theorem kd_X11_see : yX11_see.cls ≠ "java/lang/invoke/MethodHandle" ∧ yX11_see.cls ≠ "java/lang/invoke/VarHandle" ∧ (parseMethodDescriptor yX11_see.desc).map (fun d => d.parameters.length) = some 0 := by decide +kernel
theorem kd_X11_byteAt : yX11_byteAt.cls ≠ "java/lang/invoke/MethodHandle" ∧ yX11_byteAt.cls ≠ "java/lang/invoke/VarHandle" ∧ (parseMethodDescriptor yX11_byteAt.desc).map (fun d => d.parameters.length) = some 1 := by decide +kernel
theorem kd_X11_isWord : yX11_isWord.cls ≠ "java/lang/invoke/MethodHandle" ∧ yX11_isWord.cls ≠ "java/lang/invoke/VarHandle" ∧ (parseMethodDescriptor yX11_isWord.desc).map (fun d => d.parameters.length) = some 1 := by decide +kernel
theorem kd_X11_wordEnd : yX11_wordEnd.cls ≠ "java/lang/invoke/MethodHandle" ∧ yX11_wordEnd.cls ≠ "java/lang/invoke/VarHandle" ∧ (parseMethodDescriptor yX11_wordEnd.desc).map (fun d => d.parameters.length) = some 0 := by decide +kernel
theorem kd_X11_isLetter : yX11_isLetter.cls ≠ "java/lang/invoke/MethodHandle" ∧ yX11_isLetter.cls ≠ "java/lang/invoke/VarHandle" ∧ (parseMethodDescriptor yX11_isLetter.desc).map (fun d => d.parameters.length) = some 1 := by decide +kernel
theorem kd_X11_in : yX11_in.cls ≠ "java/lang/invoke/MethodHandle" ∧ yX11_in.cls ≠ "java/lang/invoke/VarHandle" ∧ (parseMethodDescriptor yX11_in.desc).map (fun d => d.parameters.length) = some 3 := by decide +kernel
theorem kd_X11_readCurve : yX11_readCurve.cls ≠ "java/lang/invoke/MethodHandle" ∧ yX11_readCurve.cls ≠ "java/lang/invoke/VarHandle" ∧ (parseMethodDescriptor yX11_readCurve.desc).map (fun d => d.parameters.length) = some 0 := by decide +kernel
theorem kd_X11_fails : yX11_fails.cls ≠ "java/lang/invoke/MethodHandle" ∧ yX11_fails.cls ≠ "java/lang/invoke/VarHandle" ∧ (parseMethodDescriptor yX11_fails.desc).map (fun d => d.parameters.length) = some 1 := by decide +kernel
theorem kd_X11_passes : yX11_passes.cls ≠ "java/lang/invoke/MethodHandle" ∧ yX11_passes.cls ≠ "java/lang/invoke/VarHandle" ∧ (parseMethodDescriptor yX11_passes.desc).map (fun d => d.parameters.length) = some 0 := by decide +kernel
theorem kd_X11_readName : yX11_readName.cls ≠ "java/lang/invoke/MethodHandle" ∧ yX11_readName.cls ≠ "java/lang/invoke/VarHandle" ∧ (parseMethodDescriptor yX11_readName.desc).map (fun d => d.parameters.length) = some 1 := by decide +kernel
theorem kd_X11_named : yX11_named.cls ≠ "java/lang/invoke/MethodHandle" ∧ yX11_named.cls ≠ "java/lang/invoke/VarHandle" ∧ (parseMethodDescriptor yX11_named.desc).map (fun d => d.parameters.length) = some 3 := by decide +kernel
theorem kd_X11_isNamed : yX11_isNamed.cls ≠ "java/lang/invoke/MethodHandle" ∧ yX11_isNamed.cls ≠ "java/lang/invoke/VarHandle" ∧ (parseMethodDescriptor yX11_isNamed.desc).map (fun d => d.parameters.length) = some 4 := by decide +kernel
theorem kd_X11_reads : yX11_reads.cls ≠ "java/lang/invoke/MethodHandle" ∧ yX11_reads.cls ≠ "java/lang/invoke/VarHandle" ∧ (parseMethodDescriptor yX11_reads.desc).map (fun d => d.parameters.length) = some 3 := by decide +kernel
theorem kd_X11_isDigit : yX11_isDigit.cls ≠ "java/lang/invoke/MethodHandle" ∧ yX11_isDigit.cls ≠ "java/lang/invoke/VarHandle" ∧ (parseMethodDescriptor yX11_isDigit.desc).map (fun d => d.parameters.length) = some 1 := by decide +kernel
theorem kd_X11_readCell : yX11_readCell.cls ≠ "java/lang/invoke/MethodHandle" ∧ yX11_readCell.cls ≠ "java/lang/invoke/VarHandle" ∧ (parseMethodDescriptor yX11_readCell.desc).map (fun d => d.parameters.length) = some 0 := by decide +kernel
theorem kd_X11_readProgram : yX11_readProgram.cls ≠ "java/lang/invoke/MethodHandle" ∧ yX11_readProgram.cls ≠ "java/lang/invoke/VarHandle" ∧ (parseMethodDescriptor yX11_readProgram.desc).map (fun d => d.parameters.length) = some 0 := by decide +kernel
theorem kd_X11_readStep : yX11_readStep.cls ≠ "java/lang/invoke/MethodHandle" ∧ yX11_readStep.cls ≠ "java/lang/invoke/VarHandle" ∧ (parseMethodDescriptor yX11_readStep.desc).map (fun d => d.parameters.length) = some 2 := by decide +kernel
theorem kd_X11_begins : yX11_begins.cls ≠ "java/lang/invoke/MethodHandle" ∧ yX11_begins.cls ≠ "java/lang/invoke/VarHandle" ∧ (parseMethodDescriptor yX11_begins.desc).map (fun d => d.parameters.length) = some 3 := by decide +kernel
theorem kd_X11_copies : yX11_copies.cls ≠ "java/lang/invoke/MethodHandle" ∧ yX11_copies.cls ≠ "java/lang/invoke/VarHandle" ∧ (parseMethodDescriptor yX11_copies.desc).map (fun d => d.parameters.length) = some 2 := by decide +kernel
theorem kd_X11_curveNamed : yX11_curveNamed.cls ≠ "java/lang/invoke/MethodHandle" ∧ yX11_curveNamed.cls ≠ "java/lang/invoke/VarHandle" ∧ (parseMethodDescriptor yX11_curveNamed.desc).map (fun d => d.parameters.length) = some 0 := by decide +kernel
theorem kd_X11_count : yX11_count.cls ≠ "java/lang/invoke/MethodHandle" ∧ yX11_count.cls ≠ "java/lang/invoke/VarHandle" ∧ (parseMethodDescriptor yX11_count.desc).map (fun d => d.parameters.length) = some 1 := by decide +kernel
theorem kd_X11_throwsIf : yX11_throwsIf.cls ≠ "java/lang/invoke/MethodHandle" ∧ yX11_throwsIf.cls ≠ "java/lang/invoke/VarHandle" ∧ (parseMethodDescriptor yX11_throwsIf.desc).map (fun d => d.parameters.length) = some 2 := by decide +kernel
theorem kd_X11_setting : yX11_setting.cls ≠ "java/lang/invoke/MethodHandle" ∧ yX11_setting.cls ≠ "java/lang/invoke/VarHandle" ∧ (parseMethodDescriptor yX11_setting.desc).map (fun d => d.parameters.length) = some 1 := by decide +kernel
theorem kd_X11_setAmbient : yX11_setAmbient.cls ≠ "java/lang/invoke/MethodHandle" ∧ yX11_setAmbient.cls ≠ "java/lang/invoke/VarHandle" ∧ (parseMethodDescriptor yX11_setAmbient.desc).map (fun d => d.parameters.length) = some 1 := by decide +kernel
theorem kd_X11_setDerate : yX11_setDerate.cls ≠ "java/lang/invoke/MethodHandle" ∧ yX11_setDerate.cls ≠ "java/lang/invoke/VarHandle" ∧ (parseMethodDescriptor yX11_setDerate.desc).map (fun d => d.parameters.length) = some 1 := by decide +kernel
theorem kd_X11_setLimits : yX11_setLimits.cls ≠ "java/lang/invoke/MethodHandle" ∧ yX11_setLimits.cls ≠ "java/lang/invoke/VarHandle" ∧ (parseMethodDescriptor yX11_setLimits.desc).map (fun d => d.parameters.length) = some 2 := by decide +kernel
theorem kd_X11_of : yX11_of.cls ≠ "java/lang/invoke/MethodHandle" ∧ yX11_of.cls ≠ "java/lang/invoke/VarHandle" ∧ (parseMethodDescriptor yX11_of.desc).map (fun d => d.parameters.length) = some 2 := by decide +kernel
theorem kd_X11_stepValue : yX11_stepValue.cls ≠ "java/lang/invoke/MethodHandle" ∧ yX11_stepValue.cls ≠ "java/lang/invoke/VarHandle" ∧ (parseMethodDescriptor yX11_stepValue.desc).map (fun d => d.parameters.length) = some 3 := by decide +kernel
theorem kd_X11_stepsOf : yX11_stepsOf.cls ≠ "java/lang/invoke/MethodHandle" ∧ yX11_stepsOf.cls ≠ "java/lang/invoke/VarHandle" ∧ (parseMethodDescriptor yX11_stepsOf.desc).map (fun d => d.parameters.length) = some 1 := by decide +kernel
theorem kd_X11_stepOf : yX11_stepOf.cls ≠ "java/lang/invoke/MethodHandle" ∧ yX11_stepOf.cls ≠ "java/lang/invoke/VarHandle" ∧ (parseMethodDescriptor yX11_stepOf.desc).map (fun d => d.parameters.length) = some 3 := by decide +kernel
theorem kd_X11_now : yX11_now.cls ≠ "java/lang/invoke/MethodHandle" ∧ yX11_now.cls ≠ "java/lang/invoke/VarHandle" ∧ (parseMethodDescriptor yX11_now.desc).map (fun d => d.parameters.length) = some 0 := by decide +kernel
theorem kd_X11_advance : yX11_advance.cls ≠ "java/lang/invoke/MethodHandle" ∧ yX11_advance.cls ≠ "java/lang/invoke/VarHandle" ∧ (parseMethodDescriptor yX11_advance.desc).map (fun d => d.parameters.length) = some 1 := by decide +kernel
theorem kd_X11_ticks : yX11_ticks.cls ≠ "java/lang/invoke/MethodHandle" ∧ yX11_ticks.cls ≠ "java/lang/invoke/VarHandle" ∧ (parseMethodDescriptor yX11_ticks.desc).map (fun d => d.parameters.length) = some 0 := by decide +kernel
theorem kd_X11_goes : yX11_goes.cls ≠ "java/lang/invoke/MethodHandle" ∧ yX11_goes.cls ≠ "java/lang/invoke/VarHandle" ∧ (parseMethodDescriptor yX11_goes.desc).map (fun d => d.parameters.length) = some 1 := by decide +kernel
theorem kd_X11_currentOf : yX11_currentOf.cls ≠ "java/lang/invoke/MethodHandle" ∧ yX11_currentOf.cls ≠ "java/lang/invoke/VarHandle" ∧ (parseMethodDescriptor yX11_currentOf.desc).map (fun d => d.parameters.length) = some 1 := by decide +kernel
theorem kd_X11_wantedOf : yX11_wantedOf.cls ≠ "java/lang/invoke/MethodHandle" ∧ yX11_wantedOf.cls ≠ "java/lang/invoke/VarHandle" ∧ (parseMethodDescriptor yX11_wantedOf.desc).map (fun d => d.parameters.length) = some 1 := by decide +kernel
theorem kd_X11_step : yX11_step.cls ≠ "java/lang/invoke/MethodHandle" ∧ yX11_step.cls ≠ "java/lang/invoke/VarHandle" ∧ (parseMethodDescriptor yX11_step.desc).map (fun d => d.parameters.length) = some 2 := by decide +kernel
theorem kd_X11_restAt : yX11_restAt.cls ≠ "java/lang/invoke/MethodHandle" ∧ yX11_restAt.cls ≠ "java/lang/invoke/VarHandle" ∧ (parseMethodDescriptor yX11_restAt.desc).map (fun d => d.parameters.length) = some 2 := by decide +kernel
theorem kd_X11_voltsMany : yX11_voltsMany.cls ≠ "java/lang/invoke/MethodHandle" ∧ yX11_voltsMany.cls ≠ "java/lang/invoke/VarHandle" ∧ (parseMethodDescriptor yX11_voltsMany.desc).map (fun d => d.parameters.length) = some 1 := by decide +kernel
theorem kd_X11_volts : yX11_volts.cls ≠ "java/lang/invoke/MethodHandle" ∧ yX11_volts.cls ≠ "java/lang/invoke/VarHandle" ∧ (parseMethodDescriptor yX11_volts.desc).map (fun d => d.parameters.length) = some 2 := by decide +kernel
theorem kd_X11_flows : yX11_flows.cls ≠ "java/lang/invoke/MethodHandle" ∧ yX11_flows.cls ≠ "java/lang/invoke/VarHandle" ∧ (parseMethodDescriptor yX11_flows.desc).map (fun d => d.parameters.length) = some 2 := by decide +kernel
theorem kd_X11_polarizes : yX11_polarizes.cls ≠ "java/lang/invoke/MethodHandle" ∧ yX11_polarizes.cls ≠ "java/lang/invoke/VarHandle" ∧ (parseMethodDescriptor yX11_polarizes.desc).map (fun d => d.parameters.length) = some 2 := by decide +kernel
theorem kd_X11_put : yX11_put.cls ≠ "java/lang/invoke/MethodHandle" ∧ yX11_put.cls ≠ "java/lang/invoke/VarHandle" ∧ (parseMethodDescriptor yX11_put.desc).map (fun d => d.parameters.length) = some 3 := by decide +kernel
theorem kd_X11_moves : yX11_moves.cls ≠ "java/lang/invoke/MethodHandle" ∧ yX11_moves.cls ≠ "java/lang/invoke/VarHandle" ∧ (parseMethodDescriptor yX11_moves.desc).map (fun d => d.parameters.length) = some 2 := by decide +kernel
theorem kd_X11_adds : yX11_adds.cls ≠ "java/lang/invoke/MethodHandle" ∧ yX11_adds.cls ≠ "java/lang/invoke/VarHandle" ∧ (parseMethodDescriptor yX11_adds.desc).map (fun d => d.parameters.length) = some 3 := by decide +kernel
theorem kd_X11_fades : yX11_fades.cls ≠ "java/lang/invoke/MethodHandle" ∧ yX11_fades.cls ≠ "java/lang/invoke/VarHandle" ∧ (parseMethodDescriptor yX11_fades.desc).map (fun d => d.parameters.length) = some 2 := by decide +kernel
theorem kd_J9_abs_0f7a4 : yJ9_abs_0f7a4.cls ≠ "java/lang/invoke/MethodHandle" ∧ yJ9_abs_0f7a4.cls ≠ "java/lang/invoke/VarHandle" ∧ (parseMethodDescriptor yJ9_abs_0f7a4.desc).map (fun d => d.parameters.length) = some 1 := by decide +kernel
theorem kd_X11_warms : yX11_warms.cls ≠ "java/lang/invoke/MethodHandle" ∧ yX11_warms.cls ≠ "java/lang/invoke/VarHandle" ∧ (parseMethodDescriptor yX11_warms.desc).map (fun d => d.parameters.length) = some 2 := by decide +kernel
theorem kd_X11_filled : yX11_filled.cls ≠ "java/lang/invoke/MethodHandle" ∧ yX11_filled.cls ≠ "java/lang/invoke/VarHandle" ∧ (parseMethodDescriptor yX11_filled.desc).map (fun d => d.parameters.length) = some 1 := by decide +kernel
theorem kd_X11_warns : yX11_warns.cls ≠ "java/lang/invoke/MethodHandle" ∧ yX11_warns.cls ≠ "java/lang/invoke/VarHandle" ∧ (parseMethodDescriptor yX11_warns.desc).map (fun d => d.parameters.length) = some 1 := by decide +kernel
theorem kd_X11_warningNow : yX11_warningNow.cls ≠ "java/lang/invoke/MethodHandle" ∧ yX11_warningNow.cls ≠ "java/lang/invoke/VarHandle" ∧ (parseMethodDescriptor yX11_warningNow.desc).map (fun d => d.parameters.length) = some 1 := by decide +kernel
theorem kd_X11_notes : yX11_notes.cls ≠ "java/lang/invoke/MethodHandle" ∧ yX11_notes.cls ≠ "java/lang/invoke/VarHandle" ∧ (parseMethodDescriptor yX11_notes.desc).map (fun d => d.parameters.length) = some 3 := by decide +kernel
theorem kd_X11_watches : yX11_watches.cls ≠ "java/lang/invoke/MethodHandle" ∧ yX11_watches.cls ≠ "java/lang/invoke/VarHandle" ∧ (parseMethodDescriptor yX11_watches.desc).map (fun d => d.parameters.length) = some 1 := by decide +kernel
theorem kd_X11_reasonNow : yX11_reasonNow.cls ≠ "java/lang/invoke/MethodHandle" ∧ yX11_reasonNow.cls ≠ "java/lang/invoke/VarHandle" ∧ (parseMethodDescriptor yX11_reasonNow.desc).map (fun d => d.parameters.length) = some 1 := by decide +kernel
theorem kd_X11_isOver : yX11_isOver.cls ≠ "java/lang/invoke/MethodHandle" ∧ yX11_isOver.cls ≠ "java/lang/invoke/VarHandle" ∧ (parseMethodDescriptor yX11_isOver.desc).map (fun d => d.parameters.length) = some 1 := by decide +kernel
theorem kd_X11_ends : yX11_ends.cls ≠ "java/lang/invoke/MethodHandle" ∧ yX11_ends.cls ≠ "java/lang/invoke/VarHandle" ∧ (parseMethodDescriptor yX11_ends.desc).map (fun d => d.parameters.length) = some 1 := by decide +kernel
theorem kd_X11_records : yX11_records.cls ≠ "java/lang/invoke/MethodHandle" ∧ yX11_records.cls ≠ "java/lang/invoke/VarHandle" ∧ (parseMethodDescriptor yX11_records.desc).map (fun d => d.parameters.length) = some 2 := by decide +kernel
theorem kd_X11_sum : yX11_sum.cls ≠ "java/lang/invoke/MethodHandle" ∧ yX11_sum.cls ≠ "java/lang/invoke/VarHandle" ∧ (parseMethodDescriptor yX11_sum.desc).map (fun d => d.parameters.length) = some 2 := by decide +kernel
theorem kd_X11_clears : yX11_clears.cls ≠ "java/lang/invoke/MethodHandle" ∧ yX11_clears.cls ≠ "java/lang/invoke/VarHandle" ∧ (parseMethodDescriptor yX11_clears.desc).map (fun d => d.parameters.length) = some 1 := by decide +kernel
theorem kd_X11_putSum : yX11_putSum.cls ≠ "java/lang/invoke/MethodHandle" ∧ yX11_putSum.cls ≠ "java/lang/invoke/VarHandle" ∧ (parseMethodDescriptor yX11_putSum.desc).map (fun d => d.parameters.length) = some 3 := by decide +kernel
theorem kd_X11_comes : yX11_comes.cls ≠ "java/lang/invoke/MethodHandle" ∧ yX11_comes.cls ≠ "java/lang/invoke/VarHandle" ∧ (parseMethodDescriptor yX11_comes.desc).map (fun d => d.parameters.length) = some 2 := by decide +kernel
theorem kd_X11_comesToEnd : yX11_comesToEnd.cls ≠ "java/lang/invoke/MethodHandle" ∧ yX11_comesToEnd.cls ≠ "java/lang/invoke/VarHandle" ∧ (parseMethodDescriptor yX11_comesToEnd.desc).map (fun d => d.parameters.length) = some 1 := by decide +kernel
theorem kd_X11_leavesQueue : yX11_leavesQueue.cls ≠ "java/lang/invoke/MethodHandle" ∧ yX11_leavesQueue.cls ≠ "java/lang/invoke/VarHandle" ∧ (parseMethodDescriptor yX11_leavesQueue.desc).map (fun d => d.parameters.length) = some 1 := by decide +kernel
theorem kd_X11_startsOn : yX11_startsOn.cls ≠ "java/lang/invoke/MethodHandle" ∧ yX11_startsOn.cls ≠ "java/lang/invoke/VarHandle" ∧ (parseMethodDescriptor yX11_startsOn.desc).map (fun d => d.parameters.length) = some 2 := by decide +kernel
theorem kd_X11_start : yX11_start.cls ≠ "java/lang/invoke/MethodHandle" ∧ yX11_start.cls ≠ "java/lang/invoke/VarHandle" ∧ (parseMethodDescriptor yX11_start.desc).map (fun d => d.parameters.length) = some 2 := by decide +kernel
theorem kd_X11_noProgram : yX11_noProgram.cls ≠ "java/lang/invoke/MethodHandle" ∧ yX11_noProgram.cls ≠ "java/lang/invoke/VarHandle" ∧ (parseMethodDescriptor yX11_noProgram.desc).map (fun d => d.parameters.length) = some 2 := by decide +kernel
theorem kd_X11_noChannel : yX11_noChannel.cls ≠ "java/lang/invoke/MethodHandle" ∧ yX11_noChannel.cls ≠ "java/lang/invoke/VarHandle" ∧ (parseMethodDescriptor yX11_noChannel.desc).map (fun d => d.parameters.length) = some 1 := by decide +kernel
theorem kd_X11_isIn : yX11_isIn.cls ≠ "java/lang/invoke/MethodHandle" ∧ yX11_isIn.cls ≠ "java/lang/invoke/VarHandle" ∧ (parseMethodDescriptor yX11_isIn.desc).map (fun d => d.parameters.length) = some 2 := by decide +kernel
theorem kd_X11_pause : yX11_pause.cls ≠ "java/lang/invoke/MethodHandle" ∧ yX11_pause.cls ≠ "java/lang/invoke/VarHandle" ∧ (parseMethodDescriptor yX11_pause.desc).map (fun d => d.parameters.length) = some 1 := by decide +kernel
theorem kd_X11_turns : yX11_turns.cls ≠ "java/lang/invoke/MethodHandle" ∧ yX11_turns.cls ≠ "java/lang/invoke/VarHandle" ∧ (parseMethodDescriptor yX11_turns.desc).map (fun d => d.parameters.length) = some 3 := by decide +kernel
theorem kd_X11_resume : yX11_resume.cls ≠ "java/lang/invoke/MethodHandle" ∧ yX11_resume.cls ≠ "java/lang/invoke/VarHandle" ∧ (parseMethodDescriptor yX11_resume.desc).map (fun d => d.parameters.length) = some 1 := by decide +kernel
theorem kd_X11_stop : yX11_stop.cls ≠ "java/lang/invoke/MethodHandle" ∧ yX11_stop.cls ≠ "java/lang/invoke/VarHandle" ∧ (parseMethodDescriptor yX11_stop.desc).map (fun d => d.parameters.length) = some 1 := by decide +kernel
theorem kd_X11_skip : yX11_skip.cls ≠ "java/lang/invoke/MethodHandle" ∧ yX11_skip.cls ≠ "java/lang/invoke/VarHandle" ∧ (parseMethodDescriptor yX11_skip.desc).map (fun d => d.parameters.length) = some 1 := by decide +kernel
theorem kd_X11_replace : yX11_replace.cls ≠ "java/lang/invoke/MethodHandle" ∧ yX11_replace.cls ≠ "java/lang/invoke/VarHandle" ∧ (parseMethodDescriptor yX11_replace.desc).map (fun d => d.parameters.length) = some 2 := by decide +kernel
theorem kd_X11_enqueue : yX11_enqueue.cls ≠ "java/lang/invoke/MethodHandle" ∧ yX11_enqueue.cls ≠ "java/lang/invoke/VarHandle" ∧ (parseMethodDescriptor yX11_enqueue.desc).map (fun d => d.parameters.length) = some 2 := by decide +kernel
theorem kd_X11_dequeue : yX11_dequeue.cls ≠ "java/lang/invoke/MethodHandle" ∧ yX11_dequeue.cls ≠ "java/lang/invoke/VarHandle" ∧ (parseMethodDescriptor yX11_dequeue.desc).map (fun d => d.parameters.length) = some 1 := by decide +kernel
theorem kd_X11_startNext : yX11_startNext.cls ≠ "java/lang/invoke/MethodHandle" ∧ yX11_startNext.cls ≠ "java/lang/invoke/VarHandle" ∧ (parseMethodDescriptor yX11_startNext.desc).map (fun d => d.parameters.length) = some 1 := by decide +kernel
theorem kd_X11_queueAt : yX11_queueAt.cls ≠ "java/lang/invoke/MethodHandle" ∧ yX11_queueAt.cls ≠ "java/lang/invoke/VarHandle" ∧ (parseMethodDescriptor yX11_queueAt.desc).map (fun d => d.parameters.length) = some 2 := by decide +kernel
theorem kd_X11_queueSize : yX11_queueSize.cls ≠ "java/lang/invoke/MethodHandle" ∧ yX11_queueSize.cls ≠ "java/lang/invoke/VarHandle" ∧ (parseMethodDescriptor yX11_queueSize.desc).map (fun d => d.parameters.length) = some 1 := by decide +kernel
theorem kd_X11_internalResistance : yX11_internalResistance.cls ≠ "java/lang/invoke/MethodHandle" ∧ yX11_internalResistance.cls ≠ "java/lang/invoke/VarHandle" ∧ (parseMethodDescriptor yX11_internalResistance.desc).map (fun d => d.parameters.length) = some 1 := by decide +kernel
theorem kd_X11_ticksIn : yX11_ticksIn.cls ≠ "java/lang/invoke/MethodHandle" ∧ yX11_ticksIn.cls ≠ "java/lang/invoke/VarHandle" ∧ (parseMethodDescriptor yX11_ticksIn.desc).map (fun d => d.parameters.length) = some 2 := by decide +kernel
theorem kd_X11_warnings : yX11_warnings.cls ≠ "java/lang/invoke/MethodHandle" ∧ yX11_warnings.cls ≠ "java/lang/invoke/VarHandle" ∧ (parseMethodDescriptor yX11_warnings.desc).map (fun d => d.parameters.length) = some 1 := by decide +kernel
theorem kd_X11_warned : yX11_warned.cls ≠ "java/lang/invoke/MethodHandle" ∧ yX11_warned.cls ≠ "java/lang/invoke/VarHandle" ∧ (parseMethodDescriptor yX11_warned.desc).map (fun d => d.parameters.length) = some 1 := by decide +kernel
theorem kd_X11_logSize : yX11_logSize.cls ≠ "java/lang/invoke/MethodHandle" ∧ yX11_logSize.cls ≠ "java/lang/invoke/VarHandle" ∧ (parseMethodDescriptor yX11_logSize.desc).map (fun d => d.parameters.length) = some 0 := by decide +kernel
theorem kd_X11_logEntry : yX11_logEntry.cls ≠ "java/lang/invoke/MethodHandle" ∧ yX11_logEntry.cls ≠ "java/lang/invoke/VarHandle" ∧ (parseMethodDescriptor yX11_logEntry.desc).map (fun d => d.parameters.length) = some 2 := by decide +kernel
theorem kd_X11_eventsOf : yX11_eventsOf.cls ≠ "java/lang/invoke/MethodHandle" ∧ yX11_eventsOf.cls ≠ "java/lang/invoke/VarHandle" ∧ (parseMethodDescriptor yX11_eventsOf.desc).map (fun d => d.parameters.length) = some 2 := by decide +kernel
theorem kd_X11_value : yX11_value.cls ≠ "java/lang/invoke/MethodHandle" ∧ yX11_value.cls ≠ "java/lang/invoke/VarHandle" ∧ (parseMethodDescriptor yX11_value.desc).map (fun d => d.parameters.length) = some 2 := by decide +kernel
theorem kd_X11_restVoltage : yX11_restVoltage.cls ≠ "java/lang/invoke/MethodHandle" ∧ yX11_restVoltage.cls ≠ "java/lang/invoke/VarHandle" ∧ (parseMethodDescriptor yX11_restVoltage.desc).map (fun d => d.parameters.length) = some 2 := by decide +kernel
theorem kd_X11_chargeFor : yX11_chargeFor.cls ≠ "java/lang/invoke/MethodHandle" ∧ yX11_chargeFor.cls ≠ "java/lang/invoke/VarHandle" ∧ (parseMethodDescriptor yX11_chargeFor.desc).map (fun d => d.parameters.length) = some 2 := by decide +kernel
theorem kd_X11_filling : yX11_filling.cls ≠ "java/lang/invoke/MethodHandle" ∧ yX11_filling.cls ≠ "java/lang/invoke/VarHandle" ∧ (parseMethodDescriptor yX11_filling.desc).map (fun d => d.parameters.length) = some 1 := by decide +kernel
theorem kd_X11_ledger : yX11_ledger.cls ≠ "java/lang/invoke/MethodHandle" ∧ yX11_ledger.cls ≠ "java/lang/invoke/VarHandle" ∧ (parseMethodDescriptor yX11_ledger.desc).map (fun d => d.parameters.length) = some 2 := by decide +kernel
theorem kd_X11_chargeEfficiency : yX11_chargeEfficiency.cls ≠ "java/lang/invoke/MethodHandle" ∧ yX11_chargeEfficiency.cls ≠ "java/lang/invoke/VarHandle" ∧ (parseMethodDescriptor yX11_chargeEfficiency.desc).map (fun d => d.parameters.length) = some 1 := by decide +kernel
theorem kd_X11_energyEfficiency : yX11_energyEfficiency.cls ≠ "java/lang/invoke/MethodHandle" ∧ yX11_energyEfficiency.cls ≠ "java/lang/invoke/VarHandle" ∧ (parseMethodDescriptor yX11_energyEfficiency.desc).map (fun d => d.parameters.length) = some 1 := by decide +kernel
theorem kd_X11_power : yX11_power.cls ≠ "java/lang/invoke/MethodHandle" ∧ yX11_power.cls ≠ "java/lang/invoke/VarHandle" ∧ (parseMethodDescriptor yX11_power.desc).map (fun d => d.parameters.length) = some 1 := by decide +kernel
theorem kd_X11_measuredRest : yX11_measuredRest.cls ≠ "java/lang/invoke/MethodHandle" ∧ yX11_measuredRest.cls ≠ "java/lang/invoke/VarHandle" ∧ (parseMethodDescriptor yX11_measuredRest.desc).map (fun d => d.parameters.length) = some 1 := by decide +kernel
theorem kd_X11_capacityByRule : yX11_capacityByRule.cls ≠ "java/lang/invoke/MethodHandle" ∧ yX11_capacityByRule.cls ≠ "java/lang/invoke/VarHandle" ∧ (parseMethodDescriptor yX11_capacityByRule.desc).map (fun d => d.parameters.length) = some 1 := by decide +kernel
theorem kd_X11_repeats : yX11_repeats.cls ≠ "java/lang/invoke/MethodHandle" ∧ yX11_repeats.cls ≠ "java/lang/invoke/VarHandle" ∧ (parseMethodDescriptor yX11_repeats.desc).map (fun d => d.parameters.length) = some 2 := by decide +kernel
theorem kd_X11_inState : yX11_inState.cls ≠ "java/lang/invoke/MethodHandle" ∧ yX11_inState.cls ≠ "java/lang/invoke/VarHandle" ∧ (parseMethodDescriptor yX11_inState.desc).map (fun d => d.parameters.length) = some 1 := by decide +kernel
theorem kd_X11_weakest : yX11_weakest.cls ≠ "java/lang/invoke/MethodHandle" ∧ yX11_weakest.cls ≠ "java/lang/invoke/VarHandle" ∧ (parseMethodDescriptor yX11_weakest.desc).map (fun d => d.parameters.length) = some 0 := by decide +kernel
theorem kd_X11_share : yX11_share.cls ≠ "java/lang/invoke/MethodHandle" ∧ yX11_share.cls ≠ "java/lang/invoke/VarHandle" ∧ (parseMethodDescriptor yX11_share.desc).map (fun d => d.parameters.length) = some 1 := by decide +kernel
theorem kd_X11_hottest : yX11_hottest.cls ≠ "java/lang/invoke/MethodHandle" ∧ yX11_hottest.cls ≠ "java/lang/invoke/VarHandle" ∧ (parseMethodDescriptor yX11_hottest.desc).map (fun d => d.parameters.length) = some 0 := by decide +kernel
theorem kd_X11_recordCount : yX11_recordCount.cls ≠ "java/lang/invoke/MethodHandle" ∧ yX11_recordCount.cls ≠ "java/lang/invoke/VarHandle" ∧ (parseMethodDescriptor yX11_recordCount.desc).map (fun d => d.parameters.length) = some 0 := by decide +kernel
theorem kd_X11_record : yX11_record.cls ≠ "java/lang/invoke/MethodHandle" ∧ yX11_record.cls ≠ "java/lang/invoke/VarHandle" ∧ (parseMethodDescriptor yX11_record.desc).map (fun d => d.parameters.length) = some 2 := by decide +kernel
theorem kd_X11_recorded : yX11_recorded.cls ≠ "java/lang/invoke/MethodHandle" ∧ yX11_recorded.cls ≠ "java/lang/invoke/VarHandle" ∧ (parseMethodDescriptor yX11_recorded.desc).map (fun d => d.parameters.length) = some 2 := by decide +kernel
theorem kd_X11_counting : yX11_counting.cls ≠ "java/lang/invoke/MethodHandle" ∧ yX11_counting.cls ≠ "java/lang/invoke/VarHandle" ∧ (parseMethodDescriptor yX11_counting.desc).map (fun d => d.parameters.length) = some 1 := by decide +kernel
theorem kd_X11_isCounting : yX11_isCounting.cls ≠ "java/lang/invoke/MethodHandle" ∧ yX11_isCounting.cls ≠ "java/lang/invoke/VarHandle" ∧ (parseMethodDescriptor yX11_isCounting.desc).map (fun d => d.parameters.length) = some 2 := by decide +kernel
theorem kd_X11_loss : yX11_loss.cls ≠ "java/lang/invoke/MethodHandle" ∧ yX11_loss.cls ≠ "java/lang/invoke/VarHandle" ∧ (parseMethodDescriptor yX11_loss.desc).map (fun d => d.parameters.length) = some 1 := by decide +kernel
theorem kd_X11_stepEndsIn : yX11_stepEndsIn.cls ≠ "java/lang/invoke/MethodHandle" ∧ yX11_stepEndsIn.cls ≠ "java/lang/invoke/VarHandle" ∧ (parseMethodDescriptor yX11_stepEndsIn.desc).map (fun d => d.parameters.length) = some 1 := by decide +kernel
theorem kd_X11_goesAside : yX11_goesAside.cls ≠ "java/lang/invoke/MethodHandle" ∧ yX11_goesAside.cls ≠ "java/lang/invoke/VarHandle" ∧ (parseMethodDescriptor yX11_goesAside.desc).map (fun d => d.parameters.length) = some 0 := by decide +kernel
theorem kd_X11_copiesSums : yX11_copiesSums.cls ≠ "java/lang/invoke/MethodHandle" ∧ yX11_copiesSums.cls ≠ "java/lang/invoke/VarHandle" ∧ (parseMethodDescriptor yX11_copiesSums.desc).map (fun d => d.parameters.length) = some 2 := by decide +kernel
theorem kd_X11_alone : yX11_alone.cls ≠ "java/lang/invoke/MethodHandle" ∧ yX11_alone.cls ≠ "java/lang/invoke/VarHandle" ∧ (parseMethodDescriptor yX11_alone.desc).map (fun d => d.parameters.length) = some 1 := by decide +kernel
theorem kd_X11_comesBack : yX11_comesBack.cls ≠ "java/lang/invoke/MethodHandle" ∧ yX11_comesBack.cls ≠ "java/lang/invoke/VarHandle" ∧ (parseMethodDescriptor yX11_comesBack.desc).map (fun d => d.parameters.length) = some 0 := by decide +kernel
theorem kd_X11_doneIn : yX11_doneIn.cls ≠ "java/lang/invoke/MethodHandle" ∧ yX11_doneIn.cls ≠ "java/lang/invoke/VarHandle" ∧ (parseMethodDescriptor yX11_doneIn.desc).map (fun d => d.parameters.length) = some 1 := by decide +kernel
theorem kd_X11_untilAside : yX11_untilAside.cls ≠ "java/lang/invoke/MethodHandle" ∧ yX11_untilAside.cls ≠ "java/lang/invoke/VarHandle" ∧ (parseMethodDescriptor yX11_untilAside.desc).map (fun d => d.parameters.length) = some 2 := by decide +kernel
theorem kd_X11_until : yX11_until.cls ≠ "java/lang/invoke/MethodHandle" ∧ yX11_until.cls ≠ "java/lang/invoke/VarHandle" ∧ (parseMethodDescriptor yX11_until.desc).map (fun d => d.parameters.length) = some 2 := by decide +kernel
theorem kd_X11_tripsIn : yX11_tripsIn.cls ≠ "java/lang/invoke/MethodHandle" ∧ yX11_tripsIn.cls ≠ "java/lang/invoke/VarHandle" ∧ (parseMethodDescriptor yX11_tripsIn.desc).map (fun d => d.parameters.length) = some 1 := by decide +kernel
theorem kd_X11_valueAfter : yX11_valueAfter.cls ≠ "java/lang/invoke/MethodHandle" ∧ yX11_valueAfter.cls ≠ "java/lang/invoke/VarHandle" ∧ (parseMethodDescriptor yX11_valueAfter.desc).map (fun d => d.parameters.length) = some 3 := by decide +kernel
theorem kd_X11_peakTemperature : yX11_peakTemperature.cls ≠ "java/lang/invoke/MethodHandle" ∧ yX11_peakTemperature.cls ≠ "java/lang/invoke/VarHandle" ∧ (parseMethodDescriptor yX11_peakTemperature.desc).map (fun d => d.parameters.length) = some 2 := by decide +kernel
theorem kd_X11_settledIn : yX11_settledIn.cls ≠ "java/lang/invoke/MethodHandle" ∧ yX11_settledIn.cls ≠ "java/lang/invoke/VarHandle" ∧ (parseMethodDescriptor yX11_settledIn.desc).map (fun d => d.parameters.length) = some 1 := by decide +kernel
theorem kd_X11_duration : yX11_duration.cls ≠ "java/lang/invoke/MethodHandle" ∧ yX11_duration.cls ≠ "java/lang/invoke/VarHandle" ∧ (parseMethodDescriptor yX11_duration.desc).map (fun d => d.parameters.length) = some 2 := by decide +kernel
theorem kd_X11_durationOf : yX11_durationOf.cls ≠ "java/lang/invoke/MethodHandle" ∧ yX11_durationOf.cls ≠ "java/lang/invoke/VarHandle" ∧ (parseMethodDescriptor yX11_durationOf.desc).map (fun d => d.parameters.length) = some 2 := by decide +kernel
theorem kd_X11_shortest : yX11_shortest.cls ≠ "java/lang/invoke/MethodHandle" ∧ yX11_shortest.cls ≠ "java/lang/invoke/VarHandle" ∧ (parseMethodDescriptor yX11_shortest.desc).map (fun d => d.parameters.length) = some 1 := by decide +kernel
theorem kd_X11_capacityIf : yX11_capacityIf.cls ≠ "java/lang/invoke/MethodHandle" ∧ yX11_capacityIf.cls ≠ "java/lang/invoke/VarHandle" ∧ (parseMethodDescriptor yX11_capacityIf.desc).map (fun d => d.parameters.length) = some 2 := by decide +kernel
theorem kd_X11_safeCurrent : yX11_safeCurrent.cls ≠ "java/lang/invoke/MethodHandle" ∧ yX11_safeCurrent.cls ≠ "java/lang/invoke/VarHandle" ∧ (parseMethodDescriptor yX11_safeCurrent.desc).map (fun d => d.parameters.length) = some 2 := by decide +kernel
theorem kd_X11_isSafe : yX11_isSafe.cls ≠ "java/lang/invoke/MethodHandle" ∧ yX11_isSafe.cls ≠ "java/lang/invoke/VarHandle" ∧ (parseMethodDescriptor yX11_isSafe.desc).map (fun d => d.parameters.length) = some 3 := by decide +kernel
theorem kd_X11_saveSnapshot : yX11_saveSnapshot.cls ≠ "java/lang/invoke/MethodHandle" ∧ yX11_saveSnapshot.cls ≠ "java/lang/invoke/VarHandle" ∧ (parseMethodDescriptor yX11_saveSnapshot.desc).map (fun d => d.parameters.length) = some 1 := by decide +kernel
theorem kd_X11_noSlot : yX11_noSlot.cls ≠ "java/lang/invoke/MethodHandle" ∧ yX11_noSlot.cls ≠ "java/lang/invoke/VarHandle" ∧ (parseMethodDescriptor yX11_noSlot.desc).map (fun d => d.parameters.length) = some 1 := by decide +kernel
theorem kd_X11_restoreSnapshot : yX11_restoreSnapshot.cls ≠ "java/lang/invoke/MethodHandle" ∧ yX11_restoreSnapshot.cls ≠ "java/lang/invoke/VarHandle" ∧ (parseMethodDescriptor yX11_restoreSnapshot.desc).map (fun d => d.parameters.length) = some 1 := by decide +kernel
theorem fs0_X0 : ∀ j, j < 16 → defaultValue (tyX0 j) = vp_V [.null, .int 0, .int 0, .int 0, .int 0, .int 0, .int 0, .int 0, .int 0, .int 0, .int 0, .int 0, .int 0, .int 0, .int 0, .null] j := by
  intro j hj
  match j, hj with
  | 0, _ => rfl
  | 1, _ => rfl
  | 2, _ => rfl
  | 3, _ => rfl
  | 4, _ => rfl
  | 5, _ => rfl
  | 6, _ => rfl
  | 7, _ => rfl
  | 8, _ => rfl
  | 9, _ => rfl
  | 10, _ => rfl
  | 11, _ => rfl
  | 12, _ => rfl
  | 13, _ => rfl
  | 14, _ => rfl
  | 15, _ => rfl
  | k + 16, hk => exact absurd hk (by omega)
theorem fs0_X1 : ∀ j, j < 14 → defaultValue (tyX1 j) = vp_V [.int 0, .null, .null, .int 0, .int 0, .int 0, .int 0, .null, .null, .int 0, .long 0, .long 0, .int 0, .long 0] j := by
  intro j hj
  match j, hj with
  | 0, _ => rfl
  | 1, _ => rfl
  | 2, _ => rfl
  | 3, _ => rfl
  | 4, _ => rfl
  | 5, _ => rfl
  | 6, _ => rfl
  | 7, _ => rfl
  | 8, _ => rfl
  | 9, _ => rfl
  | 10, _ => rfl
  | 11, _ => rfl
  | 12, _ => rfl
  | 13, _ => rfl
  | k + 14, hk => exact absurd hk (by omega)
theorem fs0_X2 : ∀ j, j < 4 → defaultValue (tyX2 j) = vp_V [.int 0, .null, .null, .null] j := by
  intro j hj
  match j, hj with
  | 0, _ => rfl
  | 1, _ => rfl
  | 2, _ => rfl
  | 3, _ => rfl
  | k + 4, hk => exact absurd hk (by omega)
theorem fs0_X3 : ∀ j, j < 4 → defaultValue (tyX3 j) = vp_V [.long 0, .long 0, .long 0, .long 0] j := by
  intro j hj
  match j, hj with
  | 0, _ => rfl
  | 1, _ => rfl
  | 2, _ => rfl
  | 3, _ => rfl
  | k + 4, hk => exact absurd hk (by omega)
theorem fs0_X4 : ∀ j, j < 7 → defaultValue (tyX4 j) = vp_V [.int 0, .int 0, .int 0, .int 0, .int 0, .int 0, .null] j := by
  intro j hj
  match j, hj with
  | 0, _ => rfl
  | 1, _ => rfl
  | 2, _ => rfl
  | 3, _ => rfl
  | 4, _ => rfl
  | 5, _ => rfl
  | 6, _ => rfl
  | k + 7, hk => exact absurd hk (by omega)
theorem fs0_X5 : ∀ j, j < 5 → defaultValue (tyX5 j) = vp_V [.int 0, .null, .null, .null, .null] j := by
  intro j hj
  match j, hj with
  | 0, _ => rfl
  | 1, _ => rfl
  | 2, _ => rfl
  | 3, _ => rfl
  | 4, _ => rfl
  | k + 5, hk => exact absurd hk (by omega)
theorem fs0_X6 : ∀ j, j < 7 → defaultValue (tyX6 j) = vp_V [.null, .int 0, .null, .int 0, .int 0, .int 0, .int 0] j := by
  intro j hj
  match j, hj with
  | 0, _ => rfl
  | 1, _ => rfl
  | 2, _ => rfl
  | 3, _ => rfl
  | 4, _ => rfl
  | 5, _ => rfl
  | 6, _ => rfl
  | k + 7, hk => exact absurd hk (by omega)
theorem fs0_X7 : ∀ j, j < 12 → defaultValue (tyX7 j) = vp_V [.int 0, .int 0, .int 0, .int 0, .int 0, .int 0, .int 0, .int 0, .int 0, .int 0, .int 0, .int 0] j := by
  intro j hj
  match j, hj with
  | 0, _ => rfl
  | 1, _ => rfl
  | 2, _ => rfl
  | 3, _ => rfl
  | 4, _ => rfl
  | 5, _ => rfl
  | 6, _ => rfl
  | 7, _ => rfl
  | 8, _ => rfl
  | 9, _ => rfl
  | 10, _ => rfl
  | 11, _ => rfl
  | k + 12, hk => exact absurd hk (by omega)
theorem fs0_X8 : ∀ j, j < 5 → defaultValue (tyX8 j) = vp_V [.int 0, .int 0, .null, .int 0, .int 0] j := by
  intro j hj
  match j, hj with
  | 0, _ => rfl
  | 1, _ => rfl
  | 2, _ => rfl
  | 3, _ => rfl
  | 4, _ => rfl
  | k + 5, hk => exact absurd hk (by omega)
theorem fs0_X9 : ∀ j, j < 8 → defaultValue (tyX9 j) = vp_V [.int 0, .null, .null, .null, .int 0, .null, .null, .null] j := by
  intro j hj
  match j, hj with
  | 0, _ => rfl
  | 1, _ => rfl
  | 2, _ => rfl
  | 3, _ => rfl
  | 4, _ => rfl
  | 5, _ => rfl
  | 6, _ => rfl
  | 7, _ => rfl
  | k + 8, hk => exact absurd hk (by omega)
theorem fs0_X10 : ∀ j, j < 6 → defaultValue (tyX10 j) = vp_V [.null, .null, .null, .null, .int 0, .int 0] j := by
  intro j hj
  match j, hj with
  | 0, _ => rfl
  | 1, _ => rfl
  | 2, _ => rfl
  | 3, _ => rfl
  | 4, _ => rfl
  | 5, _ => rfl
  | k + 6, hk => exact absurd hk (by omega)
theorem fs0_X11 : ∀ j, j < 19 → defaultValue (tyX11 j) = vp_V [.null, .null, .null, .null, .null, .null, .null, .null, .null, .null, .int 0, .null, .int 0, .int 0, .int 0, .int 0, .int 0, .int 0, .int 0] j := by
  intro j hj
  match j, hj with
  | 0, _ => rfl
  | 1, _ => rfl
  | 2, _ => rfl
  | 3, _ => rfl
  | 4, _ => rfl
  | 5, _ => rfl
  | 6, _ => rfl
  | 7, _ => rfl
  | 8, _ => rfl
  | 9, _ => rfl
  | 10, _ => rfl
  | 11, _ => rfl
  | 12, _ => rfl
  | 13, _ => rfl
  | 14, _ => rfl
  | 15, _ => rfl
  | 16, _ => rfl
  | 17, _ => rfl
  | 18, _ => rfl
  | k + 19, hk => exact absurd hk (by omega)
theorem jm_min_s : Cond.static Lib.Math.min.name ∈ cm_all := ks_J9_min_7cf53
theorem jm_min_c : Cond.code Lib.Math.min.name Lib.Math.min.code 2 (some .int) ∈ cm_all := cm_inT (cm_t3 _ (List.mem_of_getElem? (i := 146) (by decide +kernel))) rfl
theorem jm_max_s : Cond.static Lib.Math.max.name ∈ cm_all := ks_J9_max_7cf53
theorem jm_max_c : Cond.code Lib.Math.max.name Lib.Math.max.code 2 (some .int) ∈ cm_all := cm_inT (cm_t2 _ (List.mem_of_getElem? (i := 146) (by decide +kernel))) rfl
theorem jm_min_long_s : Cond.static Lib.MathLoose.min_long.x ∈ cm_all := ks_J9_min_f86c9
theorem jm_min_long_c : Cond.code Lib.MathLoose.min_long.x Lib.MathLoose.min_long.code 4 (some .long) ∈ cm_all := cm_inT (cm_t5 _ (List.mem_of_getElem? (i := 12) (by decide +kernel))) rfl
theorem jm_max_long_s : Cond.static Lib.MathLoose.max_long.x ∈ cm_all := ks_J9_max_f86c9
theorem jm_max_long_c : Cond.code Lib.MathLoose.max_long.x Lib.MathLoose.max_long.code 4 (some .long) ∈ cm_all := cm_inT (cm_t5 _ (List.mem_of_getElem? (i := 17) (by decide +kernel))) rfl
theorem jm_abs_s : Cond.static Lib.Math.abs.name ∈ cm_all := ks_J9_abs_0f7a4
theorem jm_abs_c : Cond.code Lib.Math.abs.name Lib.Math.abs.code 1 (some .int) ∈ cm_all := cm_inT (cm_t8 _ (List.mem_of_getElem? (i := 102) (by decide +kernel))) rfl
set_option maxRecDepth 100000 in
theorem kt_RX10_356 : ∀ w ∈ vx_at0 RX10 356 "java/lang/IllegalArgumentException" cm_names, w ∈ cm_all := cm_sub (by decide +kernel) (by decide +kernel)
set_option maxRecDepth 100000 in
theorem ktg_RX10_356 : ∀ w ∈ Cond.classLink RX10 354 "java/lang/IllegalArgumentException" :: Cond.initialized "java/lang/IllegalArgumentException" :: vx_at0 RX10 356 "java/lang/IllegalArgumentException" cm_names, vx_ot w = true := by decide +kernel
set_option maxRecDepth 100000 in
theorem kt_RX10_359 : ∀ w ∈ vx_at0 RX10 359 "java/lang/IndexOutOfBoundsException" cm_names, w ∈ cm_all := cm_sub (by decide +kernel) (by decide +kernel)
set_option maxRecDepth 100000 in
theorem ktg_RX10_359 : ∀ w ∈ Cond.classLink RX10 357 "java/lang/IndexOutOfBoundsException" :: Cond.initialized "java/lang/IndexOutOfBoundsException" :: vx_at0 RX10 359 "java/lang/IndexOutOfBoundsException" cm_names, vx_ot w = true := by decide +kernel
end
section
theorem dX7_clear_0 : decode cX7_clear 0 = .ok (.aload_n 0, 1) := by decide +kernel
theorem dX7_clear_1 : decode cX7_clear 1 = .ok (.sipush 990, 3) := by decide +kernel
theorem dX7_clear_4 : decode cX7_clear 4 = .ok (.putfield 12, 3) := by decide +kernel
theorem dX7_clear_7 : decode cX7_clear 7 = .ok (.aload_n 0, 1) := by decide +kernel
theorem dX7_clear_8 : decode cX7_clear 8 = .ok (.ldc 16, 2) := by decide +kernel
theorem dX7_clear_10 : decode cX7_clear 10 = .ok (.putfield 17, 3) := by decide +kernel
theorem dX7_clear_13 : decode cX7_clear 13 = .ok (.aload_n 0, 1) := by decide +kernel
theorem dX7_clear_14 : decode cX7_clear 14 = .ok (.bipush 100, 2) := by decide +kernel
theorem dX7_clear_16 : decode cX7_clear 16 = .ok (.putfield 20, 3) := by decide +kernel
theorem dX7_clear_19 : decode cX7_clear 19 = .ok (.aload_n 0, 1) := by decide +kernel
theorem dX7_clear_20 : decode cX7_clear 20 = .ok (.iconst 5, 1) := by decide +kernel
theorem dX7_clear_21 : decode cX7_clear 21 = .ok (.putfield 23, 3) := by decide +kernel
theorem dX7_clear_24 : decode cX7_clear 24 = .ok (.aload_n 0, 1) := by decide +kernel
theorem dX7_clear_25 : decode cX7_clear 25 = .ok (.iconst 0, 1) := by decide +kernel
theorem dX7_clear_26 : decode cX7_clear 26 = .ok (.putfield 26, 3) := by decide +kernel
theorem dX7_clear_29 : decode cX7_clear 29 = .ok (.aload_n 0, 1) := by decide +kernel
theorem dX7_clear_30 : decode cX7_clear 30 = .ok (.sipush 5000, 3) := by decide +kernel
theorem dX7_clear_33 : decode cX7_clear 33 = .ok (.putfield 29, 3) := by decide +kernel
theorem dX7_clear_36 : decode cX7_clear 36 = .ok (.aload_n 0, 1) := by decide +kernel
theorem dX7_clear_37 : decode cX7_clear 37 = .ok (.sipush 600, 3) := by decide +kernel
theorem dX7_clear_40 : decode cX7_clear 40 = .ok (.putfield 32, 3) := by decide +kernel
theorem dX7_clear_43 : decode cX7_clear 43 = .ok (.aload_n 0, 1) := by decide +kernel
theorem dX7_clear_44 : decode cX7_clear 44 = .ok (.sipush 250, 3) := by decide +kernel
theorem dX7_clear_47 : decode cX7_clear 47 = .ok (.putfield 35, 3) := by decide +kernel
theorem dX7_clear_50 : decode cX7_clear 50 = .ok (.aload_n 0, 1) := by decide +kernel
theorem dX7_clear_51 : decode cX7_clear 51 = .ok (.iconst 0, 1) := by decide +kernel
theorem dX7_clear_52 : decode cX7_clear 52 = .ok (.putfield 38, 3) := by decide +kernel
theorem dX7_clear_55 : decode cX7_clear 55 = .ok (.aload_n 0, 1) := by decide +kernel
theorem dX7_clear_56 : decode cX7_clear 56 = .ok (.sipush 5000, 3) := by decide +kernel
theorem dX7_clear_59 : decode cX7_clear 59 = .ok (.putfield 41, 3) := by decide +kernel
theorem dX7_clear_62 : decode cX7_clear 62 = .ok (.aload_n 0, 1) := by decide +kernel
theorem dX7_clear_63 : decode cX7_clear 63 = .ok (.sipush 1000, 3) := by decide +kernel
theorem dX7_clear_66 : decode cX7_clear 66 = .ok (.putfield 44, 3) := by decide +kernel
theorem dX7_clear_69 : decode cX7_clear 69 = .ok (.aload_n 0, 1) := by decide +kernel
theorem dX7_clear_70 : decode cX7_clear 70 = .ok (.iconst 0, 1) := by decide +kernel
theorem dX7_clear_71 : decode cX7_clear 71 = .ok (.putfield 47, 3) := by decide +kernel
theorem dX7_clear_74 : decode cX7_clear 74 = .ok (.return_, 1) := by decide +kernel
set_option maxRecDepth 100000 in
set_option maxHeartbeats 4000000 in
theorem c_X7_clear (l : Launch) (D : va_G) (ct : Nat → ClassId) (h0 : Nat) (x0 : Int32) (x1 : Int32) (x2 : Int32) (x3 : Int32) (x4 : Int32) (x5 : Int32) (x6 : Int32) (x7 : Int32) (x8 : Int32) (x9 : Int32) (x10 : Int32) (x11 : Int32) (sz : Nat) : Met l yX7_clear (ws_ yX7_clear cX7_clear 1 none) ({ frames := 0, cells := 0, slots := 0, locals := 0 } : Room) (va_Pc [.ref h0] (cmP D ct sz [(h0, .inr (7, [.int x0, .int x1, .int x2, .int x3, .int x4, .int x5, .int x6, .int x7, .int x8, .int x9, .int x10, .int x11]))])) (va_Qv (fun (_ : Unit) => True) (cmB D [(h0, .inr (7, [.int x0, .int x1, .int x2, .int x3, .int x4, .int x5, .int x6, .int x7, .int x8, .int x9, .int x10, .int x11]))] sz (fun _ : Unit => [(h0, .inr (7, [.int 990, .int 100000, .int 100, .int 5, .int 0, .int 5000, .int 600, .int 250, .int 0, .int 5000, .int 1000, .int 0]))])) (va_A [(h0, .inr (7, [.int x0, .int x1, .int x2, .int x3, .int x4, .int x5, .int x6, .int x7, .int x8, .int x9, .int x10, .int x11]))] sz)) 0 0 (va_A [(h0, .inr (7, [.int x0, .int x1, .int x2, .int x3, .int x4, .int x5, .int x6, .int x7, .int x8, .int x9, .int x10, .int x11]))] sz) := by
  refine Met.ofW (cc := cX7_clear) (maxL := 1) (ret := none) (by decide) rfl ?_
  intro p e s m args below meth c s₁ B hml hv
  obtain ⟨rfl, hsz, hP, hK, hD0, hX⟩ := hv
  have hx := B.exec
  have hb := B.bytes
  have hr := B.returns
  have hts := ws_all (atoms_spec (ws := ws_ yX7_clear cX7_clear 1 none) B.pre)
  have hown : s.vm.findClass RX7 = some m.cls := findClass_of_methodNamed B.named
  have hlocks := B.notSynchronized
  subst hsz
  have hD := hD0.self (sz := s.heap.size)
  generalize hAe : va_A [(h0, .inr (7, [.int x0, .int x1, .int x2, .int x3, .int x4, .int x5, .int x6, .int x7, .int x8, .int x9, .int x10, .int x11]))] s.heap.size = A at hD hX ⊢
  have hA : ∀ q : Nat, s.heap.size ≤ q → A q := fun q h => by rw [← hAe]; exact Or.inr h
  have hS : va_S A s.heap s.heap [] := va_S.rf
  have hl := lv_entry ([.ref h0]) (n := 1) (Nat.le_of_ble_eq_true rfl)
  rw [lg_entry_eq]
  generalize (lg_sl ([.ref h0]) ++ List.replicate (1 - (lg_sl ([.ref h0])).length) Slot.unset).toArray = ls at hl ⊢
  have hl : lv_has ls 1 [(0, .ref h0)] := hl
  refine lv_aload_n hx hb dX7_clear_0 rfl (lv_at hl 0 rfl) ?_
  refine lv_sipush (v := 990) hx hb dX7_clear_1 (by decide) ?_
  refine va_put (v := .int 990) (ty := .int) (D := D) (ci := 7) (C := RX7) (T := TX7) (N := 12) hx hb hts in_X7 tyX7 tyX7_ok nmX7 hown hK hP hD hS 0 rfl rfl 0 (by decide) (hts _ kl_RX7_12) (fun _ h9 => h9) rfl (by decide +kernel) rfl rfl (Nat.le_of_ble_eq_true rfl) dX7_clear_4 (fun H locs hP hD hS => ?_)
  have hP : va_P D vwCl [(h0, .inr (7, [.int 990, .int x1, .int x2, .int x3, .int x4, .int x5, .int x6, .int x7, .int x8, .int x9, .int x10, .int x11]))] H := hP
  have hD : va_D A [(h0, .inr (7, [.int 990, .int x1, .int x2, .int x3, .int x4, .int x5, .int x6, .int x7, .int x8, .int x9, .int x10, .int x11]))] := hD
  refine lv_aload_n hx hb dX7_clear_7 rfl (lv_at hl 0 rfl) ?_
  refine lv_ldc hx hb hown (hts _ kl_RX7_16) dX7_clear_8 ?_
  refine va_put (v := .int 100000) (ty := .int) (D := D) (ci := 7) (C := RX7) (T := TX7) (N := 12) hx hb hts in_X7 tyX7 tyX7_ok nmX7 hown hK hP hD hS 0 rfl rfl 1 (by decide) (hts _ kl_RX7_17) (fun _ h9 => h9) rfl (by decide +kernel) rfl rfl (Nat.le_of_ble_eq_true rfl) dX7_clear_10 (fun H locs hP hD hS => ?_)
  have hP : va_P D vwCl [(h0, .inr (7, [.int 990, .int 100000, .int x2, .int x3, .int x4, .int x5, .int x6, .int x7, .int x8, .int x9, .int x10, .int x11]))] H := hP
  have hD : va_D A [(h0, .inr (7, [.int 990, .int 100000, .int x2, .int x3, .int x4, .int x5, .int x6, .int x7, .int x8, .int x9, .int x10, .int x11]))] := hD
  refine lv_aload_n hx hb dX7_clear_13 rfl (lv_at hl 0 rfl) ?_
  refine lv_bipush (v := 100) hx hb dX7_clear_14 (by decide) ?_
  refine va_put (v := .int 100) (ty := .int) (D := D) (ci := 7) (C := RX7) (T := TX7) (N := 12) hx hb hts in_X7 tyX7 tyX7_ok nmX7 hown hK hP hD hS 0 rfl rfl 2 (by decide) (hts _ kl_RX7_20) (fun _ h9 => h9) rfl (by decide +kernel) rfl rfl (Nat.le_of_ble_eq_true rfl) dX7_clear_16 (fun H locs hP hD hS => ?_)
  have hP : va_P D vwCl [(h0, .inr (7, [.int 990, .int 100000, .int 100, .int x3, .int x4, .int x5, .int x6, .int x7, .int x8, .int x9, .int x10, .int x11]))] H := hP
  have hD : va_D A [(h0, .inr (7, [.int 990, .int 100000, .int 100, .int x3, .int x4, .int x5, .int x6, .int x7, .int x8, .int x9, .int x10, .int x11]))] := hD
  refine lv_aload_n hx hb dX7_clear_19 rfl (lv_at hl 0 rfl) ?_
  refine lv_iconst (v := 5) hx hb dX7_clear_20 (by decide) ?_
  refine va_put (v := .int 5) (ty := .int) (D := D) (ci := 7) (C := RX7) (T := TX7) (N := 12) hx hb hts in_X7 tyX7 tyX7_ok nmX7 hown hK hP hD hS 0 rfl rfl 3 (by decide) (hts _ kl_RX7_23) (fun _ h9 => h9) rfl (by decide +kernel) rfl rfl (Nat.le_of_ble_eq_true rfl) dX7_clear_21 (fun H locs hP hD hS => ?_)
  have hP : va_P D vwCl [(h0, .inr (7, [.int 990, .int 100000, .int 100, .int 5, .int x4, .int x5, .int x6, .int x7, .int x8, .int x9, .int x10, .int x11]))] H := hP
  have hD : va_D A [(h0, .inr (7, [.int 990, .int 100000, .int 100, .int 5, .int x4, .int x5, .int x6, .int x7, .int x8, .int x9, .int x10, .int x11]))] := hD
  refine lv_aload_n hx hb dX7_clear_24 rfl (lv_at hl 0 rfl) ?_
  refine lv_iconst (v := 0) hx hb dX7_clear_25 (by decide) ?_
  refine va_put (v := .int 0) (ty := .int) (D := D) (ci := 7) (C := RX7) (T := TX7) (N := 12) hx hb hts in_X7 tyX7 tyX7_ok nmX7 hown hK hP hD hS 0 rfl rfl 4 (by decide) (hts _ kl_RX7_26) (fun _ h9 => h9) rfl (by decide +kernel) rfl rfl (Nat.le_of_ble_eq_true rfl) dX7_clear_26 (fun H locs hP hD hS => ?_)
  have hP : va_P D vwCl [(h0, .inr (7, [.int 990, .int 100000, .int 100, .int 5, .int 0, .int x5, .int x6, .int x7, .int x8, .int x9, .int x10, .int x11]))] H := hP
  have hD : va_D A [(h0, .inr (7, [.int 990, .int 100000, .int 100, .int 5, .int 0, .int x5, .int x6, .int x7, .int x8, .int x9, .int x10, .int x11]))] := hD
  refine lv_aload_n hx hb dX7_clear_29 rfl (lv_at hl 0 rfl) ?_
  refine lv_sipush (v := 5000) hx hb dX7_clear_30 (by decide) ?_
  refine va_put (v := .int 5000) (ty := .int) (D := D) (ci := 7) (C := RX7) (T := TX7) (N := 12) hx hb hts in_X7 tyX7 tyX7_ok nmX7 hown hK hP hD hS 0 rfl rfl 5 (by decide) (hts _ kl_RX7_29) (fun _ h9 => h9) rfl (by decide +kernel) rfl rfl (Nat.le_of_ble_eq_true rfl) dX7_clear_33 (fun H locs hP hD hS => ?_)
  have hP : va_P D vwCl [(h0, .inr (7, [.int 990, .int 100000, .int 100, .int 5, .int 0, .int 5000, .int x6, .int x7, .int x8, .int x9, .int x10, .int x11]))] H := hP
  have hD : va_D A [(h0, .inr (7, [.int 990, .int 100000, .int 100, .int 5, .int 0, .int 5000, .int x6, .int x7, .int x8, .int x9, .int x10, .int x11]))] := hD
  refine lv_aload_n hx hb dX7_clear_36 rfl (lv_at hl 0 rfl) ?_
  refine lv_sipush (v := 600) hx hb dX7_clear_37 (by decide) ?_
  refine va_put (v := .int 600) (ty := .int) (D := D) (ci := 7) (C := RX7) (T := TX7) (N := 12) hx hb hts in_X7 tyX7 tyX7_ok nmX7 hown hK hP hD hS 0 rfl rfl 6 (by decide) (hts _ kl_RX7_32) (fun _ h9 => h9) rfl (by decide +kernel) rfl rfl (Nat.le_of_ble_eq_true rfl) dX7_clear_40 (fun H locs hP hD hS => ?_)
  have hP : va_P D vwCl [(h0, .inr (7, [.int 990, .int 100000, .int 100, .int 5, .int 0, .int 5000, .int 600, .int x7, .int x8, .int x9, .int x10, .int x11]))] H := hP
  have hD : va_D A [(h0, .inr (7, [.int 990, .int 100000, .int 100, .int 5, .int 0, .int 5000, .int 600, .int x7, .int x8, .int x9, .int x10, .int x11]))] := hD
  refine lv_aload_n hx hb dX7_clear_43 rfl (lv_at hl 0 rfl) ?_
  refine lv_sipush (v := 250) hx hb dX7_clear_44 (by decide) ?_
  refine va_put (v := .int 250) (ty := .int) (D := D) (ci := 7) (C := RX7) (T := TX7) (N := 12) hx hb hts in_X7 tyX7 tyX7_ok nmX7 hown hK hP hD hS 0 rfl rfl 7 (by decide) (hts _ kl_RX7_35) (fun _ h9 => h9) rfl (by decide +kernel) rfl rfl (Nat.le_of_ble_eq_true rfl) dX7_clear_47 (fun H locs hP hD hS => ?_)
  have hP : va_P D vwCl [(h0, .inr (7, [.int 990, .int 100000, .int 100, .int 5, .int 0, .int 5000, .int 600, .int 250, .int x8, .int x9, .int x10, .int x11]))] H := hP
  have hD : va_D A [(h0, .inr (7, [.int 990, .int 100000, .int 100, .int 5, .int 0, .int 5000, .int 600, .int 250, .int x8, .int x9, .int x10, .int x11]))] := hD
  refine lv_aload_n hx hb dX7_clear_50 rfl (lv_at hl 0 rfl) ?_
  refine lv_iconst (v := 0) hx hb dX7_clear_51 (by decide) ?_
  refine va_put (v := .int 0) (ty := .int) (D := D) (ci := 7) (C := RX7) (T := TX7) (N := 12) hx hb hts in_X7 tyX7 tyX7_ok nmX7 hown hK hP hD hS 0 rfl rfl 8 (by decide) (hts _ kl_RX7_38) (fun _ h9 => h9) rfl (by decide +kernel) rfl rfl (Nat.le_of_ble_eq_true rfl) dX7_clear_52 (fun H locs hP hD hS => ?_)
  have hP : va_P D vwCl [(h0, .inr (7, [.int 990, .int 100000, .int 100, .int 5, .int 0, .int 5000, .int 600, .int 250, .int 0, .int x9, .int x10, .int x11]))] H := hP
  have hD : va_D A [(h0, .inr (7, [.int 990, .int 100000, .int 100, .int 5, .int 0, .int 5000, .int 600, .int 250, .int 0, .int x9, .int x10, .int x11]))] := hD
  refine lv_aload_n hx hb dX7_clear_55 rfl (lv_at hl 0 rfl) ?_
  refine lv_sipush (v := 5000) hx hb dX7_clear_56 (by decide) ?_
  refine va_put (v := .int 5000) (ty := .int) (D := D) (ci := 7) (C := RX7) (T := TX7) (N := 12) hx hb hts in_X7 tyX7 tyX7_ok nmX7 hown hK hP hD hS 0 rfl rfl 9 (by decide) (hts _ kl_RX7_41) (fun _ h9 => h9) rfl (by decide +kernel) rfl rfl (Nat.le_of_ble_eq_true rfl) dX7_clear_59 (fun H locs hP hD hS => ?_)
  have hP : va_P D vwCl [(h0, .inr (7, [.int 990, .int 100000, .int 100, .int 5, .int 0, .int 5000, .int 600, .int 250, .int 0, .int 5000, .int x10, .int x11]))] H := hP
  have hD : va_D A [(h0, .inr (7, [.int 990, .int 100000, .int 100, .int 5, .int 0, .int 5000, .int 600, .int 250, .int 0, .int 5000, .int x10, .int x11]))] := hD
  refine lv_aload_n hx hb dX7_clear_62 rfl (lv_at hl 0 rfl) ?_
  refine lv_sipush (v := 1000) hx hb dX7_clear_63 (by decide) ?_
  refine va_put (v := .int 1000) (ty := .int) (D := D) (ci := 7) (C := RX7) (T := TX7) (N := 12) hx hb hts in_X7 tyX7 tyX7_ok nmX7 hown hK hP hD hS 0 rfl rfl 10 (by decide) (hts _ kl_RX7_44) (fun _ h9 => h9) rfl (by decide +kernel) rfl rfl (Nat.le_of_ble_eq_true rfl) dX7_clear_66 (fun H locs hP hD hS => ?_)
  have hP : va_P D vwCl [(h0, .inr (7, [.int 990, .int 100000, .int 100, .int 5, .int 0, .int 5000, .int 600, .int 250, .int 0, .int 5000, .int 1000, .int x11]))] H := hP
  have hD : va_D A [(h0, .inr (7, [.int 990, .int 100000, .int 100, .int 5, .int 0, .int 5000, .int 600, .int 250, .int 0, .int 5000, .int 1000, .int x11]))] := hD
  refine lv_aload_n hx hb dX7_clear_69 rfl (lv_at hl 0 rfl) ?_
  refine lv_iconst (v := 0) hx hb dX7_clear_70 (by decide) ?_
  refine va_put (v := .int 0) (ty := .int) (D := D) (ci := 7) (C := RX7) (T := TX7) (N := 12) hx hb hts in_X7 tyX7 tyX7_ok nmX7 hown hK hP hD hS 0 rfl rfl 11 (by decide) (hts _ kl_RX7_47) (fun _ h9 => h9) rfl (by decide +kernel) rfl rfl (Nat.le_of_ble_eq_true rfl) dX7_clear_71 (fun H locs hP hD hS => ?_)
  have hP : va_P D vwCl [(h0, .inr (7, [.int 990, .int 100000, .int 100, .int 5, .int 0, .int 5000, .int 600, .int 250, .int 0, .int 5000, .int 1000, .int 0]))] H := hP
  have hD : va_D A [(h0, .inr (7, [.int 990, .int 100000, .int 100, .int 5, .int 0, .int 5000, .int 600, .int 250, .int 0, .int 5000, .int 1000, .int 0]))] := hD
  have hP9 := hP.sub (ws' := [(h0, .inr (7, [.int 990, .int 100000, .int 100, .int 5, .int 0, .int 5000, .int 600, .int 250, .int 0, .int 5000, .int 1000, .int 0]))]) [0] rfl
  have hD9 := hD.sub (ws' := [(h0, .inr (7, [.int 990, .int 100000, .int 100, .int 5, .int 0, .int 5000, .int 600, .int 250, .int 0, .int 5000, .int 1000, .int 0]))]) [0] (by decide) rfl
  exact W.vret hx hb hr (fun t ht hW => ⟨⟨(), rfl, trivial, by rw [ht]; exact hP9, by rw [hAe]; exact hD9⟩, hS.F ht⟩) hS.2.2 dX7_clear_74
theorem dX7_init_0 : decode cX7_init 0 = .ok (.aload_n 0, 1) := by decide +kernel
theorem dX7_init_1 : decode cX7_init 1 = .ok (.invokespecial 1, 3) := by decide +kernel
theorem dX7_init_4 : decode cX7_init 4 = .ok (.aload_n 0, 1) := by decide +kernel
theorem dX7_init_5 : decode cX7_init 5 = .ok (.invokevirtual 7, 3) := by decide +kernel
theorem dX7_init_8 : decode cX7_init 8 = .ok (.return_, 1) := by decide +kernel
set_option maxRecDepth 100000 in
set_option maxHeartbeats 4000000 in
theorem c_X7_init (l : Launch) (D : va_G) (ct : Nat → ClassId) (h0 : Nat) (x0 : Int32) (x1 : Int32) (x2 : Int32) (x3 : Int32) (x4 : Int32) (x5 : Int32) (x6 : Int32) (x7 : Int32) (x8 : Int32) (x9 : Int32) (x10 : Int32) (x11 : Int32) (sz : Nat) : Met l yX7_init (ws_ yX7_init cX7_init 1 none) ({ frames := 1, cells := 0, slots := 0, locals := 20 } : Room) (va_Pc [.ref h0] (cmP D ct sz [(h0, .inr (7, [.int x0, .int x1, .int x2, .int x3, .int x4, .int x5, .int x6, .int x7, .int x8, .int x9, .int x10, .int x11]))])) (va_Qv (fun (_ : Unit) => True) (cmB D [(h0, .inr (7, [.int x0, .int x1, .int x2, .int x3, .int x4, .int x5, .int x6, .int x7, .int x8, .int x9, .int x10, .int x11]))] sz (fun _ : Unit => [(h0, .inr (7, [.int 990, .int 100000, .int 100, .int 5, .int 0, .int 5000, .int 600, .int 250, .int 0, .int 5000, .int 1000, .int 0]))])) (va_A [(h0, .inr (7, [.int x0, .int x1, .int x2, .int x3, .int x4, .int x5, .int x6, .int x7, .int x8, .int x9, .int x10, .int x11]))] sz)) 0 0 (va_A [(h0, .inr (7, [.int x0, .int x1, .int x2, .int x3, .int x4, .int x5, .int x6, .int x7, .int x8, .int x9, .int x10, .int x11]))] sz) := by
  refine Met.ofW (cc := cX7_init) (maxL := 1) (ret := none) (by decide) rfl ?_
  intro p e s m args below meth c s₁ B hml hv
  obtain ⟨rfl, hsz, hP, hK, hD0, hX⟩ := hv
  have hx := B.exec
  have hb := B.bytes
  have hr := B.returns
  have hts := ws_all (atoms_spec (ws := ws_ yX7_init cX7_init 1 none) B.pre)
  have hown : s.vm.findClass RX7 = some m.cls := findClass_of_methodNamed B.named
  have hlocks := B.notSynchronized
  have hin : meth.name = "<init>" := (name_of_methodNamed B.named B.method).1
  subst hsz
  have hD := hD0.self (sz := s.heap.size)
  generalize hAe : va_A [(h0, .inr (7, [.int x0, .int x1, .int x2, .int x3, .int x4, .int x5, .int x6, .int x7, .int x8, .int x9, .int x10, .int x11]))] s.heap.size = A at hD hX ⊢
  have hA : ∀ q : Nat, s.heap.size ≤ q → A q := fun q h => by rw [← hAe]; exact Or.inr h
  have hS : va_S A s.heap s.heap [] := va_S.rf
  have hl := lv_entry ([.ref h0]) (n := 1) (Nat.le_of_ble_eq_true rfl)
  rw [lg_entry_eq]
  generalize (lg_sl ([.ref h0]) ++ List.replicate (1 - (lg_sl ([.ref h0])).length) Slot.unset).toArray = ls at hl ⊢
  have hl : lv_has ls 1 [(0, .ref h0)] := hl
  refine lv_aload_n hx hb dX7_init_0 rfl (lv_at hl 0 rfl) ?_
  refine W.objInit hx hb hown (hts _ kl_RX7_1) (hts _ kv_java_lang_Object_init) (hts _ kc_java_lang_Object_init) rfl (by rw [hml]; exact hl.1) rfl dX7_init_1 (Nat.le_of_ble_eq_true rfl) (Nat.le_of_ble_eq_true rfl) ?_
  refine W.eq (g2 := F0 m 4 ls []) rfl ?_
  refine lv_aload_n hx hb dX7_init_4 rfl (lv_at hl 0 rfl) ?_
  refine cm_kv (wr := []) (va_runV (As := []) (rest := []) ⟨hx, hb, hml, hown, hts⟩ (c_X7_clear l D ct h0 x0 x1 x2 x3 x4 x5 x6 x7 x8 x9 x10 x11 _) (cm_V 0 hts kc_X7_clear ki_RX7 kl_RX7_7 kv_X7_clear kx_X7_clear kd_X7_clear ⟨Nat.le_of_ble_eq_true rfl, Nat.le_of_ble_eq_true rfl⟩) (cm_preV hP hK hD hS hA hX [0] rfl rfl rfl (q0 := 0) (ci := 7) rfl rfl) rfl rfl hl.1 rfl (lv_room (Nat.le_of_ble_eq_true rfl)) dX7_init_5 ⟨Nat.le_of_ble_eq_true rfl, Nat.le_of_ble_eq_true rfl⟩) hP hD hS hA [0] [] rfl rfl rfl (by decide) (fun u H locs hw_2 hP hD hS => ?_)
  have hP : va_P D vwCl [(h0, .inr (7, [.int 990, .int 100000, .int 100, .int 5, .int 0, .int 5000, .int 600, .int 250, .int 0, .int 5000, .int 1000, .int 0]))] H := hP
  have hD : va_D A [(h0, .inr (7, [.int 990, .int 100000, .int 100, .int 5, .int 0, .int 5000, .int 600, .int 250, .int 0, .int 5000, .int 1000, .int 0]))] := hD
  have hP9 := hP.sub (ws' := [(h0, .inr (7, [.int 990, .int 100000, .int 100, .int 5, .int 0, .int 5000, .int 600, .int 250, .int 0, .int 5000, .int 1000, .int 0]))]) [0] rfl
  have hD9 := hD.sub (ws' := [(h0, .inr (7, [.int 990, .int 100000, .int 100, .int 5, .int 0, .int 5000, .int 600, .int 250, .int 0, .int 5000, .int 1000, .int 0]))]) [0] (by decide) rfl
  exact W.vret hx hb hr (fun t ht hW => ⟨⟨(), rfl, trivial, by rw [ht]; exact hP9, by rw [hAe]; exact hD9⟩, hS.F ht⟩) hS.2.2 dX7_init_8
theorem dX2_init_0 : decode cX2_init 0 = .ok (.aload_n 0, 1) := by decide +kernel
theorem dX2_init_1 : decode cX2_init 1 = .ok (.invokespecial 3, 3) := by decide +kernel
theorem dX2_init_4 : decode cX2_init 4 = .ok (.aload_n 0, 1) := by decide +kernel
theorem dX2_init_5 : decode cX2_init 5 = .ok (.iconst 4, 1) := by decide +kernel
theorem dX2_init_6 : decode cX2_init 6 = .ok (.newarray .long, 2) := by decide +kernel
theorem dX2_init_8 : decode cX2_init 8 = .ok (.putfield 9, 3) := by decide +kernel
theorem dX2_init_11 : decode cX2_init 11 = .ok (.aload_n 0, 1) := by decide +kernel
theorem dX2_init_12 : decode cX2_init 12 = .ok (.iconst 4, 1) := by decide +kernel
theorem dX2_init_13 : decode cX2_init 13 = .ok (.newarray .int, 2) := by decide +kernel
theorem dX2_init_15 : decode cX2_init 15 = .ok (.putfield 15, 3) := by decide +kernel
theorem dX2_init_18 : decode cX2_init 18 = .ok (.aload_n 0, 1) := by decide +kernel
theorem dX2_init_19 : decode cX2_init 19 = .ok (.bipush 44, 2) := by decide +kernel
theorem dX2_init_21 : decode cX2_init 21 = .ok (.newarray .int, 2) := by decide +kernel
theorem dX2_init_23 : decode cX2_init 23 = .ok (.putfield 19, 3) := by decide +kernel
theorem dX2_init_26 : decode cX2_init 26 = .ok (.return_, 1) := by decide +kernel
set_option maxRecDepth 100000 in
set_option maxHeartbeats 4000000 in
theorem c_X2_init (l : Launch) (D : va_G) (ct : Nat → ClassId) (h0 : Nat) (x0 : Int32) (sz : Nat) : Met l yX2_init (ws_ yX2_init cX2_init 1 none) ({ frames := 1, cells := 3, slots := 52, locals := 12 } : Room) (va_Pc [.ref h0] (cmP D ct sz [(h0, .inr (2, [.int x0, .null, .null, .null]))])) (va_Qv (fun (u : Nat × Nat × Nat) => match u with | (a1, a2, a3) => True) (cmB D [(h0, .inr (2, [.int x0, .null, .null, .null]))] sz (fun u : Nat × Nat × Nat => match u with | (a1, a2, a3) => [(h0, .inr (2, [.int x0, .ref a1, .ref a2, .ref a3])), (a1, .inl (ct 1, 4, .inr (.inl (fun _ => 0)))), (a2, .inl (ct 0, 4, .inl (fun _ => 0))), (a3, .inl (ct 0, 44, .inl (fun _ => 0)))])) (va_A [(h0, .inr (2, [.int x0, .null, .null, .null]))] sz)) 3 52 (va_A [(h0, .inr (2, [.int x0, .null, .null, .null]))] sz) := by
  refine Met.ofW (cc := cX2_init) (maxL := 1) (ret := none) (by decide) rfl ?_
  intro p e s m args below meth c s₁ B hml hv
  obtain ⟨rfl, hsz, hP, hK, hD0, hX⟩ := hv
  have hx := B.exec
  have hb := B.bytes
  have hr := B.returns
  have hts := ws_all (atoms_spec (ws := ws_ yX2_init cX2_init 1 none) B.pre)
  have hown : s.vm.findClass RX2 = some m.cls := findClass_of_methodNamed B.named
  have hlocks := B.notSynchronized
  have hin : meth.name = "<init>" := (name_of_methodNamed B.named B.method).1
  subst hsz
  have hD := hD0.self (sz := s.heap.size)
  generalize hAe : va_A [(h0, .inr (2, [.int x0, .null, .null, .null]))] s.heap.size = A at hD hX ⊢
  have hA : ∀ q : Nat, s.heap.size ≤ q → A q := fun q h => by rw [← hAe]; exact Or.inr h
  have hS : va_S A s.heap s.heap [] := va_S.rf
  have hl := lv_entry ([.ref h0]) (n := 1) (Nat.le_of_ble_eq_true rfl)
  rw [lg_entry_eq]
  generalize (lg_sl ([.ref h0]) ++ List.replicate (1 - (lg_sl ([.ref h0])).length) Slot.unset).toArray = ls at hl ⊢
  have hl : lv_has ls 1 [(0, .ref h0)] := hl
  refine lv_aload_n hx hb dX2_init_0 rfl (lv_at hl 0 rfl) ?_
  refine W.objInit hx hb hown (hts _ kl_RX2_3) (hts _ kv_java_lang_Object_init) (hts _ kc_java_lang_Object_init) rfl (by rw [hml]; exact hl.1) rfl dX2_init_1 (Nat.le_of_ble_eq_true rfl) (Nat.le_of_ble_eq_true rfl) ?_
  refine W.eq (g2 := F0 m 4 ls []) rfl ?_
  refine lv_aload_n hx hb dX2_init_4 rfl (lv_at hl 0 rfl) ?_
  refine lv_iconst (v := 4) hx hb dX2_init_5 (by decide) ?_
  refine cm_newa (atype := .long) (ty := .long) (a0 := (4, .inr (.inl (fun _ => 0)))) hx hb (hts _ ka_long) rfl hK 1 rfl cm_raJ hP hD hS hA (fun _ => rfl) (by decide) (by decide) (Nat.le_of_ble_eq_true rfl) (Nat.le_of_ble_eq_true rfl) (Nat.le_of_ble_eq_true rfl) dX2_init_6 (fun q_1 H hP hD hS => ?_)
  have hP : va_P D vwCl [(h0, .inr (2, [.int x0, .null, .null, .null])), (q_1, .inl (ct 1, 4, .inr (.inl (fun _ => 0))))] H := hP
  have hD : va_D A [(h0, .inr (2, [.int x0, .null, .null, .null])), (q_1, .inl (ct 1, 4, .inr (.inl (fun _ => 0))))] := hD
  refine W.widen (k := 1) (n := 4) (Nat.le_of_ble_eq_true rfl) (Nat.le_of_ble_eq_true rfl) ?_
  refine va_putF (v := .ref q_1) (ty := (tyX2 1)) (D := D) (ci := 2) (C := RX2) (T := TX2) (N := 4) hx hb hts in_X2 tyX2 tyX2_ok nmX2 hown hK hP hD hS 0 rfl rfl 1 (by decide) (hts _ kl_RX2_9) (fun _ h9 => h9) rfl hin rfl (by decide +kernel) rfl rfl (Nat.le_of_ble_eq_true rfl) dX2_init_8 (fun H locs hP hD hS => ?_)
  have hP : va_P D vwCl [(h0, .inr (2, [.int x0, .ref q_1, .null, .null])), (q_1, .inl (ct 1, 4, .inr (.inl (fun _ => 0))))] H := hP
  have hD : va_D A [(h0, .inr (2, [.int x0, .ref q_1, .null, .null])), (q_1, .inl (ct 1, 4, .inr (.inl (fun _ => 0))))] := hD
  refine lv_aload_n hx hb dX2_init_11 rfl (lv_at hl 0 rfl) ?_
  refine lv_iconst (v := 4) hx hb dX2_init_12 (by decide) ?_
  refine cm_newa (atype := .int) (ty := .int) (a0 := (4, .inl (fun _ => 0))) hx hb (hts _ ka_int) rfl hK 0 rfl cm_raI hP hD hS hA (fun _ => rfl) (by decide) (by decide) (Nat.le_of_ble_eq_true rfl) (Nat.le_of_ble_eq_true rfl) (Nat.le_of_ble_eq_true rfl) dX2_init_13 (fun q_2 H hP hD hS => ?_)
  have hP : va_P D vwCl [(h0, .inr (2, [.int x0, .ref q_1, .null, .null])), (q_1, .inl (ct 1, 4, .inr (.inl (fun _ => 0)))), (q_2, .inl (ct 0, 4, .inl (fun _ => 0)))] H := hP
  have hD : va_D A [(h0, .inr (2, [.int x0, .ref q_1, .null, .null])), (q_1, .inl (ct 1, 4, .inr (.inl (fun _ => 0)))), (q_2, .inl (ct 0, 4, .inl (fun _ => 0)))] := hD
  refine W.widen (k := 2) (n := 8) (Nat.le_of_ble_eq_true rfl) (Nat.le_of_ble_eq_true rfl) ?_
  refine va_putF (v := .ref q_2) (ty := (tyX2 2)) (D := D) (ci := 2) (C := RX2) (T := TX2) (N := 4) hx hb hts in_X2 tyX2 tyX2_ok nmX2 hown hK hP hD hS 0 rfl rfl 2 (by decide) (hts _ kl_RX2_15) (fun _ h9 => h9) rfl hin rfl (by decide +kernel) rfl rfl (Nat.le_of_ble_eq_true rfl) dX2_init_15 (fun H locs hP hD hS => ?_)
  have hP : va_P D vwCl [(h0, .inr (2, [.int x0, .ref q_1, .ref q_2, .null])), (q_1, .inl (ct 1, 4, .inr (.inl (fun _ => 0)))), (q_2, .inl (ct 0, 4, .inl (fun _ => 0)))] H := hP
  have hD : va_D A [(h0, .inr (2, [.int x0, .ref q_1, .ref q_2, .null])), (q_1, .inl (ct 1, 4, .inr (.inl (fun _ => 0)))), (q_2, .inl (ct 0, 4, .inl (fun _ => 0)))] := hD
  refine lv_aload_n hx hb dX2_init_18 rfl (lv_at hl 0 rfl) ?_
  refine lv_bipush (v := 44) hx hb dX2_init_19 (by decide) ?_
  refine cm_newa (atype := .int) (ty := .int) (a0 := (44, .inl (fun _ => 0))) hx hb (hts _ ka_int) rfl hK 0 rfl cm_raI hP hD hS hA (fun _ => rfl) (by decide) (by decide) (Nat.le_of_ble_eq_true rfl) (Nat.le_of_ble_eq_true rfl) (Nat.le_of_ble_eq_true rfl) dX2_init_21 (fun q_3 H hP hD hS => ?_)
  have hP : va_P D vwCl [(h0, .inr (2, [.int x0, .ref q_1, .ref q_2, .null])), (q_1, .inl (ct 1, 4, .inr (.inl (fun _ => 0)))), (q_2, .inl (ct 0, 4, .inl (fun _ => 0))), (q_3, .inl (ct 0, 44, .inl (fun _ => 0)))] H := hP
  have hD : va_D A [(h0, .inr (2, [.int x0, .ref q_1, .ref q_2, .null])), (q_1, .inl (ct 1, 4, .inr (.inl (fun _ => 0)))), (q_2, .inl (ct 0, 4, .inl (fun _ => 0))), (q_3, .inl (ct 0, 44, .inl (fun _ => 0)))] := hD
  refine W.widen (k := 3) (n := 52) (Nat.le_of_ble_eq_true rfl) (Nat.le_of_ble_eq_true rfl) ?_
  refine va_putF (v := .ref q_3) (ty := (tyX2 3)) (D := D) (ci := 2) (C := RX2) (T := TX2) (N := 4) hx hb hts in_X2 tyX2 tyX2_ok nmX2 hown hK hP hD hS 0 rfl rfl 3 (by decide) (hts _ kl_RX2_19) (fun _ h9 => h9) rfl hin rfl (by decide +kernel) rfl rfl (Nat.le_of_ble_eq_true rfl) dX2_init_23 (fun H locs hP hD hS => ?_)
  have hP : va_P D vwCl [(h0, .inr (2, [.int x0, .ref q_1, .ref q_2, .ref q_3])), (q_1, .inl (ct 1, 4, .inr (.inl (fun _ => 0)))), (q_2, .inl (ct 0, 4, .inl (fun _ => 0))), (q_3, .inl (ct 0, 44, .inl (fun _ => 0)))] H := hP
  have hD : va_D A [(h0, .inr (2, [.int x0, .ref q_1, .ref q_2, .ref q_3])), (q_1, .inl (ct 1, 4, .inr (.inl (fun _ => 0)))), (q_2, .inl (ct 0, 4, .inl (fun _ => 0))), (q_3, .inl (ct 0, 44, .inl (fun _ => 0)))] := hD
  have hP9 := hP.sub (ws' := [(h0, .inr (2, [.int x0, .ref q_1, .ref q_2, .ref q_3])), (q_1, .inl (ct 1, 4, .inr (.inl (fun _ => 0)))), (q_2, .inl (ct 0, 4, .inl (fun _ => 0))), (q_3, .inl (ct 0, 44, .inl (fun _ => 0)))]) [0, 1, 2, 3] rfl
  have hD9 := hD.sub (ws' := [(h0, .inr (2, [.int x0, .ref q_1, .ref q_2, .ref q_3])), (q_1, .inl (ct 1, 4, .inr (.inl (fun _ => 0)))), (q_2, .inl (ct 0, 4, .inl (fun _ => 0))), (q_3, .inl (ct 0, 44, .inl (fun _ => 0)))]) [0, 1, 2, 3] (by decide) rfl
  exact W.vret hx hb hr (fun t ht hW => ⟨⟨⟨q_1, q_2, q_3⟩, rfl, trivial, by rw [ht]; exact hP9, by rw [hAe]; exact hD9⟩, hS.F ht⟩) hS.2.2 dX2_init_26
end
