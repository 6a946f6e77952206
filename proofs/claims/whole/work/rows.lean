section
-- ===== PART A: goes FIRST, ahead of the names: the tables' words, and 'selects' of the private methods out of them =====
/-- a private method of a class that the tables say can be made, by its rows of tables_1 -/
def lw_okq (q : MethodName × Nat) : Prop := (q.1.cls ≠ "java/lang/invoke/MethodHandle" ∧ q.1.cls ≠ "java/lang/invoke/VarHandle") ∧ Cond.instantiable q.1.cls q.2 ∈ tables_1 ∧ Cond.privateMethod q.1 ∈ tables_1 ∧ Cond.instanceMethod q.1 ∈ tables_1
theorem lw_p0 : lw_okq (⟨"InstrumentFiles$Reader", "take", "(LInstrumentFiles$Tape;III)I"⟩, 2) := ⟨⟨by decide +kernel, by decide +kernel⟩, List.mem_of_getElem? (i := 156) (by decide +kernel), List.mem_of_getElem? (i := 321) (by decide +kernel), List.mem_of_getElem? (i := 322) (by decide +kernel)⟩
theorem lw_p1 : lw_okq (⟨"InstrumentFiles$Reader", "readPool", "(LInstrumentFiles$Tape;LInstrumentFiles$Pool;)V"⟩, 2) := ⟨⟨by decide +kernel, by decide +kernel⟩, List.mem_of_getElem? (i := 156) (by decide +kernel), List.mem_of_getElem? (i := 326) (by decide +kernel), List.mem_of_getElem? (i := 327) (by decide +kernel)⟩
theorem lw_p2 : lw_okq (⟨"InstrumentFiles$Reader", "takeMany", "(LInstrumentFiles$Tape;III)J"⟩, 2) := ⟨⟨by decide +kernel, by decide +kernel⟩, List.mem_of_getElem? (i := 156) (by decide +kernel), List.mem_of_getElem? (i := 330) (by decide +kernel), List.mem_of_getElem? (i := 331) (by decide +kernel)⟩
theorem lw_p3 : lw_okq (⟨"InstrumentFiles$Reader", "readMethods", "(LInstrumentFiles$Tape;LInstrumentFiles$Program;)V"⟩, 2) := ⟨⟨by decide +kernel, by decide +kernel⟩, List.mem_of_getElem? (i := 156) (by decide +kernel), List.mem_of_getElem? (i := 347) (by decide +kernel), List.mem_of_getElem? (i := 348) (by decide +kernel)⟩
theorem lw_p4 : lw_okq (⟨"InstrumentFiles$Reader", "takeName", "(LInstrumentFiles$Tape;LInstrumentFiles$Program;)I"⟩, 2) := ⟨⟨by decide +kernel, by decide +kernel⟩, List.mem_of_getElem? (i := 156) (by decide +kernel), List.mem_of_getElem? (i := 355) (by decide +kernel), List.mem_of_getElem? (i := 356) (by decide +kernel)⟩
theorem lw_p5 : lw_okq (⟨"InstrumentFiles$Reader", "readHead", "(LInstrumentFiles$Tape;LInstrumentFiles$Method;)V"⟩, 2) := ⟨⟨by decide +kernel, by decide +kernel⟩, List.mem_of_getElem? (i := 156) (by decide +kernel), List.mem_of_getElem? (i := 379) (by decide +kernel), List.mem_of_getElem? (i := 380) (by decide +kernel)⟩
theorem lw_p6 : lw_okq (⟨"InstrumentFiles$Reader", "readCode", "(LInstrumentFiles$Tape;LInstrumentFiles$Method;)V"⟩, 2) := ⟨⟨by decide +kernel, by decide +kernel⟩, List.mem_of_getElem? (i := 156) (by decide +kernel), List.mem_of_getElem? (i := 386) (by decide +kernel), List.mem_of_getElem? (i := 387) (by decide +kernel)⟩
theorem lw_p7 : lw_okq (⟨"InstrumentFiles$Reader", "readMaps", "(LInstrumentFiles$Tape;LInstrumentFiles$Method;)V"⟩, 2) := ⟨⟨by decide +kernel, by decide +kernel⟩, List.mem_of_getElem? (i := 156) (by decide +kernel), List.mem_of_getElem? (i := 394) (by decide +kernel), List.mem_of_getElem? (i := 395) (by decide +kernel)⟩
theorem lw_p8 : lw_okq (⟨"InstrumentFiles$Reader", "takeMapKinds", "(LInstrumentFiles$Tape;LInstrumentFiles$Method;)I"⟩, 2) := ⟨⟨by decide +kernel, by decide +kernel⟩, List.mem_of_getElem? (i := 156) (by decide +kernel), List.mem_of_getElem? (i := 398) (by decide +kernel), List.mem_of_getElem? (i := 399) (by decide +kernel)⟩
theorem lw_p9 : lw_okq (⟨"InstrumentFiles$Judge", "judgeOp", "(LInstrumentFiles$Program;LInstrumentFiles$Method;)I"⟩, 3) := ⟨⟨by decide +kernel, by decide +kernel⟩, List.mem_of_getElem? (i := 171) (by decide +kernel), List.mem_of_getElem? (i := 424) (by decide +kernel), List.mem_of_getElem? (i := 425) (by decide +kernel)⟩
theorem lw_p10 : lw_okq (⟨"InstrumentFiles$Judge", "meetsMap", "(LInstrumentFiles$Method;)Z"⟩, 3) := ⟨⟨by decide +kernel, by decide +kernel⟩, List.mem_of_getElem? (i := 171) (by decide +kernel), List.mem_of_getElem? (i := 428) (by decide +kernel), List.mem_of_getElem? (i := 429) (by decide +kernel)⟩
theorem lw_p11 : lw_okq (⟨"InstrumentFiles$Judge", "hasEntry", "(LInstrumentFiles$Program;LInstrumentFiles$Method;II)Z"⟩, 3) := ⟨⟨by decide +kernel, by decide +kernel⟩, List.mem_of_getElem? (i := 171) (by decide +kernel), List.mem_of_getElem? (i := 463) (by decide +kernel), List.mem_of_getElem? (i := 464) (by decide +kernel)⟩
theorem lw_p12 : lw_okq (⟨"InstrumentFiles$Judge", "judgeCall", "(LInstrumentFiles$Method;LInstrumentFiles$Method;)I"⟩, 3) := ⟨⟨by decide +kernel, by decide +kernel⟩, List.mem_of_getElem? (i := 171) (by decide +kernel), List.mem_of_getElem? (i := 478) (by decide +kernel), List.mem_of_getElem? (i := 479) (by decide +kernel)⟩
theorem lw_p13 : lw_okq (⟨"InstrumentFiles$Judge", "popped", "()I"⟩, 3) := ⟨⟨by decide +kernel, by decide +kernel⟩, List.mem_of_getElem? (i := 171) (by decide +kernel), List.mem_of_getElem? (i := 483) (by decide +kernel), List.mem_of_getElem? (i := 484) (by decide +kernel)⟩
theorem lw_p14 : lw_okq (⟨"InstrumentFiles$Judge", "push", "(LInstrumentFiles$Method;I)I"⟩, 3) := ⟨⟨by decide +kernel, by decide +kernel⟩, List.mem_of_getElem? (i := 171) (by decide +kernel), List.mem_of_getElem? (i := 498) (by decide +kernel), List.mem_of_getElem? (i := 499) (by decide +kernel)⟩
theorem lw_p15 : lw_okq (⟨"InstrumentFiles$Judge", "judgeStack", "(LInstrumentFiles$Method;II)I"⟩, 3) := ⟨⟨by decide +kernel, by decide +kernel⟩, List.mem_of_getElem? (i := 171) (by decide +kernel), List.mem_of_getElem? (i := 503) (by decide +kernel), List.mem_of_getElem? (i := 504) (by decide +kernel)⟩
def lw_privs_1 : List (MethodName × Nat) := [(⟨"InstrumentFiles$Reader", "take", "(LInstrumentFiles$Tape;III)I"⟩, 2), (⟨"InstrumentFiles$Reader", "readPool", "(LInstrumentFiles$Tape;LInstrumentFiles$Pool;)V"⟩, 2), (⟨"InstrumentFiles$Reader", "takeMany", "(LInstrumentFiles$Tape;III)J"⟩, 2), (⟨"InstrumentFiles$Reader", "readMethods", "(LInstrumentFiles$Tape;LInstrumentFiles$Program;)V"⟩, 2), (⟨"InstrumentFiles$Reader", "takeName", "(LInstrumentFiles$Tape;LInstrumentFiles$Program;)I"⟩, 2), (⟨"InstrumentFiles$Reader", "readHead", "(LInstrumentFiles$Tape;LInstrumentFiles$Method;)V"⟩, 2), (⟨"InstrumentFiles$Reader", "readCode", "(LInstrumentFiles$Tape;LInstrumentFiles$Method;)V"⟩, 2), (⟨"InstrumentFiles$Reader", "readMaps", "(LInstrumentFiles$Tape;LInstrumentFiles$Method;)V"⟩, 2), (⟨"InstrumentFiles$Reader", "takeMapKinds", "(LInstrumentFiles$Tape;LInstrumentFiles$Method;)I"⟩, 2), (⟨"InstrumentFiles$Judge", "judgeOp", "(LInstrumentFiles$Program;LInstrumentFiles$Method;)I"⟩, 3), (⟨"InstrumentFiles$Judge", "meetsMap", "(LInstrumentFiles$Method;)Z"⟩, 3), (⟨"InstrumentFiles$Judge", "hasEntry", "(LInstrumentFiles$Program;LInstrumentFiles$Method;II)Z"⟩, 3), (⟨"InstrumentFiles$Judge", "judgeCall", "(LInstrumentFiles$Method;LInstrumentFiles$Method;)I"⟩, 3), (⟨"InstrumentFiles$Judge", "popped", "()I"⟩, 3), (⟨"InstrumentFiles$Judge", "push", "(LInstrumentFiles$Method;I)I"⟩, 3), (⟨"InstrumentFiles$Judge", "judgeStack", "(LInstrumentFiles$Method;II)I"⟩, 3)]
theorem lw_r1 : ∀ q ∈ lw_privs_1, lw_okq q := List.forall_mem_cons.mpr ⟨lw_p0, List.forall_mem_cons.mpr ⟨lw_p1, List.forall_mem_cons.mpr ⟨lw_p2, List.forall_mem_cons.mpr ⟨lw_p3, List.forall_mem_cons.mpr ⟨lw_p4, List.forall_mem_cons.mpr ⟨lw_p5, List.forall_mem_cons.mpr ⟨lw_p6, List.forall_mem_cons.mpr ⟨lw_p7, List.forall_mem_cons.mpr ⟨lw_p8, List.forall_mem_cons.mpr ⟨lw_p9, List.forall_mem_cons.mpr ⟨lw_p10, List.forall_mem_cons.mpr ⟨lw_p11, List.forall_mem_cons.mpr ⟨lw_p12, List.forall_mem_cons.mpr ⟨lw_p13, List.forall_mem_cons.mpr ⟨lw_p14, List.forall_mem_cons.mpr ⟨lw_p15, fun _ h => absurd h List.not_mem_nil⟩⟩⟩⟩⟩⟩⟩⟩⟩⟩⟩⟩⟩⟩⟩⟩
theorem lw_p16 : lw_okq (⟨"InstrumentFiles$Judge", "reaches", "(LInstrumentFiles$Method;I)Z"⟩, 3) := ⟨⟨by decide +kernel, by decide +kernel⟩, List.mem_of_getElem? (i := 171) (by decide +kernel), List.mem_of_getElem? (i := 527) (by decide +kernel), List.mem_of_getElem? (i := 528) (by decide +kernel)⟩
theorem lw_p17 : lw_okq (⟨"InstrumentFiles$Judge", "judgeMapPlaces", "(LInstrumentFiles$Method;)I"⟩, 3) := ⟨⟨by decide +kernel, by decide +kernel⟩, List.mem_of_getElem? (i := 171) (by decide +kernel), List.mem_of_getElem? (i := 532) (by decide +kernel), List.mem_of_getElem? (i := 533) (by decide +kernel)⟩
theorem lw_p18 : lw_okq (⟨"InstrumentFiles$Machine", "enter", "(I)V"⟩, 15) := ⟨⟨by decide +kernel, by decide +kernel⟩, List.mem_of_getElem? (i := 188) (by decide +kernel), List.mem_of_getElem? (i := 599) (by decide +kernel), List.mem_of_getElem? (i := 600) (by decide +kernel)⟩
theorem lw_p19 : lw_okq (⟨"InstrumentFiles$Machine", "setLocal", "(IJ)V"⟩, 15) := ⟨⟨by decide +kernel, by decide +kernel⟩, List.mem_of_getElem? (i := 188) (by decide +kernel), List.mem_of_getElem? (i := 612) (by decide +kernel), List.mem_of_getElem? (i := 613) (by decide +kernel)⟩
theorem lw_p20 : lw_okq (⟨"InstrumentFiles$Machine", "runOp", "(LInstrumentFiles$Program;)V"⟩, 15) := ⟨⟨by decide +kernel, by decide +kernel⟩, List.mem_of_getElem? (i := 188) (by decide +kernel), List.mem_of_getElem? (i := 620) (by decide +kernel), List.mem_of_getElem? (i := 621) (by decide +kernel)⟩
theorem lw_p21 : lw_okq (⟨"InstrumentFiles$Machine", "openMethod", "(LInstrumentFiles$Program;)LInstrumentFiles$Method;"⟩, 15) := ⟨⟨by decide +kernel, by decide +kernel⟩, List.mem_of_getElem? (i := 188) (by decide +kernel), List.mem_of_getElem? (i := 624) (by decide +kernel), List.mem_of_getElem? (i := 625) (by decide +kernel)⟩
theorem lw_p22 : lw_okq (⟨"InstrumentFiles$Machine", "nextPlace", "()I"⟩, 15) := ⟨⟨by decide +kernel, by decide +kernel⟩, List.mem_of_getElem? (i := 188) (by decide +kernel), List.mem_of_getElem? (i := 629) (by decide +kernel), List.mem_of_getElem? (i := 630) (by decide +kernel)⟩
theorem lw_p23 : lw_okq (⟨"InstrumentFiles$Machine", "goTo", "(I)V"⟩, 15) := ⟨⟨by decide +kernel, by decide +kernel⟩, List.mem_of_getElem? (i := 188) (by decide +kernel), List.mem_of_getElem? (i := 635) (by decide +kernel), List.mem_of_getElem? (i := 636) (by decide +kernel)⟩
theorem lw_p24 : lw_okq (⟨"InstrumentFiles$Machine", "runMove", "(LInstrumentFiles$Pool;II)V"⟩, 15) := ⟨⟨by decide +kernel, by decide +kernel⟩, List.mem_of_getElem? (i := 188) (by decide +kernel), List.mem_of_getElem? (i := 639) (by decide +kernel), List.mem_of_getElem? (i := 640) (by decide +kernel)⟩
theorem lw_p25 : lw_okq (⟨"InstrumentFiles$Machine", "push", "(J)V"⟩, 15) := ⟨⟨by decide +kernel, by decide +kernel⟩, List.mem_of_getElem? (i := 188) (by decide +kernel), List.mem_of_getElem? (i := 644) (by decide +kernel), List.mem_of_getElem? (i := 645) (by decide +kernel)⟩
theorem lw_p26 : lw_okq (⟨"InstrumentFiles$Machine", "local", "(I)J"⟩, 15) := ⟨⟨by decide +kernel, by decide +kernel⟩, List.mem_of_getElem? (i := 188) (by decide +kernel), List.mem_of_getElem? (i := 648) (by decide +kernel), List.mem_of_getElem? (i := 649) (by decide +kernel)⟩
theorem lw_p27 : lw_okq (⟨"InstrumentFiles$Machine", "pop", "()J"⟩, 15) := ⟨⟨by decide +kernel, by decide +kernel⟩, List.mem_of_getElem? (i := 188) (by decide +kernel), List.mem_of_getElem? (i := 652) (by decide +kernel), List.mem_of_getElem? (i := 653) (by decide +kernel)⟩
theorem lw_p28 : lw_okq (⟨"InstrumentFiles$Machine", "runInts", "(I)V"⟩, 15) := ⟨⟨by decide +kernel, by decide +kernel⟩, List.mem_of_getElem? (i := 188) (by decide +kernel), List.mem_of_getElem? (i := 656) (by decide +kernel), List.mem_of_getElem? (i := 657) (by decide +kernel)⟩
theorem lw_p29 : lw_okq (⟨"InstrumentFiles$Machine", "fail", "(I)V"⟩, 15) := ⟨⟨by decide +kernel, by decide +kernel⟩, List.mem_of_getElem? (i := 188) (by decide +kernel), List.mem_of_getElem? (i := 660) (by decide +kernel), List.mem_of_getElem? (i := 661) (by decide +kernel)⟩
theorem lw_p30 : lw_okq (⟨"InstrumentFiles$Machine", "runDoubles", "(I)V"⟩, 15) := ⟨⟨by decide +kernel, by decide +kernel⟩, List.mem_of_getElem? (i := 188) (by decide +kernel), List.mem_of_getElem? (i := 664) (by decide +kernel), List.mem_of_getElem? (i := 665) (by decide +kernel)⟩
theorem lw_p31 : lw_okq (⟨"InstrumentFiles$Machine", "runChange", "(I)V"⟩, 15) := ⟨⟨by decide +kernel, by decide +kernel⟩, List.mem_of_getElem? (i := 188) (by decide +kernel), List.mem_of_getElem? (i := 715) (by decide +kernel), List.mem_of_getElem? (i := 716) (by decide +kernel)⟩
def lw_privs_2 : List (MethodName × Nat) := [(⟨"InstrumentFiles$Judge", "reaches", "(LInstrumentFiles$Method;I)Z"⟩, 3), (⟨"InstrumentFiles$Judge", "judgeMapPlaces", "(LInstrumentFiles$Method;)I"⟩, 3), (⟨"InstrumentFiles$Machine", "enter", "(I)V"⟩, 15), (⟨"InstrumentFiles$Machine", "setLocal", "(IJ)V"⟩, 15), (⟨"InstrumentFiles$Machine", "runOp", "(LInstrumentFiles$Program;)V"⟩, 15), (⟨"InstrumentFiles$Machine", "openMethod", "(LInstrumentFiles$Program;)LInstrumentFiles$Method;"⟩, 15), (⟨"InstrumentFiles$Machine", "nextPlace", "()I"⟩, 15), (⟨"InstrumentFiles$Machine", "goTo", "(I)V"⟩, 15), (⟨"InstrumentFiles$Machine", "runMove", "(LInstrumentFiles$Pool;II)V"⟩, 15), (⟨"InstrumentFiles$Machine", "push", "(J)V"⟩, 15), (⟨"InstrumentFiles$Machine", "local", "(I)J"⟩, 15), (⟨"InstrumentFiles$Machine", "pop", "()J"⟩, 15), (⟨"InstrumentFiles$Machine", "runInts", "(I)V"⟩, 15), (⟨"InstrumentFiles$Machine", "fail", "(I)V"⟩, 15), (⟨"InstrumentFiles$Machine", "runDoubles", "(I)V"⟩, 15), (⟨"InstrumentFiles$Machine", "runChange", "(I)V"⟩, 15)]
theorem lw_r2 : ∀ q ∈ lw_privs_2, lw_okq q := List.forall_mem_cons.mpr ⟨lw_p16, List.forall_mem_cons.mpr ⟨lw_p17, List.forall_mem_cons.mpr ⟨lw_p18, List.forall_mem_cons.mpr ⟨lw_p19, List.forall_mem_cons.mpr ⟨lw_p20, List.forall_mem_cons.mpr ⟨lw_p21, List.forall_mem_cons.mpr ⟨lw_p22, List.forall_mem_cons.mpr ⟨lw_p23, List.forall_mem_cons.mpr ⟨lw_p24, List.forall_mem_cons.mpr ⟨lw_p25, List.forall_mem_cons.mpr ⟨lw_p26, List.forall_mem_cons.mpr ⟨lw_p27, List.forall_mem_cons.mpr ⟨lw_p28, List.forall_mem_cons.mpr ⟨lw_p29, List.forall_mem_cons.mpr ⟨lw_p30, List.forall_mem_cons.mpr ⟨lw_p31, fun _ h => absurd h List.not_mem_nil⟩⟩⟩⟩⟩⟩⟩⟩⟩⟩⟩⟩⟩⟩⟩⟩
theorem lw_p32 : lw_okq (⟨"InstrumentFiles$Machine", "runListed", "(J)V"⟩, 15) := ⟨⟨by decide +kernel, by decide +kernel⟩, List.mem_of_getElem? (i := 188) (by decide +kernel), List.mem_of_getElem? (i := 733) (by decide +kernel), List.mem_of_getElem? (i := 734) (by decide +kernel)⟩
theorem lw_p33 : lw_okq (⟨"InstrumentFiles$Machine", "runRest", "(LInstrumentFiles$Program;II)V"⟩, 15) := ⟨⟨by decide +kernel, by decide +kernel⟩, List.mem_of_getElem? (i := 188) (by decide +kernel), List.mem_of_getElem? (i := 757) (by decide +kernel), List.mem_of_getElem? (i := 758) (by decide +kernel)⟩
theorem lw_p34 : lw_okq (⟨"InstrumentFiles$Machine", "callInside", "(LInstrumentFiles$Method;I)V"⟩, 15) := ⟨⟨by decide +kernel, by decide +kernel⟩, List.mem_of_getElem? (i := 188) (by decide +kernel), List.mem_of_getElem? (i := 761) (by decide +kernel), List.mem_of_getElem? (i := 762) (by decide +kernel)⟩
theorem lw_p35 : lw_okq (⟨"InstrumentFiles$Machine", "leave", "()V"⟩, 15) := ⟨⟨by decide +kernel, by decide +kernel⟩, List.mem_of_getElem? (i := 188) (by decide +kernel), List.mem_of_getElem? (i := 765) (by decide +kernel), List.mem_of_getElem? (i := 766) (by decide +kernel)⟩
theorem lw_p36 : lw_okq (⟨"InstrumentFiles$Machine", "pushFromTable", "(J)V"⟩, 15) := ⟨⟨by decide +kernel, by decide +kernel⟩, List.mem_of_getElem? (i := 188) (by decide +kernel), List.mem_of_getElem? (i := 769) (by decide +kernel), List.mem_of_getElem? (i := 770) (by decide +kernel)⟩
theorem lw_p37 : lw_okq (⟨"InstrumentFilesModel", "sumAhead", "(I)I"⟩, 49) := ⟨⟨by decide +kernel, by decide +kernel⟩, List.mem_of_getElem? (i := 786) (by decide +kernel), List.mem_of_getElem? (i := 965) (by decide +kernel), List.mem_of_getElem? (i := 966) (by decide +kernel)⟩
theorem lw_p38 : lw_okq (⟨"InstrumentFilesModel", "readFile", "()V"⟩, 49) := ⟨⟨by decide +kernel, by decide +kernel⟩, List.mem_of_getElem? (i := 786) (by decide +kernel), List.mem_of_getElem? (i := 973) (by decide +kernel), List.mem_of_getElem? (i := 974) (by decide +kernel)⟩
theorem lw_p39 : lw_okq (⟨"InstrumentFilesModel", "taken", "(III)I"⟩, 49) := ⟨⟨by decide +kernel, by decide +kernel⟩, List.mem_of_getElem? (i := 786) (by decide +kernel), List.mem_of_getElem? (i := 977) (by decide +kernel), List.mem_of_getElem? (i := 978) (by decide +kernel)⟩
theorem lw_p40 : lw_okq (⟨"InstrumentFilesModel", "take", "()I"⟩, 49) := ⟨⟨by decide +kernel, by decide +kernel⟩, List.mem_of_getElem? (i := 786) (by decide +kernel), List.mem_of_getElem? (i := 981) (by decide +kernel), List.mem_of_getElem? (i := 982) (by decide +kernel)⟩
theorem lw_p41 : lw_okq (⟨"InstrumentFilesModel", "faults", "(II)V"⟩, 49) := ⟨⟨by decide +kernel, by decide +kernel⟩, List.mem_of_getElem? (i := 786) (by decide +kernel), List.mem_of_getElem? (i := 985) (by decide +kernel), List.mem_of_getElem? (i := 986) (by decide +kernel)⟩
theorem lw_p42 : lw_okq (⟨"InstrumentFilesModel", "readPool", "()V"⟩, 49) := ⟨⟨by decide +kernel, by decide +kernel⟩, List.mem_of_getElem? (i := 786) (by decide +kernel), List.mem_of_getElem? (i := 989) (by decide +kernel), List.mem_of_getElem? (i := 990) (by decide +kernel)⟩
theorem lw_p43 : lw_okq (⟨"InstrumentFilesModel", "takeLong", "(I)J"⟩, 49) := ⟨⟨by decide +kernel, by decide +kernel⟩, List.mem_of_getElem? (i := 786) (by decide +kernel), List.mem_of_getElem? (i := 993) (by decide +kernel), List.mem_of_getElem? (i := 994) (by decide +kernel)⟩
theorem lw_p44 : lw_okq (⟨"InstrumentFilesModel", "readMethod", "(I)V"⟩, 49) := ⟨⟨by decide +kernel, by decide +kernel⟩, List.mem_of_getElem? (i := 786) (by decide +kernel), List.mem_of_getElem? (i := 997) (by decide +kernel), List.mem_of_getElem? (i := 998) (by decide +kernel)⟩
theorem lw_p45 : lw_okq (⟨"InstrumentFilesModel", "readName", "(I)V"⟩, 49) := ⟨⟨by decide +kernel, by decide +kernel⟩, List.mem_of_getElem? (i := 786) (by decide +kernel), List.mem_of_getElem? (i := 1001) (by decide +kernel), List.mem_of_getElem? (i := 1002) (by decide +kernel)⟩
theorem lw_p46 : lw_okq (⟨"InstrumentFilesModel", "isSameWord", "(II)Z"⟩, 49) := ⟨⟨by decide +kernel, by decide +kernel⟩, List.mem_of_getElem? (i := 786) (by decide +kernel), List.mem_of_getElem? (i := 1005) (by decide +kernel), List.mem_of_getElem? (i := 1006) (by decide +kernel)⟩
theorem lw_p47 : lw_okq (⟨"InstrumentFilesModel", "readMap", "(II)V"⟩, 49) := ⟨⟨by decide +kernel, by decide +kernel⟩, List.mem_of_getElem? (i := 786) (by decide +kernel), List.mem_of_getElem? (i := 1009) (by decide +kernel), List.mem_of_getElem? (i := 1010) (by decide +kernel)⟩
def lw_privs_3 : List (MethodName × Nat) := [(⟨"InstrumentFiles$Machine", "runListed", "(J)V"⟩, 15), (⟨"InstrumentFiles$Machine", "runRest", "(LInstrumentFiles$Program;II)V"⟩, 15), (⟨"InstrumentFiles$Machine", "callInside", "(LInstrumentFiles$Method;I)V"⟩, 15), (⟨"InstrumentFiles$Machine", "leave", "()V"⟩, 15), (⟨"InstrumentFiles$Machine", "pushFromTable", "(J)V"⟩, 15), (⟨"InstrumentFilesModel", "sumAhead", "(I)I"⟩, 49), (⟨"InstrumentFilesModel", "readFile", "()V"⟩, 49), (⟨"InstrumentFilesModel", "taken", "(III)I"⟩, 49), (⟨"InstrumentFilesModel", "take", "()I"⟩, 49), (⟨"InstrumentFilesModel", "faults", "(II)V"⟩, 49), (⟨"InstrumentFilesModel", "readPool", "()V"⟩, 49), (⟨"InstrumentFilesModel", "takeLong", "(I)J"⟩, 49), (⟨"InstrumentFilesModel", "readMethod", "(I)V"⟩, 49), (⟨"InstrumentFilesModel", "readName", "(I)V"⟩, 49), (⟨"InstrumentFilesModel", "isSameWord", "(II)Z"⟩, 49), (⟨"InstrumentFilesModel", "readMap", "(II)V"⟩, 49)]
theorem lw_r3 : ∀ q ∈ lw_privs_3, lw_okq q := List.forall_mem_cons.mpr ⟨lw_p32, List.forall_mem_cons.mpr ⟨lw_p33, List.forall_mem_cons.mpr ⟨lw_p34, List.forall_mem_cons.mpr ⟨lw_p35, List.forall_mem_cons.mpr ⟨lw_p36, List.forall_mem_cons.mpr ⟨lw_p37, List.forall_mem_cons.mpr ⟨lw_p38, List.forall_mem_cons.mpr ⟨lw_p39, List.forall_mem_cons.mpr ⟨lw_p40, List.forall_mem_cons.mpr ⟨lw_p41, List.forall_mem_cons.mpr ⟨lw_p42, List.forall_mem_cons.mpr ⟨lw_p43, List.forall_mem_cons.mpr ⟨lw_p44, List.forall_mem_cons.mpr ⟨lw_p45, List.forall_mem_cons.mpr ⟨lw_p46, List.forall_mem_cons.mpr ⟨lw_p47, fun _ h => absurd h List.not_mem_nil⟩⟩⟩⟩⟩⟩⟩⟩⟩⟩⟩⟩⟩⟩⟩⟩
theorem lw_p48 : lw_okq (⟨"InstrumentFilesModel", "judge", "(I)V"⟩, 49) := ⟨⟨by decide +kernel, by decide +kernel⟩, List.mem_of_getElem? (i := 786) (by decide +kernel), List.mem_of_getElem? (i := 1013) (by decide +kernel), List.mem_of_getElem? (i := 1014) (by decide +kernel)⟩
theorem lw_p49 : lw_okq (⟨"InstrumentFilesModel", "judgeOp", "(III)V"⟩, 49) := ⟨⟨by decide +kernel, by decide +kernel⟩, List.mem_of_getElem? (i := 786) (by decide +kernel), List.mem_of_getElem? (i := 1017) (by decide +kernel), List.mem_of_getElem? (i := 1018) (by decide +kernel)⟩
theorem lw_p50 : lw_okq (⟨"InstrumentFilesModel", "mapAt", "(II)I"⟩, 49) := ⟨⟨by decide +kernel, by decide +kernel⟩, List.mem_of_getElem? (i := 786) (by decide +kernel), List.mem_of_getElem? (i := 1021) (by decide +kernel), List.mem_of_getElem? (i := 1022) (by decide +kernel)⟩
theorem lw_p51 : lw_okq (⟨"InstrumentFilesModel", "fits", "(II)Z"⟩, 49) := ⟨⟨by decide +kernel, by decide +kernel⟩, List.mem_of_getElem? (i := 786) (by decide +kernel), List.mem_of_getElem? (i := 1025) (by decide +kernel), List.mem_of_getElem? (i := 1026) (by decide +kernel)⟩
theorem lw_p52 : lw_okq (⟨"InstrumentFilesModel", "becomes", "(II)V"⟩, 49) := ⟨⟨by decide +kernel, by decide +kernel⟩, List.mem_of_getElem? (i := 786) (by decide +kernel), List.mem_of_getElem? (i := 1029) (by decide +kernel), List.mem_of_getElem? (i := 1030) (by decide +kernel)⟩
theorem lw_p53 : lw_okq (⟨"InstrumentFilesModel", "isEntry", "(III)Z"⟩, 49) := ⟨⟨by decide +kernel, by decide +kernel⟩, List.mem_of_getElem? (i := 786) (by decide +kernel), List.mem_of_getElem? (i := 1036) (by decide +kernel), List.mem_of_getElem? (i := 1037) (by decide +kernel)⟩
theorem lw_p54 : lw_okq (⟨"InstrumentFilesModel", "isListed", "(I)Z"⟩, 49) := ⟨⟨by decide +kernel, by decide +kernel⟩, List.mem_of_getElem? (i := 786) (by decide +kernel), List.mem_of_getElem? (i := 1040) (by decide +kernel), List.mem_of_getElem? (i := 1041) (by decide +kernel)⟩
theorem lw_p55 : lw_okq (⟨"InstrumentFilesModel", "isWord", "(IIIIII)Z"⟩, 49) := ⟨⟨by decide +kernel, by decide +kernel⟩, List.mem_of_getElem? (i := 786) (by decide +kernel), List.mem_of_getElem? (i := 1044) (by decide +kernel), List.mem_of_getElem? (i := 1045) (by decide +kernel)⟩
theorem lw_p56 : lw_okq (⟨"InstrumentFilesModel", "judgeKinds", "(IIII)V"⟩, 49) := ⟨⟨by decide +kernel, by decide +kernel⟩, List.mem_of_getElem? (i := 786) (by decide +kernel), List.mem_of_getElem? (i := 1048) (by decide +kernel), List.mem_of_getElem? (i := 1049) (by decide +kernel)⟩
theorem lw_p57 : lw_okq (⟨"InstrumentFilesModel", "pops", "(II)I"⟩, 49) := ⟨⟨by decide +kernel, by decide +kernel⟩, List.mem_of_getElem? (i := 786) (by decide +kernel), List.mem_of_getElem? (i := 1052) (by decide +kernel), List.mem_of_getElem? (i := 1053) (by decide +kernel)⟩
theorem lw_p58 : lw_okq (⟨"InstrumentFilesModel", "wants", "(IIII)I"⟩, 49) := ⟨⟨by decide +kernel, by decide +kernel⟩, List.mem_of_getElem? (i := 786) (by decide +kernel), List.mem_of_getElem? (i := 1056) (by decide +kernel), List.mem_of_getElem? (i := 1057) (by decide +kernel)⟩
theorem lw_p59 : lw_okq (⟨"InstrumentFilesModel", "pushes", "(III)I"⟩, 49) := ⟨⟨by decide +kernel, by decide +kernel⟩, List.mem_of_getElem? (i := 786) (by decide +kernel), List.mem_of_getElem? (i := 1060) (by decide +kernel), List.mem_of_getElem? (i := 1061) (by decide +kernel)⟩
theorem lw_p60 : lw_okq (⟨"InstrumentFilesModel", "isMethod", "(I)Z"⟩, 49) := ⟨⟨by decide +kernel, by decide +kernel⟩, List.mem_of_getElem? (i := 786) (by decide +kernel), List.mem_of_getElem? (i := 1085) (by decide +kernel), List.mem_of_getElem? (i := 1086) (by decide +kernel)⟩
theorem lw_p61 : lw_okq (⟨"InstrumentFilesModel", "enter", "(I)V"⟩, 49) := ⟨⟨by decide +kernel, by decide +kernel⟩, List.mem_of_getElem? (i := 786) (by decide +kernel), List.mem_of_getElem? (i := 1113) (by decide +kernel), List.mem_of_getElem? (i := 1114) (by decide +kernel)⟩
theorem lw_p62 : lw_okq (⟨"InstrumentFilesModel", "give", "(IIJ)V"⟩, 49) := ⟨⟨by decide +kernel, by decide +kernel⟩, List.mem_of_getElem? (i := 786) (by decide +kernel), List.mem_of_getElem? (i := 1117) (by decide +kernel), List.mem_of_getElem? (i := 1118) (by decide +kernel)⟩
theorem lw_p63 : lw_okq (⟨"InstrumentFilesModel", "fails", "(I)V"⟩, 49) := ⟨⟨by decide +kernel, by decide +kernel⟩, List.mem_of_getElem? (i := 786) (by decide +kernel), List.mem_of_getElem? (i := 1121) (by decide +kernel), List.mem_of_getElem? (i := 1122) (by decide +kernel)⟩
def lw_privs_4 : List (MethodName × Nat) := [(⟨"InstrumentFilesModel", "judge", "(I)V"⟩, 49), (⟨"InstrumentFilesModel", "judgeOp", "(III)V"⟩, 49), (⟨"InstrumentFilesModel", "mapAt", "(II)I"⟩, 49), (⟨"InstrumentFilesModel", "fits", "(II)Z"⟩, 49), (⟨"InstrumentFilesModel", "becomes", "(II)V"⟩, 49), (⟨"InstrumentFilesModel", "isEntry", "(III)Z"⟩, 49), (⟨"InstrumentFilesModel", "isListed", "(I)Z"⟩, 49), (⟨"InstrumentFilesModel", "isWord", "(IIIIII)Z"⟩, 49), (⟨"InstrumentFilesModel", "judgeKinds", "(IIII)V"⟩, 49), (⟨"InstrumentFilesModel", "pops", "(II)I"⟩, 49), (⟨"InstrumentFilesModel", "wants", "(IIII)I"⟩, 49), (⟨"InstrumentFilesModel", "pushes", "(III)I"⟩, 49), (⟨"InstrumentFilesModel", "isMethod", "(I)Z"⟩, 49), (⟨"InstrumentFilesModel", "enter", "(I)V"⟩, 49), (⟨"InstrumentFilesModel", "give", "(IIJ)V"⟩, 49), (⟨"InstrumentFilesModel", "fails", "(I)V"⟩, 49)]
theorem lw_r4 : ∀ q ∈ lw_privs_4, lw_okq q := List.forall_mem_cons.mpr ⟨lw_p48, List.forall_mem_cons.mpr ⟨lw_p49, List.forall_mem_cons.mpr ⟨lw_p50, List.forall_mem_cons.mpr ⟨lw_p51, List.forall_mem_cons.mpr ⟨lw_p52, List.forall_mem_cons.mpr ⟨lw_p53, List.forall_mem_cons.mpr ⟨lw_p54, List.forall_mem_cons.mpr ⟨lw_p55, List.forall_mem_cons.mpr ⟨lw_p56, List.forall_mem_cons.mpr ⟨lw_p57, List.forall_mem_cons.mpr ⟨lw_p58, List.forall_mem_cons.mpr ⟨lw_p59, List.forall_mem_cons.mpr ⟨lw_p60, List.forall_mem_cons.mpr ⟨lw_p61, List.forall_mem_cons.mpr ⟨lw_p62, List.forall_mem_cons.mpr ⟨lw_p63, fun _ h => absurd h List.not_mem_nil⟩⟩⟩⟩⟩⟩⟩⟩⟩⟩⟩⟩⟩⟩⟩⟩
theorem lw_p64 : lw_okq (⟨"InstrumentFilesModel", "step", "()V"⟩, 49) := ⟨⟨by decide +kernel, by decide +kernel⟩, List.mem_of_getElem? (i := 786) (by decide +kernel), List.mem_of_getElem? (i := 1125) (by decide +kernel), List.mem_of_getElem? (i := 1126) (by decide +kernel)⟩
theorem lw_p65 : lw_okq (⟨"InstrumentFilesModel", "calls", "(II)V"⟩, 49) := ⟨⟨by decide +kernel, by decide +kernel⟩, List.mem_of_getElem? (i := 786) (by decide +kernel), List.mem_of_getElem? (i := 1129) (by decide +kernel), List.mem_of_getElem? (i := 1130) (by decide +kernel)⟩
theorem lw_p66 : lw_okq (⟨"InstrumentFilesModel", "gives", "(II)V"⟩, 49) := ⟨⟨by decide +kernel, by decide +kernel⟩, List.mem_of_getElem? (i := 786) (by decide +kernel), List.mem_of_getElem? (i := 1133) (by decide +kernel), List.mem_of_getElem? (i := 1134) (by decide +kernel)⟩
theorem lw_p67 : lw_okq (⟨"InstrumentFilesModel", "pop", "()I"⟩, 49) := ⟨⟨by decide +kernel, by decide +kernel⟩, List.mem_of_getElem? (i := 786) (by decide +kernel), List.mem_of_getElem? (i := 1137) (by decide +kernel), List.mem_of_getElem? (i := 1138) (by decide +kernel)⟩
theorem lw_p68 : lw_okq (⟨"InstrumentFilesModel", "push", "(ID)V"⟩, 49) := ⟨⟨by decide +kernel, by decide +kernel⟩, List.mem_of_getElem? (i := 786) (by decide +kernel), List.mem_of_getElem? (i := 1141) (by decide +kernel), List.mem_of_getElem? (i := 1142) (by decide +kernel)⟩
theorem lw_p69 : lw_okq (⟨"InstrumentFilesModel", "moves", "(III)V"⟩, 49) := ⟨⟨by decide +kernel, by decide +kernel⟩, List.mem_of_getElem? (i := 786) (by decide +kernel), List.mem_of_getElem? (i := 1145) (by decide +kernel), List.mem_of_getElem? (i := 1146) (by decide +kernel)⟩
theorem lw_p70 : lw_okq (⟨"InstrumentFilesModel", "joinsInts", "(I)V"⟩, 49) := ⟨⟨by decide +kernel, by decide +kernel⟩, List.mem_of_getElem? (i := 786) (by decide +kernel), List.mem_of_getElem? (i := 1149) (by decide +kernel), List.mem_of_getElem? (i := 1150) (by decide +kernel)⟩
theorem lw_p71 : lw_okq (⟨"InstrumentFilesModel", "joinsDoubles", "(I)V"⟩, 49) := ⟨⟨by decide +kernel, by decide +kernel⟩, List.mem_of_getElem? (i := 786) (by decide +kernel), List.mem_of_getElem? (i := 1153) (by decide +kernel), List.mem_of_getElem? (i := 1154) (by decide +kernel)⟩
theorem lw_p72 : lw_okq (⟨"InstrumentFilesModel", "turns", "(II)V"⟩, 49) := ⟨⟨by decide +kernel, by decide +kernel⟩, List.mem_of_getElem? (i := 786) (by decide +kernel), List.mem_of_getElem? (i := 1174) (by decide +kernel), List.mem_of_getElem? (i := 1175) (by decide +kernel)⟩
theorem lw_p73 : lw_okq (⟨"InstrumentFilesModel", "listed", "(ID)D"⟩, 49) := ⟨⟨by decide +kernel, by decide +kernel⟩, List.mem_of_getElem? (i := 786) (by decide +kernel), List.mem_of_getElem? (i := 1178) (by decide +kernel), List.mem_of_getElem? (i := 1179) (by decide +kernel)⟩
def lw_privs_5 : List (MethodName × Nat) := [(⟨"InstrumentFilesModel", "step", "()V"⟩, 49), (⟨"InstrumentFilesModel", "calls", "(II)V"⟩, 49), (⟨"InstrumentFilesModel", "gives", "(II)V"⟩, 49), (⟨"InstrumentFilesModel", "pop", "()I"⟩, 49), (⟨"InstrumentFilesModel", "push", "(ID)V"⟩, 49), (⟨"InstrumentFilesModel", "moves", "(III)V"⟩, 49), (⟨"InstrumentFilesModel", "joinsInts", "(I)V"⟩, 49), (⟨"InstrumentFilesModel", "joinsDoubles", "(I)V"⟩, 49), (⟨"InstrumentFilesModel", "turns", "(II)V"⟩, 49), (⟨"InstrumentFilesModel", "listed", "(ID)D"⟩, 49)]
theorem lw_r5 : ∀ q ∈ lw_privs_5, lw_okq q := List.forall_mem_cons.mpr ⟨lw_p64, List.forall_mem_cons.mpr ⟨lw_p65, List.forall_mem_cons.mpr ⟨lw_p66, List.forall_mem_cons.mpr ⟨lw_p67, List.forall_mem_cons.mpr ⟨lw_p68, List.forall_mem_cons.mpr ⟨lw_p69, List.forall_mem_cons.mpr ⟨lw_p70, List.forall_mem_cons.mpr ⟨lw_p71, List.forall_mem_cons.mpr ⟨lw_p72, List.forall_mem_cons.mpr ⟨lw_p73, fun _ h => absurd h List.not_mem_nil⟩⟩⟩⟩⟩⟩⟩⟩⟩⟩
def lw_privs : List (MethodName × Nat) := lw_privs_1 ++ (lw_privs_2 ++ (lw_privs_3 ++ (lw_privs_4 ++ (lw_privs_5))))
def lw_tbl : List Cond := k2_sels lw_privs ++ tables_1
theorem lw_privs_ok : ∀ q ∈ lw_privs, lw_okq q := by
  show ∀ q ∈ lw_privs_1 ++ (lw_privs_2 ++ (lw_privs_3 ++ (lw_privs_4 ++ (lw_privs_5)))), lw_okq q
  exact List.forall_mem_append.mpr ⟨lw_r1, List.forall_mem_append.mpr ⟨lw_r2, List.forall_mem_append.mpr ⟨lw_r3, List.forall_mem_append.mpr ⟨lw_r4, lw_r5⟩⟩⟩⟩
/-- the streams that the claim lets the run draw from -/
abbrev lw_cs : List Choice := [Jvm.Choice.named "NaN.bits", Jvm.Choice.named "NaN.copy"]
theorem lw_bits : nanBits ∈ lw_cs := by first | decide | exact List.mem_cons_self | simp [lw_cs, nanBits]
end
section
/-! names and layout: classes, their fields in the order of the slots, arrays by kind -/
def TF0 : u_T := fun k => match k with
  | 0 => ("InstrumentFiles", "tape", "LInstrumentFiles$Tape;", true)
  | 1 => ("InstrumentFiles", "program", "LInstrumentFiles$Program;", true)
  | 2 => ("InstrumentFiles", "reader", "LInstrumentFiles$Reader;", true)
  | 3 => ("InstrumentFiles", "judge", "LInstrumentFiles$Judge;", true)
  | 4 => ("InstrumentFiles", "machine", "LInstrumentFiles$Machine;", true)
  | 5 => ("InstrumentFiles", "latestFault", "I", false)
  | _ => ("InstrumentFiles", "callsSinceRead", "I", false)
def tyF0 : Nat → FieldType := fun k => match k with
  | 0 => .object "InstrumentFiles$Tape"
  | 1 => .object "InstrumentFiles$Program"
  | 2 => .object "InstrumentFiles$Reader"
  | 3 => .object "InstrumentFiles$Judge"
  | 4 => .object "InstrumentFiles$Machine"
  | 5 => .int
  | _ => .int
def TF1 : u_T := fun k => match k with
  | 0 => ("InstrumentFiles$Tape", "bytes", "[I", true)
  | _ => ("InstrumentFiles$Tape", "length", "I", false)
def tyF1 : Nat → FieldType := fun k => match k with
  | 0 => .array .int
  | _ => .int
def TF2 : u_T := fun k => match k with
  | 0 => ("InstrumentFiles$Program", "pool", "LInstrumentFiles$Pool;", true)
  | 1 => ("InstrumentFiles$Program", "rows", "[LInstrumentFiles$Method;", true)
  | 2 => ("InstrumentFiles$Program", "version", "I", false)
  | _ => ("InstrumentFiles$Program", "methods", "I", false)
def tyF2 : Nat → FieldType := fun k => match k with
  | 0 => .object "InstrumentFiles$Pool"
  | 1 => .array (.object "InstrumentFiles$Method")
  | 2 => .int
  | _ => .int
def TF3 : u_T := fun k => match k with
  | 0 => ("InstrumentFiles$Pool", "tags", "[I", true)
  | 1 => ("InstrumentFiles$Pool", "sizes", "[I", true)
  | 2 => ("InstrumentFiles$Pool", "values", "[J", true)
  | _ => ("InstrumentFiles$Pool", "entries", "I", false)
def tyF3 : Nat → FieldType := fun k => match k with
  | 0 => .array .int
  | 1 => .array .int
  | 2 => .array .long
  | _ => .int
def TF4 : u_T := fun k => match k with
  | 0 => ("InstrumentFiles$Method", "name", "I", false)
  | 1 => ("InstrumentFiles$Method", "takes", "I", false)
  | 2 => ("InstrumentFiles$Method", "gives", "I", false)
  | 3 => ("InstrumentFiles$Method", "locals", "I", false)
  | 4 => ("InstrumentFiles$Method", "stack", "I", false)
  | 5 => ("InstrumentFiles$Method", "length", "I", false)
  | 6 => ("InstrumentFiles$Method", "maps", "I", false)
  | 7 => ("InstrumentFiles$Method", "failed", "I", false)
  | 8 => ("InstrumentFiles$Method", "firstKinds", "I", false)
  | 9 => ("InstrumentFiles$Method", "code", "[I", true)
  | 10 => ("InstrumentFiles$Method", "mapPlaces", "[I", true)
  | 11 => ("InstrumentFiles$Method", "mapKinds", "[I", true)
  | _ => ("InstrumentFiles$Method", "judgedKinds", "[I", true)
def tyF4 : Nat → FieldType := fun k => match k with
  | 0 => .int
  | 1 => .int
  | 2 => .int
  | 3 => .int
  | 4 => .int
  | 5 => .int
  | 6 => .int
  | 7 => .int
  | 8 => .int
  | 9 => .array .int
  | 10 => .array .int
  | 11 => .array .int
  | _ => .array .int
def TF5 : u_T := fun k => match k with
  | 0 => ("InstrumentFiles$Reader", "place", "I", false)
  | _ => ("InstrumentFiles$Reader", "wrong", "I", false)
def tyF5 : Nat → FieldType := fun k => match k with
  | 0 => .int
  | _ => .int
def TF6 : u_T := fun k => match k with
  | 0 => ("InstrumentFiles$Judge", "place", "I", false)
  | 1 => ("InstrumentFiles$Judge", "kinds", "I", false)
  | _ => ("InstrumentFiles$Judge", "atHand", "Z", false)
def tyF6 : Nat → FieldType := fun k => match k with
  | 0 => .int
  | 1 => .int
  | _ => .boolean
def TF7 : u_T := fun k => match k with
  | 0 => ("InstrumentFiles$Machine", "table", "[J", true)
  | 1 => ("InstrumentFiles$Machine", "stack", "[J", true)
  | 2 => ("InstrumentFiles$Machine", "locals", "[J", true)
  | 3 => ("InstrumentFiles$Machine", "methods", "[I", true)
  | 4 => ("InstrumentFiles$Machine", "places", "[I", true)
  | 5 => ("InstrumentFiles$Machine", "bases", "[I", true)
  | 6 => ("InstrumentFiles$Machine", "depth", "I", false)
  | 7 => ("InstrumentFiles$Machine", "top", "I", false)
  | 8 => ("InstrumentFiles$Machine", "opPlace", "I", false)
  | 9 => ("InstrumentFiles$Machine", "failure", "I", false)
  | 10 => ("InstrumentFiles$Machine", "steps", "I", false)
  | 11 => ("InstrumentFiles$Machine", "outermost", "I", false)
  | 12 => ("InstrumentFiles$Machine", "failedPlace", "I", false)
  | 13 => ("InstrumentFiles$Machine", "deepest", "I", false)
  | _ => ("InstrumentFiles$Machine", "given", "J", false)
def tyF7 : Nat → FieldType := fun k => match k with
  | 0 => .array .long
  | 1 => .array .long
  | 2 => .array .long
  | 3 => .array .int
  | 4 => .array .int
  | 5 => .array .int
  | 6 => .int
  | 7 => .int
  | 8 => .int
  | 9 => .int
  | 10 => .int
  | 11 => .int
  | 12 => .int
  | 13 => .int
  | _ => .long
def TF8 : u_T := fun k => match k with
  | 0 => ("InstrumentFilesModel", "tape", "[I", true)
  | 1 => ("InstrumentFilesModel", "size", "I", false)
  | 2 => ("InstrumentFilesModel", "table", "[D", true)
  | 3 => ("InstrumentFilesModel", "version", "I", false)
  | 4 => ("InstrumentFilesModel", "entries", "I", false)
  | 5 => ("InstrumentFilesModel", "tags", "[I", true)
  | 6 => ("InstrumentFilesModel", "numbers", "[J", true)
  | 7 => ("InstrumentFilesModel", "words", "[I", true)
  | 8 => ("InstrumentFilesModel", "letters", "[I", true)
  | 9 => ("InstrumentFilesModel", "methods", "I", false)
  | 10 => ("InstrumentFilesModel", "names", "[I", true)
  | 11 => ("InstrumentFilesModel", "takes", "[I", true)
  | 12 => ("InstrumentFilesModel", "taken", "[I", true)
  | 13 => ("InstrumentFilesModel", "gives", "[I", true)
  | 14 => ("InstrumentFilesModel", "locals", "[I", true)
  | 15 => ("InstrumentFilesModel", "stacks", "[I", true)
  | 16 => ("InstrumentFilesModel", "lengths", "[I", true)
  | 17 => ("InstrumentFilesModel", "code", "[I", true)
  | 18 => ("InstrumentFilesModel", "maps", "[I", true)
  | 19 => ("InstrumentFilesModel", "mapPlaces", "[I", true)
  | 20 => ("InstrumentFilesModel", "mapLocals", "[I", true)
  | 21 => ("InstrumentFilesModel", "mapDeep", "[I", true)
  | 22 => ("InstrumentFilesModel", "mapStack", "[I", true)
  | 23 => ("InstrumentFilesModel", "begins", "[Z", true)
  | 24 => ("InstrumentFilesModel", "judgedDeep", "[I", true)
  | 25 => ("InstrumentFilesModel", "judgedStack", "[I", true)
  | 26 => ("InstrumentFilesModel", "judgedLocals", "[I", true)
  | 27 => ("InstrumentFilesModel", "fell", "[I", true)
  | 28 => ("InstrumentFilesModel", "fault", "I", false)
  | 29 => ("InstrumentFilesModel", "faultAt", "I", false)
  | 30 => ("InstrumentFilesModel", "calls", "I", false)
  | 31 => ("InstrumentFilesModel", "pos", "I", false)
  | 32 => ("InstrumentFilesModel", "atHand", "Z", false)
  | 33 => ("InstrumentFilesModel", "deep", "I", false)
  | 34 => ("InstrumentFilesModel", "stack", "[I", true)
  | 35 => ("InstrumentFilesModel", "local", "[I", true)
  | 36 => ("InstrumentFilesModel", "frames", "I", false)
  | 37 => ("InstrumentFilesModel", "frameMethod", "[I", true)
  | 38 => ("InstrumentFilesModel", "framePlace", "[I", true)
  | 39 => ("InstrumentFilesModel", "frameDeep", "[I", true)
  | 40 => ("InstrumentFilesModel", "ints", "[I", true)
  | 41 => ("InstrumentFilesModel", "doubles", "[D", true)
  | 42 => ("InstrumentFilesModel", "called", "Z", false)
  | 43 => ("InstrumentFilesModel", "result", "J", false)
  | 44 => ("InstrumentFilesModel", "failed", "I", false)
  | 45 => ("InstrumentFilesModel", "steps", "I", false)
  | 46 => ("InstrumentFilesModel", "outer", "I", false)
  | 47 => ("InstrumentFilesModel", "failedAt", "I", false)
  | _ => ("InstrumentFilesModel", "deepest", "I", false)
def tyF8 : Nat → FieldType := fun k => match k with
  | 0 => .array .int
  | 1 => .int
  | 2 => .array .double
  | 3 => .int
  | 4 => .int
  | 5 => .array .int
  | 6 => .array .long
  | 7 => .array .int
  | 8 => .array .int
  | 9 => .int
  | 10 => .array .int
  | 11 => .array .int
  | 12 => .array .int
  | 13 => .array .int
  | 14 => .array .int
  | 15 => .array .int
  | 16 => .array .int
  | 17 => .array .int
  | 18 => .array .int
  | 19 => .array .int
  | 20 => .array .int
  | 21 => .array .int
  | 22 => .array .int
  | 23 => .array .boolean
  | 24 => .array .int
  | 25 => .array .int
  | 26 => .array .int
  | 27 => .array .int
  | 28 => .int
  | 29 => .int
  | 30 => .int
  | 31 => .int
  | 32 => .boolean
  | 33 => .int
  | 34 => .array .int
  | 35 => .array .int
  | 36 => .int
  | 37 => .array .int
  | 38 => .array .int
  | 39 => .array .int
  | 40 => .array .int
  | 41 => .array .double
  | 42 => .boolean
  | 43 => .long
  | 44 => .int
  | 45 => .int
  | 46 => .int
  | 47 => .int
  | _ => .int
abbrev clsL : List vw_C := [("InstrumentFiles", TF0, 7), ("InstrumentFiles$Tape", TF1, 2), ("InstrumentFiles$Program", TF2, 4), ("InstrumentFiles$Pool", TF3, 4), ("InstrumentFiles$Method", TF4, 13), ("InstrumentFiles$Reader", TF5, 2), ("InstrumentFiles$Judge", TF6, 3), ("InstrumentFiles$Machine", TF7, 15), ("InstrumentFilesModel", TF8, 49)]
def tyFs : List (Nat → FieldType) := [tyF0, tyF1, tyF2, tyF3, tyF4, tyF5, tyF6, tyF7, tyF8]
/-- of a class and a slot: 0 int, 1 long, 2 a reference and to which kind, 3 boolean -/
def fTab : List (List (Nat × Nat)) := [[(2, 1), (2, 2), (2, 5), (2, 6), (2, 7), (0, 0), (0, 0)], [(2, 9), (0, 0)], [(2, 3), (2, 10), (0, 0), (0, 0)], [(2, 11), (2, 12), (2, 13), (0, 0)], [(0, 0), (0, 0), (0, 0), (0, 0), (0, 0), (0, 0), (0, 0), (0, 0), (0, 0), (2, 14), (2, 15), (2, 16), (2, 17)], [(0, 0), (0, 0)], [(0, 0), (0, 0), (3, 0)], [(2, 18), (2, 19), (2, 20), (2, 21), (2, 22), (2, 23), (0, 0), (0, 0), (0, 0), (0, 0), (0, 0), (0, 0), (0, 0), (0, 0), (1, 0)], [(2, 24), (0, 0), (2, 25), (0, 0), (0, 0), (2, 26), (2, 27), (2, 28), (2, 29), (0, 0), (2, 30), (2, 31), (2, 32), (2, 33), (2, 34), (2, 35), (2, 36), (2, 37), (2, 38), (2, 39), (2, 40), (2, 41), (2, 42), (2, 43), (2, 44), (2, 45), (2, 46), (2, 47), (0, 0), (0, 0), (0, 0), (0, 0), (3, 0), (0, 0), (2, 48), (2, 49), (0, 0), (2, 50), (2, 51), (2, 52), (2, 53), (2, 54), (3, 0), (1, 0), (0, 0), (0, 0), (0, 0), (0, 0), (0, 0)]]
def fTy (k s : Nat) : Nat × Nat := (fTab.getD k []).getD s (0, 0)
def nF (k : Nat) : Nat := (fTab.getD k []).length
/-- of an array kind, from 9 on: 0 int, 1 boolean, 2 long, 3 double, 4 Method; its length -/
def aTab : List (Nat × Nat) := [(0, 500), (4, 5), (0, 16), (0, 16), (2, 16), (0, 48), (0, 8), (0, 8), (0, 48), (2, 8), (2, 48), (2, 48), (0, 8), (0, 8), (0, 8), (0, 500), (3, 8), (0, 16), (2, 16), (0, 16), (0, 128), (0, 5), (0, 5), (0, 15), (0, 5), (0, 5), (0, 5), (0, 5), (0, 240), (0, 5), (0, 40), (0, 240), (0, 40), (0, 240), (1, 240), (0, 240), (0, 1440), (0, 1440), (0, 5), (0, 8), (0, 6), (0, 8), (0, 8), (0, 8), (0, 96), (3, 96)]
def aTy (k : Nat) : Nat × Nat := aTab.getD (k - 9) (0, 0)
def objs : List (Nat × Nat) := [(0, 0), (1, 0), (2, 0), (3, 0), (4, 0), (4, 1), (4, 2), (4, 3), (4, 4), (5, 0), (6, 0), (7, 0), (8, 0), (9, 0), (10, 0), (11, 0), (12, 0), (13, 0), (14, 0), (14, 1), (14, 2), (14, 3), (14, 4), (15, 0), (15, 1), (15, 2), (15, 3), (15, 4), (16, 0), (16, 1), (16, 2), (16, 3), (16, 4), (17, 0), (17, 1), (17, 2), (17, 3), (17, 4), (18, 0), (19, 0), (20, 0), (21, 0), (22, 0), (23, 0), (24, 0), (25, 0), (26, 0), (27, 0), (28, 0), (29, 0), (30, 0), (31, 0), (32, 0), (33, 0), (34, 0), (35, 0), (36, 0), (37, 0), (38, 0), (39, 0), (40, 0), (41, 0), (42, 0), (43, 0), (44, 0), (45, 0), (46, 0), (47, 0), (48, 0), (49, 0), (50, 0), (51, 0), (52, 0), (53, 0), (54, 0)]
def arrs : List (Nat × Nat) := objs.filter (fun o => decide (9 ≤ o.1))
theorem objs_nd : objs.Nodup := by decide +kernel
theorem objs_lt : ∀ o ∈ objs, o.1 < 55 := by decide +kernel
def lw_gd : List Cond := lw_tbl.filter goodWord
theorem gd_tbl {w : Cond} (h : w ∈ lw_gd) : w ∈ lw_tbl := (List.mem_filter.mp h).1
theorem gd_good {w : Cond} (h : w ∈ lw_gd) : (w.onTables && w.keeps) = true ∨ ∃ ty, w = .arrayClass ty := good_of_word (List.mem_filter.mp h).2
def isFN (w : Cond) : Bool := match w with
  | .fieldLinkNest .. => true
  | _ => false
def lw_ns : List Cond := lw_tbl.filter isFN
theorem cls_in : ∀ q ∈ clsL, ∀ w ∈ u_ws q.1 q.2.1 q.2.2, w ∈ lw_gd := by decide +kernel
theorem nmF0 : ∀ a, a < 7 → ∀ b, b < 7 → a ≠ b → (TF0 a).2.1 ≠ (TF0 b).2.1 := by decide +kernel
theorem tyF0_ok : ∀ k, k < 7 → parseFieldDescriptor (TF0 k).2.2.1 = some (tyF0 k) := by decide +kernel
theorem nmF1 : ∀ a, a < 2 → ∀ b, b < 2 → a ≠ b → (TF1 a).2.1 ≠ (TF1 b).2.1 := by decide +kernel
theorem tyF1_ok : ∀ k, k < 2 → parseFieldDescriptor (TF1 k).2.2.1 = some (tyF1 k) := by decide +kernel
theorem nmF2 : ∀ a, a < 4 → ∀ b, b < 4 → a ≠ b → (TF2 a).2.1 ≠ (TF2 b).2.1 := by decide +kernel
theorem tyF2_ok : ∀ k, k < 4 → parseFieldDescriptor (TF2 k).2.2.1 = some (tyF2 k) := by decide +kernel
theorem nmF3 : ∀ a, a < 4 → ∀ b, b < 4 → a ≠ b → (TF3 a).2.1 ≠ (TF3 b).2.1 := by decide +kernel
theorem tyF3_ok : ∀ k, k < 4 → parseFieldDescriptor (TF3 k).2.2.1 = some (tyF3 k) := by decide +kernel
theorem nmF4 : ∀ a, a < 13 → ∀ b, b < 13 → a ≠ b → (TF4 a).2.1 ≠ (TF4 b).2.1 := by decide +kernel
theorem tyF4_ok : ∀ k, k < 13 → parseFieldDescriptor (TF4 k).2.2.1 = some (tyF4 k) := by decide +kernel
theorem nmF5 : ∀ a, a < 2 → ∀ b, b < 2 → a ≠ b → (TF5 a).2.1 ≠ (TF5 b).2.1 := by decide +kernel
theorem tyF5_ok : ∀ k, k < 2 → parseFieldDescriptor (TF5 k).2.2.1 = some (tyF5 k) := by decide +kernel
theorem nmF6 : ∀ a, a < 3 → ∀ b, b < 3 → a ≠ b → (TF6 a).2.1 ≠ (TF6 b).2.1 := by decide +kernel
theorem tyF6_ok : ∀ k, k < 3 → parseFieldDescriptor (TF6 k).2.2.1 = some (tyF6 k) := by decide +kernel
theorem nmF7 : ∀ a, a < 15 → ∀ b, b < 15 → a ≠ b → (TF7 a).2.1 ≠ (TF7 b).2.1 := by decide +kernel
theorem tyF7_ok : ∀ k, k < 15 → parseFieldDescriptor (TF7 k).2.2.1 = some (tyF7 k) := by decide +kernel
theorem nmF8 : ∀ a, a < 49 → ∀ b, b < 49 → a ≠ b → (TF8 a).2.1 ≠ (TF8 b).2.1 := by decide +kernel
theorem tyF8_ok : ∀ k, k < 49 → parseFieldDescriptor (TF8 k).2.2.1 = some (tyF8 k) := by decide +kernel
theorem mem_1 {w : Cond} (i : Nat) (h : tables_1_1[i]? = some w) (hg : goodWord w = true) : w ∈ lw_gd := List.mem_filter.mpr ⟨List.mem_append_right _ (List.mem_append_left _ (List.mem_of_getElem? h)), hg⟩
theorem men_1 {w : Cond} (i : Nat) (h : tables_1_1[i]? = some w) (hg : isFN w = true) : w ∈ lw_ns := List.mem_filter.mpr ⟨List.mem_append_right _ (List.mem_append_left _ (List.mem_of_getElem? h)), hg⟩
theorem mem_2 {w : Cond} (i : Nat) (h : tables_1_2[i]? = some w) (hg : goodWord w = true) : w ∈ lw_gd := List.mem_filter.mpr ⟨List.mem_append_right _ (List.mem_append_right _ (List.mem_append_left _ (List.mem_of_getElem? h))), hg⟩
theorem men_2 {w : Cond} (i : Nat) (h : tables_1_2[i]? = some w) (hg : isFN w = true) : w ∈ lw_ns := List.mem_filter.mpr ⟨List.mem_append_right _ (List.mem_append_right _ (List.mem_append_left _ (List.mem_of_getElem? h))), hg⟩
theorem mem_3 {w : Cond} (i : Nat) (h : tables_1_3[i]? = some w) (hg : goodWord w = true) : w ∈ lw_gd := List.mem_filter.mpr ⟨List.mem_append_right _ (List.mem_append_right _ (List.mem_append_right _ (List.mem_append_left _ (List.mem_of_getElem? h)))), hg⟩
theorem men_3 {w : Cond} (i : Nat) (h : tables_1_3[i]? = some w) (hg : isFN w = true) : w ∈ lw_ns := List.mem_filter.mpr ⟨List.mem_append_right _ (List.mem_append_right _ (List.mem_append_right _ (List.mem_append_left _ (List.mem_of_getElem? h)))), hg⟩
theorem mem_4 {w : Cond} (i : Nat) (h : tables_1_4[i]? = some w) (hg : goodWord w = true) : w ∈ lw_gd := List.mem_filter.mpr ⟨List.mem_append_right _ (List.mem_append_right _ (List.mem_append_right _ (List.mem_append_right _ (List.mem_append_left _ (List.mem_of_getElem? h))))), hg⟩
theorem men_4 {w : Cond} (i : Nat) (h : tables_1_4[i]? = some w) (hg : isFN w = true) : w ∈ lw_ns := List.mem_filter.mpr ⟨List.mem_append_right _ (List.mem_append_right _ (List.mem_append_right _ (List.mem_append_right _ (List.mem_append_left _ (List.mem_of_getElem? h))))), hg⟩
theorem mem_5 {w : Cond} (i : Nat) (h : tables_1_5[i]? = some w) (hg : goodWord w = true) : w ∈ lw_gd := List.mem_filter.mpr ⟨List.mem_append_right _ (List.mem_append_right _ (List.mem_append_right _ (List.mem_append_right _ (List.mem_append_right _ (List.mem_append_left _ (List.mem_of_getElem? h)))))), hg⟩
theorem men_5 {w : Cond} (i : Nat) (h : tables_1_5[i]? = some w) (hg : isFN w = true) : w ∈ lw_ns := List.mem_filter.mpr ⟨List.mem_append_right _ (List.mem_append_right _ (List.mem_append_right _ (List.mem_append_right _ (List.mem_append_right _ (List.mem_append_left _ (List.mem_of_getElem? h)))))), hg⟩
theorem mem_6 {w : Cond} (i : Nat) (h : tables_1_6[i]? = some w) (hg : goodWord w = true) : w ∈ lw_gd := List.mem_filter.mpr ⟨List.mem_append_right _ (List.mem_append_right _ (List.mem_append_right _ (List.mem_append_right _ (List.mem_append_right _ (List.mem_append_right _ (List.mem_of_getElem? h)))))), hg⟩
theorem men_6 {w : Cond} (i : Nat) (h : tables_1_6[i]? = some w) (hg : isFN w = true) : w ∈ lw_ns := List.mem_filter.mpr ⟨List.mem_append_right _ (List.mem_append_right _ (List.mem_append_right _ (List.mem_append_right _ (List.mem_append_right _ (List.mem_append_right _ (List.mem_of_getElem? h)))))), hg⟩
theorem mem_p {w : Cond} (i : Nat) (h : (k2_sels lw_privs)[i]? = some w) (hg : goodWord w = true) : w ∈ lw_gd := List.mem_filter.mpr ⟨List.mem_append_left _ (List.mem_of_getElem? h), hg⟩
abbrev c_Dbl_canonical : ByteArray := prog_2_method_2_code
def y_Dbl_canonical : MethodName := ⟨"InstrumentFiles$Doubles", "canonical", "(J)J"⟩
abbrev c_Dbl_isNan : ByteArray := prog_2_method_3_code
def y_Dbl_isNan : MethodName := ⟨"InstrumentFiles$Doubles", "isNan", "(J)Z"⟩
abbrev c_Dbl_absolute : ByteArray := prog_2_method_4_code
def y_Dbl_absolute : MethodName := ⟨"InstrumentFiles$Doubles", "absolute", "(J)J"⟩
abbrev c_Dbl_negate : ByteArray := prog_2_method_5_code
def y_Dbl_negate : MethodName := ⟨"InstrumentFiles$Doubles", "negate", "(J)J"⟩
abbrev c_Dbl_scaleOf : ByteArray := prog_2_method_6_code
def y_Dbl_scaleOf : MethodName := ⟨"InstrumentFiles$Doubles", "scaleOf", "(J)I"⟩
abbrev c_Dbl_digitsOf : ByteArray := prog_2_method_7_code
def y_Dbl_digitsOf : MethodName := ⟨"InstrumentFiles$Doubles", "digitsOf", "(J)J"⟩
abbrev c_Dbl_add : ByteArray := prog_2_method_8_code
def y_Dbl_add : MethodName := ⟨"InstrumentFiles$Doubles", "add", "(JJ)J"⟩
abbrev c_Dbl_multiply : ByteArray := prog_2_method_9_code
def y_Dbl_multiply : MethodName := ⟨"InstrumentFiles$Doubles", "multiply", "(JJ)J"⟩
abbrev c_Dbl_productAbove49 : ByteArray := prog_2_method_10_code
def y_Dbl_productAbove49 : MethodName := ⟨"InstrumentFiles$Doubles", "productAbove49", "(JJ)J"⟩
abbrev c_Dbl_divide : ByteArray := prog_2_method_11_code
def y_Dbl_divide : MethodName := ⟨"InstrumentFiles$Doubles", "divide", "(JJ)J"⟩
abbrev c_Dbl_quotientWith60 : ByteArray := prog_2_method_12_code
def y_Dbl_quotientWith60 : MethodName := ⟨"InstrumentFiles$Doubles", "quotientWith60", "(JJ)J"⟩
abbrev c_Dbl_root : ByteArray := prog_2_method_13_code
def y_Dbl_root : MethodName := ⟨"InstrumentFiles$Doubles", "root", "(J)J"⟩
abbrev c_Dbl_rootWith29 : ByteArray := prog_2_method_14_code
def y_Dbl_rootWith29 : MethodName := ⟨"InstrumentFiles$Doubles", "rootWith29", "(J)J"⟩
abbrev c_Dbl_floor : ByteArray := prog_2_method_15_code
def y_Dbl_floor : MethodName := ⟨"InstrumentFiles$Doubles", "floor", "(J)J"⟩
abbrev c_Dbl_sign : ByteArray := prog_2_method_16_code
def y_Dbl_sign : MethodName := ⟨"InstrumentFiles$Doubles", "sign", "(J)J"⟩
abbrev c_Dbl_isBelow : ByteArray := prog_2_method_17_code
def y_Dbl_isBelow : MethodName := ⟨"InstrumentFiles$Doubles", "isBelow", "(JJ)Z"⟩
abbrev c_Dbl_fromInt : ByteArray := prog_2_method_18_code
def y_Dbl_fromInt : MethodName := ⟨"InstrumentFiles$Doubles", "fromInt", "(I)J"⟩
abbrev c_Dbl_toInt : ByteArray := prog_2_method_19_code
def y_Dbl_toInt : MethodName := ⟨"InstrumentFiles$Doubles", "toInt", "(J)I"⟩
abbrev c_Dbl_rounded : ByteArray := prog_2_method_20_code
def y_Dbl_rounded : MethodName := ⟨"InstrumentFiles$Doubles", "rounded", "(JIJ)J"⟩
abbrev c_Dbl_shiftedDown : ByteArray := prog_2_method_21_code
def y_Dbl_shiftedDown : MethodName := ⟨"InstrumentFiles$Doubles", "shiftedDown", "(JI)J"⟩
abbrev c_Dbl_leadingZeros : ByteArray := prog_2_method_22_code
def y_Dbl_leadingZeros : MethodName := ⟨"InstrumentFiles$Doubles", "leadingZeros", "(J)I"⟩
abbrev c_Judge_init : ByteArray := prog_3_method_1_code
def y_Judge_init : MethodName := ⟨"InstrumentFiles$Judge", "<init>", "()V"⟩
abbrev c_Judge_judgeMethod : ByteArray := prog_3_method_2_code
def y_Judge_judgeMethod : MethodName := ⟨"InstrumentFiles$Judge", "judgeMethod", "(LInstrumentFiles$Program;I)I"⟩
abbrev c_Judge_judgeMapPlaces : ByteArray := prog_3_method_3_code
def y_Judge_judgeMapPlaces : MethodName := ⟨"InstrumentFiles$Judge", "judgeMapPlaces", "(LInstrumentFiles$Method;)I"⟩
abbrev c_Judge_judgeOp : ByteArray := prog_3_method_4_code
def y_Judge_judgeOp : MethodName := ⟨"InstrumentFiles$Judge", "judgeOp", "(LInstrumentFiles$Program;LInstrumentFiles$Method;)I"⟩
abbrev c_Judge_meetsMap : ByteArray := prog_3_method_5_code
def y_Judge_meetsMap : MethodName := ⟨"InstrumentFiles$Judge", "meetsMap", "(LInstrumentFiles$Method;)Z"⟩
abbrev c_Judge_reaches : ByteArray := prog_3_method_6_code
def y_Judge_reaches : MethodName := ⟨"InstrumentFiles$Judge", "reaches", "(LInstrumentFiles$Method;I)Z"⟩
abbrev c_Judge_hasEntry : ByteArray := prog_3_method_7_code
def y_Judge_hasEntry : MethodName := ⟨"InstrumentFiles$Judge", "hasEntry", "(LInstrumentFiles$Program;LInstrumentFiles$Method;II)Z"⟩
abbrev c_Judge_judgeCall : ByteArray := prog_3_method_8_code
def y_Judge_judgeCall : MethodName := ⟨"InstrumentFiles$Judge", "judgeCall", "(LInstrumentFiles$Method;LInstrumentFiles$Method;)I"⟩
abbrev c_Judge_judgeStack : ByteArray := prog_3_method_9_code
def y_Judge_judgeStack : MethodName := ⟨"InstrumentFiles$Judge", "judgeStack", "(LInstrumentFiles$Method;II)I"⟩
abbrev c_Judge_popped : ByteArray := prog_3_method_10_code
def y_Judge_popped : MethodName := ⟨"InstrumentFiles$Judge", "popped", "()I"⟩
abbrev c_Judge_push : ByteArray := prog_3_method_11_code
def y_Judge_push : MethodName := ⟨"InstrumentFiles$Judge", "push", "(LInstrumentFiles$Method;I)I"⟩
abbrev c_Kinds_depth : ByteArray := prog_4_method_2_code
def y_Kinds_depth : MethodName := ⟨"InstrumentFiles$Kinds", "depth", "(I)I"⟩
abbrev c_Kinds_item : ByteArray := prog_4_method_3_code
def y_Kinds_item : MethodName := ⟨"InstrumentFiles$Kinds", "item", "(II)I"⟩
abbrev c_Kinds_local : ByteArray := prog_4_method_4_code
def y_Kinds_local : MethodName := ⟨"InstrumentFiles$Kinds", "local", "(II)I"⟩
abbrev c_Kinds_push : ByteArray := prog_4_method_5_code
def y_Kinds_push : MethodName := ⟨"InstrumentFiles$Kinds", "push", "(II)I"⟩
abbrev c_Kinds_pop : ByteArray := prog_4_method_6_code
def y_Kinds_pop : MethodName := ⟨"InstrumentFiles$Kinds", "pop", "(I)I"⟩
abbrev c_Kinds_withLocal : ByteArray := prog_4_method_7_code
def y_Kinds_withLocal : MethodName := ⟨"InstrumentFiles$Kinds", "withLocal", "(III)I"⟩
abbrev c_Kinds_fits : ByteArray := prog_4_method_8_code
def y_Kinds_fits : MethodName := ⟨"InstrumentFiles$Kinds", "fits", "(II)Z"⟩
abbrev c_Mach_init : ByteArray := prog_5_method_1_code
def y_Mach_init : MethodName := ⟨"InstrumentFiles$Machine", "<init>", "()V"⟩
abbrev c_Mach_setTable : ByteArray := prog_5_method_2_code
def y_Mach_setTable : MethodName := ⟨"InstrumentFiles$Machine", "setTable", "(IJ)Z"⟩
abbrev c_Mach_prepare : ByteArray := prog_5_method_3_code
def y_Mach_prepare : MethodName := ⟨"InstrumentFiles$Machine", "prepare", "(I)V"⟩
abbrev c_Mach_giveArgument : ByteArray := prog_5_method_4_code
def y_Mach_giveArgument : MethodName := ⟨"InstrumentFiles$Machine", "giveArgument", "(LInstrumentFiles$Method;IJ)V"⟩
abbrev c_Mach_run : ByteArray := prog_5_method_5_code
def y_Mach_run : MethodName := ⟨"InstrumentFiles$Machine", "run", "(LInstrumentFiles$Program;I)V"⟩
abbrev c_Mach_enter : ByteArray := prog_5_method_6_code
def y_Mach_enter : MethodName := ⟨"InstrumentFiles$Machine", "enter", "(I)V"⟩
abbrev c_Mach_leave : ByteArray := prog_5_method_7_code
def y_Mach_leave : MethodName := ⟨"InstrumentFiles$Machine", "leave", "()V"⟩
abbrev c_Mach_fail : ByteArray := prog_5_method_8_code
def y_Mach_fail : MethodName := ⟨"InstrumentFiles$Machine", "fail", "(I)V"⟩
abbrev c_Mach_nextPlace : ByteArray := prog_5_method_9_code
def y_Mach_nextPlace : MethodName := ⟨"InstrumentFiles$Machine", "nextPlace", "()I"⟩
abbrev c_Mach_goTo : ByteArray := prog_5_method_10_code
def y_Mach_goTo : MethodName := ⟨"InstrumentFiles$Machine", "goTo", "(I)V"⟩
abbrev c_Mach_openMethod : ByteArray := prog_5_method_11_code
def y_Mach_openMethod : MethodName := ⟨"InstrumentFiles$Machine", "openMethod", "(LInstrumentFiles$Program;)LInstrumentFiles$Method;"⟩
abbrev c_Mach_push : ByteArray := prog_5_method_12_code
def y_Mach_push : MethodName := ⟨"InstrumentFiles$Machine", "push", "(J)V"⟩
abbrev c_Mach_pop : ByteArray := prog_5_method_13_code
def y_Mach_pop : MethodName := ⟨"InstrumentFiles$Machine", "pop", "()J"⟩
abbrev c_Mach_local : ByteArray := prog_5_method_14_code
def y_Mach_local : MethodName := ⟨"InstrumentFiles$Machine", "local", "(I)J"⟩
abbrev c_Mach_setLocal : ByteArray := prog_5_method_15_code
def y_Mach_setLocal : MethodName := ⟨"InstrumentFiles$Machine", "setLocal", "(IJ)V"⟩
abbrev c_Mach_runOp : ByteArray := prog_5_method_16_code
def y_Mach_runOp : MethodName := ⟨"InstrumentFiles$Machine", "runOp", "(LInstrumentFiles$Program;)V"⟩
abbrev c_Mach_runMove : ByteArray := prog_5_method_17_code
def y_Mach_runMove : MethodName := ⟨"InstrumentFiles$Machine", "runMove", "(LInstrumentFiles$Pool;II)V"⟩
abbrev c_Mach_runInts : ByteArray := prog_5_method_18_code
def y_Mach_runInts : MethodName := ⟨"InstrumentFiles$Machine", "runInts", "(I)V"⟩
abbrev c_Mach_runDoubles : ByteArray := prog_5_method_19_code
def y_Mach_runDoubles : MethodName := ⟨"InstrumentFiles$Machine", "runDoubles", "(I)V"⟩
abbrev c_Mach_runChange : ByteArray := prog_5_method_20_code
def y_Mach_runChange : MethodName := ⟨"InstrumentFiles$Machine", "runChange", "(I)V"⟩
abbrev c_Mach_runRest : ByteArray := prog_5_method_21_code
def y_Mach_runRest : MethodName := ⟨"InstrumentFiles$Machine", "runRest", "(LInstrumentFiles$Program;II)V"⟩
abbrev c_Mach_callInside : ByteArray := prog_5_method_22_code
def y_Mach_callInside : MethodName := ⟨"InstrumentFiles$Machine", "callInside", "(LInstrumentFiles$Method;I)V"⟩
abbrev c_Mach_pushFromTable : ByteArray := prog_5_method_23_code
def y_Mach_pushFromTable : MethodName := ⟨"InstrumentFiles$Machine", "pushFromTable", "(J)V"⟩
abbrev c_Mach_runListed : ByteArray := prog_5_method_24_code
def y_Mach_runListed : MethodName := ⟨"InstrumentFiles$Machine", "runListed", "(J)V"⟩
abbrev c_Meth_init : ByteArray := prog_6_method_1_code
def y_Meth_init : MethodName := ⟨"InstrumentFiles$Method", "<init>", "()V"⟩
abbrev c_Meth_isAside : ByteArray := prog_6_method_2_code
def y_Meth_isAside : MethodName := ⟨"InstrumentFiles$Method", "isAside", "()Z"⟩
abbrev c_Meth_takenKind : ByteArray := prog_6_method_3_code
def y_Meth_takenKind : MethodName := ⟨"InstrumentFiles$Method", "takenKind", "(I)I"⟩
abbrev c_Meth_codeAt : ByteArray := prog_6_method_4_code
def y_Meth_codeAt : MethodName := ⟨"InstrumentFiles$Method", "codeAt", "(I)I"⟩
abbrev c_Meth_setCode : ByteArray := prog_6_method_5_code
def y_Meth_setCode : MethodName := ⟨"InstrumentFiles$Method", "setCode", "(II)V"⟩
abbrev c_Meth_appendMap : ByteArray := prog_6_method_6_code
def y_Meth_appendMap : MethodName := ⟨"InstrumentFiles$Method", "appendMap", "(II)V"⟩
abbrev c_Meth_mapPlace : ByteArray := prog_6_method_7_code
def y_Meth_mapPlace : MethodName := ⟨"InstrumentFiles$Method", "mapPlace", "(I)I"⟩
abbrev c_Meth_mapAt : ByteArray := prog_6_method_8_code
def y_Meth_mapAt : MethodName := ⟨"InstrumentFiles$Method", "mapAt", "(I)I"⟩
abbrev c_Meth_kindsAt : ByteArray := prog_6_method_9_code
def y_Meth_kindsAt : MethodName := ⟨"InstrumentFiles$Method", "kindsAt", "(I)I"⟩
abbrev c_Meth_setKinds : ByteArray := prog_6_method_10_code
def y_Meth_setKinds : MethodName := ⟨"InstrumentFiles$Method", "setKinds", "(II)V"⟩
abbrev c_Meth_forgetJudgement : ByteArray := prog_6_method_11_code
def y_Meth_forgetJudgement : MethodName := ⟨"InstrumentFiles$Method", "forgetJudgement", "()V"⟩
abbrev c_Ops_isOp : ByteArray := prog_7_method_2_code
def y_Ops_isOp : MethodName := ⟨"InstrumentFiles$Ops", "isOp", "(I)Z"⟩
abbrev c_Ops_hasByte : ByteArray := prog_7_method_3_code
def y_Ops_hasByte : MethodName := ⟨"InstrumentFiles$Ops", "hasByte", "(I)Z"⟩
abbrev c_Ops_size : ByteArray := prog_7_method_4_code
def y_Ops_size : MethodName := ⟨"InstrumentFiles$Ops", "size", "(I)I"⟩
abbrev c_Ops_goesOn : ByteArray := prog_7_method_5_code
def y_Ops_goesOn : MethodName := ⟨"InstrumentFiles$Ops", "goesOn", "(I)Z"⟩
abbrev c_Ops_jumps : ByteArray := prog_7_method_6_code
def y_Ops_jumps : MethodName := ⟨"InstrumentFiles$Ops", "jumps", "(I)Z"⟩
abbrev c_Ops_taken : ByteArray := prog_7_method_7_code
def y_Ops_taken : MethodName := ⟨"InstrumentFiles$Ops", "taken", "(I)I"⟩
abbrev c_Ops_takenKind : ByteArray := prog_7_method_8_code
def y_Ops_takenKind : MethodName := ⟨"InstrumentFiles$Ops", "takenKind", "(I)I"⟩
abbrev c_Ops_pushedKind : ByteArray := prog_7_method_9_code
def y_Ops_pushedKind : MethodName := ⟨"InstrumentFiles$Ops", "pushedKind", "(I)I"⟩
abbrev c_Pool_init : ByteArray := prog_8_method_1_code
def y_Pool_init : MethodName := ⟨"InstrumentFiles$Pool", "<init>", "()V"⟩
abbrev c_Pool_has : ByteArray := prog_8_method_2_code
def y_Pool_has : MethodName := ⟨"InstrumentFiles$Pool", "has", "(I)Z"⟩
abbrev c_Pool_isTagged : ByteArray := prog_8_method_3_code
def y_Pool_isTagged : MethodName := ⟨"InstrumentFiles$Pool", "isTagged", "(II)Z"⟩
abbrev c_Pool_isListed : ByteArray := prog_8_method_4_code
def y_Pool_isListed : MethodName := ⟨"InstrumentFiles$Pool", "isListed", "(I)Z"⟩
abbrev c_Pool_tagOf : ByteArray := prog_8_method_5_code
def y_Pool_tagOf : MethodName := ⟨"InstrumentFiles$Pool", "tagOf", "(I)I"⟩
abbrev c_Pool_sizeOf : ByteArray := prog_8_method_6_code
def y_Pool_sizeOf : MethodName := ⟨"InstrumentFiles$Pool", "sizeOf", "(I)I"⟩
abbrev c_Pool_valueOf : ByteArray := prog_8_method_7_code
def y_Pool_valueOf : MethodName := ⟨"InstrumentFiles$Pool", "valueOf", "(I)J"⟩
abbrev c_Pool_append : ByteArray := prog_8_method_8_code
def y_Pool_append : MethodName := ⟨"InstrumentFiles$Pool", "append", "(IIJ)V"⟩
abbrev c_Prog_init : ByteArray := prog_9_method_1_code
def y_Prog_init : MethodName := ⟨"InstrumentFiles$Program", "<init>", "()V"⟩
abbrev c_Prog_forget : ByteArray := prog_9_method_2_code
def y_Prog_forget : MethodName := ⟨"InstrumentFiles$Program", "forget", "()V"⟩
abbrev c_Prog_methodAt : ByteArray := prog_9_method_3_code
def y_Prog_methodAt : MethodName := ⟨"InstrumentFiles$Program", "methodAt", "(I)LInstrumentFiles$Method;"⟩
abbrev c_Prog_nextMethod : ByteArray := prog_9_method_4_code
def y_Prog_nextMethod : MethodName := ⟨"InstrumentFiles$Program", "nextMethod", "()LInstrumentFiles$Method;"⟩
abbrev c_Prog_canName : ByteArray := prog_9_method_5_code
def y_Prog_canName : MethodName := ⟨"InstrumentFiles$Program", "canName", "(I)Z"⟩
abbrev c_Read_init : ByteArray := prog_10_method_1_code
def y_Read_init : MethodName := ⟨"InstrumentFiles$Reader", "<init>", "()V"⟩
abbrev c_Read_readFile : ByteArray := prog_10_method_2_code
def y_Read_readFile : MethodName := ⟨"InstrumentFiles$Reader", "readFile", "(LInstrumentFiles$Tape;LInstrumentFiles$Program;)V"⟩
abbrev c_Read_take : ByteArray := prog_10_method_3_code
def y_Read_take : MethodName := ⟨"InstrumentFiles$Reader", "take", "(LInstrumentFiles$Tape;III)I"⟩
abbrev c_Read_takeMany : ByteArray := prog_10_method_4_code
def y_Read_takeMany : MethodName := ⟨"InstrumentFiles$Reader", "takeMany", "(LInstrumentFiles$Tape;III)J"⟩
abbrev c_Read_readPool : ByteArray := prog_10_method_5_code
def y_Read_readPool : MethodName := ⟨"InstrumentFiles$Reader", "readPool", "(LInstrumentFiles$Tape;LInstrumentFiles$Pool;)V"⟩
abbrev c_Read_readMethods : ByteArray := prog_10_method_6_code
def y_Read_readMethods : MethodName := ⟨"InstrumentFiles$Reader", "readMethods", "(LInstrumentFiles$Tape;LInstrumentFiles$Program;)V"⟩
abbrev c_Read_takeName : ByteArray := prog_10_method_7_code
def y_Read_takeName : MethodName := ⟨"InstrumentFiles$Reader", "takeName", "(LInstrumentFiles$Tape;LInstrumentFiles$Program;)I"⟩
abbrev c_Read_readHead : ByteArray := prog_10_method_8_code
def y_Read_readHead : MethodName := ⟨"InstrumentFiles$Reader", "readHead", "(LInstrumentFiles$Tape;LInstrumentFiles$Method;)V"⟩
abbrev c_Read_readCode : ByteArray := prog_10_method_9_code
def y_Read_readCode : MethodName := ⟨"InstrumentFiles$Reader", "readCode", "(LInstrumentFiles$Tape;LInstrumentFiles$Method;)V"⟩
abbrev c_Read_readMaps : ByteArray := prog_10_method_10_code
def y_Read_readMaps : MethodName := ⟨"InstrumentFiles$Reader", "readMaps", "(LInstrumentFiles$Tape;LInstrumentFiles$Method;)V"⟩
abbrev c_Read_takeMapKinds : ByteArray := prog_10_method_11_code
def y_Read_takeMapKinds : MethodName := ⟨"InstrumentFiles$Reader", "takeMapKinds", "(LInstrumentFiles$Tape;LInstrumentFiles$Method;)I"⟩
abbrev c_Tape_init : ByteArray := prog_11_method_1_code
def y_Tape_init : MethodName := ⟨"InstrumentFiles$Tape", "<init>", "()V"⟩
abbrev c_Tape_has : ByteArray := prog_11_method_2_code
def y_Tape_has : MethodName := ⟨"InstrumentFiles$Tape", "has", "(I)Z"⟩
abbrev c_Tape_byteAt : ByteArray := prog_11_method_3_code
def y_Tape_byteAt : MethodName := ⟨"InstrumentFiles$Tape", "byteAt", "(I)I"⟩
abbrev c_Tape_replace : ByteArray := prog_11_method_4_code
def y_Tape_replace : MethodName := ⟨"InstrumentFiles$Tape", "replace", "(II)I"⟩
abbrev c_Tape_append : ByteArray := prog_11_method_5_code
def y_Tape_append : MethodName := ⟨"InstrumentFiles$Tape", "append", "(I)V"⟩
abbrev c_Tape_sumAhead : ByteArray := prog_11_method_6_code
def y_Tape_sumAhead : MethodName := ⟨"InstrumentFiles$Tape", "sumAhead", "(I)I"⟩
abbrev c_IF_init : ByteArray := prog_1_method_1_code
def y_IF_init : MethodName := ⟨"InstrumentFiles", "<init>", "()V"⟩
abbrev c_IF_feed : ByteArray := prog_1_method_2_code
def y_IF_feed : MethodName := ⟨"InstrumentFiles", "feed", "(JI)I"⟩
abbrev c_IF_wipe : ByteArray := prog_1_method_3_code
def y_IF_wipe : MethodName := ⟨"InstrumentFiles", "wipe", "()I"⟩
abbrev c_IF_alter : ByteArray := prog_1_method_4_code
def y_IF_alter : MethodName := ⟨"InstrumentFiles", "alter", "(II)I"⟩
abbrev c_IF_at : ByteArray := prog_1_method_5_code
def y_IF_at : MethodName := ⟨"InstrumentFiles", "at", "(I)I"⟩
abbrev c_IF_seal : ByteArray := prog_1_method_6_code
def y_IF_seal : MethodName := ⟨"InstrumentFiles", "seal", "()I"⟩
abbrev c_IF_read : ByteArray := prog_1_method_7_code
def y_IF_read : MethodName := ⟨"InstrumentFiles", "read", "()I"⟩
abbrev c_IF_fault : ByteArray := prog_1_method_8_code
def y_IF_fault : MethodName := ⟨"InstrumentFiles", "fault", "()I"⟩
abbrev c_IF_table : ByteArray := prog_1_method_9_code
def y_IF_table : MethodName := ⟨"InstrumentFiles", "table", "(IJ)I"⟩
abbrev c_IF_method : ByteArray := prog_1_method_10_code
def y_IF_method : MethodName := ⟨"InstrumentFiles", "method", "(II)I"⟩
abbrev c_IF_pool : ByteArray := prog_1_method_11_code
def y_IF_pool : MethodName := ⟨"InstrumentFiles", "pool", "(II)J"⟩
abbrev c_IF_kind : ByteArray := prog_1_method_12_code
def y_IF_kind : MethodName := ⟨"InstrumentFiles", "kind", "(III)I"⟩
abbrev c_IF_call : ByteArray := prog_1_method_13_code
def y_IF_call : MethodName := ⟨"InstrumentFiles", "call", "(IJJJI)I"⟩
abbrev c_IF_result : ByteArray := prog_1_method_14_code
def y_IF_result : MethodName := ⟨"InstrumentFiles", "result", "()J"⟩
abbrev c_IF_told : ByteArray := prog_1_method_15_code
def y_IF_told : MethodName := ⟨"InstrumentFiles", "told", "(I)I"⟩
abbrev c_IF_count : ByteArray := prog_1_method_16_code
def y_IF_count : MethodName := ⟨"InstrumentFiles", "count", "(I)I"⟩
abbrev c_M_init : ByteArray := prog_13_method_1_code
def y_M_init : MethodName := ⟨"InstrumentFilesModel", "<init>", "()V"⟩
abbrev c_M_in : ByteArray := prog_13_method_3_code
def y_M_in : MethodName := ⟨"InstrumentFilesModel", "in", "(III)Z"⟩
abbrev c_M_feed : ByteArray := prog_13_method_4_code
def y_M_feed : MethodName := ⟨"InstrumentFilesModel", "feed", "(JI)I"⟩
abbrev c_M_wipe : ByteArray := prog_13_method_5_code
def y_M_wipe : MethodName := ⟨"InstrumentFilesModel", "wipe", "()I"⟩
abbrev c_M_alter : ByteArray := prog_13_method_6_code
def y_M_alter : MethodName := ⟨"InstrumentFilesModel", "alter", "(II)I"⟩
abbrev c_M_at : ByteArray := prog_13_method_7_code
def y_M_at : MethodName := ⟨"InstrumentFilesModel", "at", "(I)I"⟩
abbrev c_M_sumAhead : ByteArray := prog_13_method_8_code
def y_M_sumAhead : MethodName := ⟨"InstrumentFilesModel", "sumAhead", "(I)I"⟩
abbrev c_M_seal : ByteArray := prog_13_method_9_code
def y_M_seal : MethodName := ⟨"InstrumentFilesModel", "seal", "()I"⟩
abbrev c_M_faults : ByteArray := prog_13_method_10_code
def y_M_faults : MethodName := ⟨"InstrumentFilesModel", "faults", "(II)V"⟩
abbrev c_M_take : ByteArray := prog_13_method_11_code
def y_M_take : MethodName := ⟨"InstrumentFilesModel", "take", "()I"⟩
abbrev c_M_taken : ByteArray := prog_13_method_12_code
def y_M_taken : MethodName := ⟨"InstrumentFilesModel", "taken", "(III)I"⟩
abbrev c_M_takeLong : ByteArray := prog_13_method_13_code
def y_M_takeLong : MethodName := ⟨"InstrumentFilesModel", "takeLong", "(I)J"⟩
abbrev c_M_readPool : ByteArray := prog_13_method_14_code
def y_M_readPool : MethodName := ⟨"InstrumentFilesModel", "readPool", "()V"⟩
abbrev c_M_isSameWord : ByteArray := prog_13_method_15_code
def y_M_isSameWord : MethodName := ⟨"InstrumentFilesModel", "isSameWord", "(II)Z"⟩
abbrev c_M_readName : ByteArray := prog_13_method_16_code
def y_M_readName : MethodName := ⟨"InstrumentFilesModel", "readName", "(I)V"⟩
abbrev c_M_readMap : ByteArray := prog_13_method_17_code
def y_M_readMap : MethodName := ⟨"InstrumentFilesModel", "readMap", "(II)V"⟩
abbrev c_M_readMethod : ByteArray := prog_13_method_18_code
def y_M_readMethod : MethodName := ⟨"InstrumentFilesModel", "readMethod", "(I)V"⟩
abbrev c_M_readFile : ByteArray := prog_13_method_19_code
def y_M_readFile : MethodName := ⟨"InstrumentFilesModel", "readFile", "()V"⟩
abbrev c_M_read : ByteArray := prog_13_method_20_code
def y_M_read : MethodName := ⟨"InstrumentFilesModel", "read", "()I"⟩
abbrev c_M_fault : ByteArray := prog_13_method_21_code
def y_M_fault : MethodName := ⟨"InstrumentFilesModel", "fault", "()I"⟩
abbrev c_M_mapAt : ByteArray := prog_13_method_22_code
def y_M_mapAt : MethodName := ⟨"InstrumentFilesModel", "mapAt", "(II)I"⟩
abbrev c_M_fits : ByteArray := prog_13_method_23_code
def y_M_fits : MethodName := ⟨"InstrumentFilesModel", "fits", "(II)Z"⟩
abbrev c_M_becomes : ByteArray := prog_13_method_24_code
def y_M_becomes : MethodName := ⟨"InstrumentFilesModel", "becomes", "(II)V"⟩
abbrev c_M_hasByte : ByteArray := prog_13_method_25_code
def y_M_hasByte : MethodName := ⟨"InstrumentFilesModel", "hasByte", "(I)Z"⟩
abbrev c_M_judge : ByteArray := prog_13_method_26_code
def y_M_judge : MethodName := ⟨"InstrumentFilesModel", "judge", "(I)V"⟩
abbrev c_M_judgeOp : ByteArray := prog_13_method_27_code
def y_M_judgeOp : MethodName := ⟨"InstrumentFilesModel", "judgeOp", "(III)V"⟩
abbrev c_M_isListed : ByteArray := prog_13_method_28_code
def y_M_isListed : MethodName := ⟨"InstrumentFilesModel", "isListed", "(I)Z"⟩
abbrev c_M_isWord : ByteArray := prog_13_method_29_code
def y_M_isWord : MethodName := ⟨"InstrumentFilesModel", "isWord", "(IIIIII)Z"⟩
abbrev c_M_isEntry : ByteArray := prog_13_method_30_code
def y_M_isEntry : MethodName := ⟨"InstrumentFilesModel", "isEntry", "(III)Z"⟩
abbrev c_M_pops : ByteArray := prog_13_method_31_code
def y_M_pops : MethodName := ⟨"InstrumentFilesModel", "pops", "(II)I"⟩
abbrev c_M_wants : ByteArray := prog_13_method_32_code
def y_M_wants : MethodName := ⟨"InstrumentFilesModel", "wants", "(IIII)I"⟩
abbrev c_M_pushes : ByteArray := prog_13_method_33_code
def y_M_pushes : MethodName := ⟨"InstrumentFilesModel", "pushes", "(III)I"⟩
abbrev c_M_judgeKinds : ByteArray := prog_13_method_34_code
def y_M_judgeKinds : MethodName := ⟨"InstrumentFilesModel", "judgeKinds", "(IIII)V"⟩
abbrev c_M_isMethod : ByteArray := prog_13_method_35_code
def y_M_isMethod : MethodName := ⟨"InstrumentFilesModel", "isMethod", "(I)Z"⟩
abbrev c_M_table : ByteArray := prog_13_method_36_code
def y_M_table : MethodName := ⟨"InstrumentFilesModel", "table", "(IJ)I"⟩
abbrev c_M_method : ByteArray := prog_13_method_37_code
def y_M_method : MethodName := ⟨"InstrumentFilesModel", "method", "(II)I"⟩
abbrev c_M_pool : ByteArray := prog_13_method_38_code
def y_M_pool : MethodName := ⟨"InstrumentFilesModel", "pool", "(II)J"⟩
abbrev c_M_kind : ByteArray := prog_13_method_39_code
def y_M_kind : MethodName := ⟨"InstrumentFilesModel", "kind", "(III)I"⟩
abbrev c_M_push : ByteArray := prog_13_method_40_code
def y_M_push : MethodName := ⟨"InstrumentFilesModel", "push", "(ID)V"⟩
abbrev c_M_pop : ByteArray := prog_13_method_41_code
def y_M_pop : MethodName := ⟨"InstrumentFilesModel", "pop", "()I"⟩
abbrev c_M_enter : ByteArray := prog_13_method_42_code
def y_M_enter : MethodName := ⟨"InstrumentFilesModel", "enter", "(I)V"⟩
abbrev c_M_fails : ByteArray := prog_13_method_43_code
def y_M_fails : MethodName := ⟨"InstrumentFilesModel", "fails", "(I)V"⟩
abbrev c_M_give : ByteArray := prog_13_method_44_code
def y_M_give : MethodName := ⟨"InstrumentFilesModel", "give", "(IIJ)V"⟩
abbrev c_M_call : ByteArray := prog_13_method_45_code
def y_M_call : MethodName := ⟨"InstrumentFilesModel", "call", "(IJJJI)I"⟩
abbrev c_M_step : ByteArray := prog_13_method_46_code
def y_M_step : MethodName := ⟨"InstrumentFilesModel", "step", "()V"⟩
abbrev c_M_calls : ByteArray := prog_13_method_47_code
def y_M_calls : MethodName := ⟨"InstrumentFilesModel", "calls", "(II)V"⟩
abbrev c_M_gives : ByteArray := prog_13_method_48_code
def y_M_gives : MethodName := ⟨"InstrumentFilesModel", "gives", "(II)V"⟩
abbrev c_M_moves : ByteArray := prog_13_method_49_code
def y_M_moves : MethodName := ⟨"InstrumentFilesModel", "moves", "(III)V"⟩
abbrev c_M_joinsInts : ByteArray := prog_13_method_50_code
def y_M_joinsInts : MethodName := ⟨"InstrumentFilesModel", "joinsInts", "(I)V"⟩
abbrev c_M_isEndless : ByteArray := prog_13_method_51_code
def y_M_isEndless : MethodName := ⟨"InstrumentFilesModel", "isEndless", "(D)Z"⟩
abbrev c_M_plus : ByteArray := prog_13_method_52_code
def y_M_plus : MethodName := ⟨"InstrumentFilesModel", "plus", "(DD)D"⟩
abbrev c_M_minus : ByteArray := prog_13_method_53_code
def y_M_minus : MethodName := ⟨"InstrumentFilesModel", "minus", "(DD)D"⟩
abbrev c_M_times : ByteArray := prog_13_method_54_code
def y_M_times : MethodName := ⟨"InstrumentFilesModel", "times", "(DD)D"⟩
abbrev c_M_by : ByteArray := prog_13_method_55_code
def y_M_by : MethodName := ⟨"InstrumentFilesModel", "by", "(DD)D"⟩
abbrev c_M_doubleOf : ByteArray := prog_13_method_56_code
def y_M_doubleOf : MethodName := ⟨"InstrumentFilesModel", "doubleOf", "(J)D"⟩
abbrev c_M_joinsDoubles : ByteArray := prog_13_method_57_code
def y_M_joinsDoubles : MethodName := ⟨"InstrumentFilesModel", "joinsDoubles", "(I)V"⟩
abbrev c_M_turns : ByteArray := prog_13_method_58_code
def y_M_turns : MethodName := ⟨"InstrumentFilesModel", "turns", "(II)V"⟩
abbrev c_M_listed : ByteArray := prog_13_method_59_code
def y_M_listed : MethodName := ⟨"InstrumentFilesModel", "listed", "(ID)D"⟩
abbrev c_M_floor : ByteArray := prog_13_method_60_code
def y_M_floor : MethodName := ⟨"InstrumentFilesModel", "floor", "(D)D"⟩
abbrev c_M_root : ByteArray := prog_13_method_61_code
def y_M_root : MethodName := ⟨"InstrumentFilesModel", "root", "(D)D"⟩
abbrev c_M_result : ByteArray := prog_13_method_62_code
def y_M_result : MethodName := ⟨"InstrumentFilesModel", "result", "()J"⟩
abbrev c_M_told : ByteArray := prog_13_method_63_code
def y_M_told : MethodName := ⟨"InstrumentFilesModel", "told", "(I)I"⟩
abbrev c_M_count : ByteArray := prog_13_method_64_code
def y_M_count : MethodName := ⟨"InstrumentFilesModel", "count", "(I)I"⟩
abbrev c_JD_isNaN : ByteArray := prog_14_method_6_code
def y_JD_isNaN : MethodName := ⟨"java/lang/Double", "isNaN", "(D)Z"⟩
abbrev c_JD_doubleToLongBits : ByteArray := prog_14_method_23_code
def y_JD_doubleToLongBits : MethodName := ⟨"java/lang/Double", "doubleToLongBits", "(D)J"⟩
abbrev c_JM_abs : ByteArray := prog_15_method_61_code
def y_JM_abs : MethodName := ⟨"java/lang/Math", "abs", "(J)J"⟩
abbrev c_JM_max : ByteArray := prog_15_method_65_code
def y_JM_max : MethodName := ⟨"java/lang/Math", "max", "(II)I"⟩
abbrev c_JM_min : ByteArray := prog_15_method_69_code
def y_JM_min : MethodName := ⟨"java/lang/Math", "min", "(II)I"⟩
abbrev c_L_law : ByteArray := code
def y_L_law : MethodName := ⟨"InstrumentFilesLaw", "law", "([I)Z"⟩
def DC (cc : ByteArray) (pc : Nat) (i : Instr) (len nxt : Nat) : Prop := decode cc pc = .ok (i, len) ∧ pc + len = nxt
def DB (cc : ByteArray) (pc : Nat) (i : Instr) (off : Int) (nxt tgt : Nat) : Prop := decode cc pc = .ok (i, 3) ∧ pc + 3 = nxt ∧ (pc : Int) + off = (tgt : Int)
end
section
/-! the world as one value: contents by kind, number and place; references by kind and number -/
abbrev MV : Type := Value ⊕ (Nat × Nat)
abbrev MS : Type := (Nat → Nat → Nat → Int32) × (Nat → Nat → Nat → Int64) × (Nat → Nat → Nat → UInt64)
def wI (S : MS) (k i j : Nat) (v : Int32) : MS := (fun a b c => if a = k ∧ b = i ∧ c = j then v else S.1 a b c, S.2)
def wL (S : MS) (k i j : Nat) (v : Int64) : MS := (S.1, fun a b c => if a = k ∧ b = i ∧ c = j then v else S.2.1 a b c, S.2.2)
def wD (S : MS) (k i j : Nat) (v : UInt64) : MS := (S.1, S.2.1, fun a b c => if a = k ∧ b = i ∧ c = j then v else S.2.2 a b c)
/-- array classes, addresses, the kit's class data, addresses of the static rows -/
abbrev GG : Type := (Nat → Nat → ClassId) × (Nat → Nat → Nat) × va_G × (Nat → Nat)
def tr (G : GG) (v : MV) : Value := match v with
  | .inl x => x
  | .inr q => .ref (G.2.1 q.1 q.2)
def fv (G : GG) (S : MS) (k i s : Nat) : Value := match (fTy k s).1 with
  | 0 => .int (S.1 k i s)
  | 1 => .long (S.2.1 k i s)
  | 2 => .ref (G.2.1 (fTy k s).2 i)
  | _ => .int (S.1 k i s)
def acel (G : GG) (S : MS) (k i : Nat) : vp_A := match (aTy k).1 with
  | 0 => ((aTy k).2, .inl (S.1 k i))
  | 1 => ((aTy k).2, .inl (S.1 k i))
  | 2 => ((aTy k).2, .inr (.inl (S.2.1 k i)))
  | 3 => ((aTy k).2, .inr (.inr (.inr (.inl (S.2.2 k i)))))
  | _ => ((aTy k).2, .inr (.inr (.inr (.inr (fun j => some (G.2.1 4 j))))))
def cel (G : GG) (S : MS) (k i : Nat) : va_E := if k < 9 then .inr (k, (List.range (nF k)).map (fv G S k i)) else .inl (G.1 k i, acel G S k i)
def wld (G : GG) (S : MS) : va_W := objs.map (fun o => (G.2.1 o.1 o.2, cel G S o.1 o.2))
def aFT (k : Nat) : FieldType := match (aTy k).1 with
  | 0 => .int
  | 1 => .boolean
  | 2 => .long
  | 3 => .double
  | _ => .object "InstrumentFiles$Method"
def tyl (G : GG) : List (ClassId × FieldType) := arrs.map (fun o => (G.1 o.1 o.2, aFT o.1))
/-- the cells of the world -/
def AD (G : GG) : Nat → Prop := fun q => ∃ o ∈ objs, q = G.2.1 o.1 o.2
theorem wld_get {G : GG} {S : MS} {q k i : Nat} (h : objs[q]? = some (k, i)) : (wld G S)[q]? = some (G.2.1 k i, cel G S k i) := by
  rw [wld, List.getElem?_map, h]; rfl
theorem wld_has {k i : Nat} (h : (k, i) ∈ objs) : ∃ q : Nat, objs[q]? = some (k, i) := List.getElem?_of_mem h
theorem objs_one {q r : Nat} {o : Nat × Nat} (h : objs[q]? = some o) (h2 : objs[r]? = some o) : q = r := by
  obtain ⟨l1, e1⟩ := List.getElem?_eq_some_iff.mp h
  obtain ⟨l2, e2⟩ := List.getElem?_eq_some_iff.mp h2
  exact (List.getElem_inj objs_nd).mp (e1.trans e2.symm)
theorem wld_set {G : GG} {S S' : MS} {q k i : Nat} {e : va_E} (h : objs[q]? = some (k, i)) (he : cel G S' k i = e) (ho : ∀ a b, (a, b) ≠ (k, i) → cel G S' a b = cel G S a b) : (wld G S).set q (G.2.1 k i, e) = wld G S' := by
  apply List.ext_getElem?
  intro j
  by_cases hj : j = q
  · subst hj
    rw [List.getElem?_set_self (by rw [wld, List.length_map]; exact (List.getElem?_eq_some_iff.mp h).1), wld_get h, he]
  · rw [List.getElem?_set_ne (Ne.symm hj), wld, wld, List.getElem?_map, List.getElem?_map]
    cases hq : objs[j]? with
    | none => rfl
    | some o =>
      have hne : (o.1, o.2) ≠ (k, i) := fun z => hj (objs_one hq (h.trans (congrArg some z.symm)))
      show some (G.2.1 o.1 o.2, cel G S o.1 o.2) = some (G.2.1 o.1 o.2, cel G S' o.1 o.2)
      rw [ho o.1 o.2 hne]
theorem arr_mem {k i : Nat} (h : (k, i) ∈ objs) (hk : ¬ k < 9) : (k, i) ∈ arrs := List.mem_filter.mpr ⟨h, by simpa using Nat.not_lt.mp hk⟩
theorem tyl_get {G : GG} {k i : Nat} (h : (k, i) ∈ objs) (hk : ¬ k < 9) : ∃ t0 : Nat, (tyl G)[t0]? = some (G.1 k i, aFT k) := by
  obtain ⟨t0, h0⟩ := List.getElem?_of_mem (arr_mem h hk)
  exact ⟨t0, by rw [tyl, List.getElem?_map, h0]; rfl⟩
theorem va_D_AD {G : GG} {S S' : MS} {A : Nat → Prop} (h : va_D A (wld G S)) : va_D A (wld G S') := by
  have key : ∀ (i : Nat) (p : Nat × va_E), (wld G S')[i]? = some p → ∃ p', (wld G S)[i]? = some p' ∧ p'.1 = p.1 := by
    intro i p hp
    rw [wld, List.getElem?_map] at hp
    cases ho : objs[i]? with
    | none => rw [ho] at hp; cases hp
    | some o => rw [ho] at hp; cases hp; exact ⟨_, wld_get (k := o.1) (i := o.2) ho, rfl⟩
  refine ⟨fun i j p q hi hj e => ?_, fun k q hk => ?_⟩
  · obtain ⟨p', h1, h2⟩ := key i p hi
    obtain ⟨q', h3, h4⟩ := key j q hj
    exact h.1 i j p' q' h1 h3 (h2.trans (e.trans h4.symm))
  · obtain ⟨q', h1, h2⟩ := key k q hk
    rw [← h2]; exact h.2 k q' h1
theorem va_D_self {G : GG} {S : MS} {A : Nat → Prop} (h : va_D A (wld G S)) : va_D (AD G) (wld G S) := ⟨h.1, fun k q hk => by
  rw [wld, List.getElem?_map] at hk
  cases ho : objs[k]? with
  | none => rw [ho] at hk; cases hk
  | some o => rw [ho] at hk; cases hk; exact ⟨o, List.mem_of_getElem? ho, rfl⟩⟩
theorem va_D_up {G : GG} {S : MS} {A : Nat → Prop} (h : va_D (AD G) (wld G S)) (hA : ∀ q, AD G q → A q) : va_D A (wld G S) := ⟨h.1, fun k q hk => hA _ (h.2 k q hk)⟩
theorem va_P_adr {G : GG} {S : MS} {H : Heap} {o : Nat × Nat} (hP : va_P G.2.2.1 clsL (wld G S) H) (ho : o ∈ objs) : G.2.1 o.1 o.2 < H.size := by
  obtain ⟨q, hq⟩ := wld_has (k := o.1) (i := o.2) ho
  exact (hP q _ (wld_get hq)).lt
/-! the static rows -/
def stn (k : Nat) : String := match k with
  | 0 => "TAKEN"
  | 1 => "TAKEN_KIND"
  | _ => "PUSHED_KIND"
def stv (k : Nat) : List Int32 := match k with
  | 0 => [0, 0, 0, 0, 1, 1, 1, 2, 2, 2, 2, 2, 2, 2, 2, 1, 1, 2, 2, 0, 1, 0, 1, 1, 1]
  | 1 => [0, 0, 0, 0, 0, 0, 0, 1, 1, 1, 1, 2, 2, 2, 2, 1, 2, 1, 2, 0, 1, 0, 0, 1, 2]
  | _ => [0, 1, 2, 0, 0, 0, 0, 1, 1, 1, 1, 2, 2, 2, 2, 2, 1, 1, 1, 0, 0, 0, 0, 2, 2]
def STA (G : GG) (A : Nat → Prop) (U : State) (H : Heap) : Prop := ∀ k, k < 3 → va_Z "InstrumentFiles$Ops" (stn k) "[I" (.ref (G.2.2.2 k)) A U H ∧ va_T .int (G.2.2.2 k) 25 (fun j => .int ((stv k).getD j 0)) A U H
theorem STA.moved {G : GG} {A : Nat → Prop} {u U : State} {H : Heap} (hvm : u.vm.Alike U.vm) (h : STA G A u H) : STA G A U H := fun k hk => ⟨va_Z.moved hvm (h k hk).1, va_T.moved hvm (h k hk).2⟩
theorem STA.kept {G : GG} {A : Nat → Prop} {U : State} {H H1 : Heap} (h : STA G A U H) (hq : ∀ a : Nat, a < H.size → ¬ A a → H1[a]? = H[a]?) : STA G A U H1 := fun k hk => ⟨va_Z.kept (h k hk).1 hq, va_T.kept (h k hk).2 hq⟩
theorem STA.narrow {G : GG} {A B : Nat → Prop} {U : State} {H : Heap} (h : STA G A U H) (hAB : ∀ q, B q → A q) : STA G B U H := fun k hk => ⟨va_Z.narrow (h k hk).1 hAB, va_T.narrow (h k hk).2 hAB⟩
/-- the words of nest mates -/
def NW (U : State) : Prop := ∀ w ∈ lw_ns, va_Nw w U
theorem NW.same {u U : State} (h : u.vm = U.vm) (hN : NW u) : NW U := fun w hw => by
  have hw2 := (List.mem_filter.mp hw).2
  cases w <;> first | (cases hw2; done) | exact va_Nw.same rfl h (hN _ hw)
theorem NW.warm {s U : State} (h : s.WarmedH U.vm) (hN : NW s) : NW U := fun w hw => by
  have hw2 := (List.mem_filter.mp hw).2
  cases w <;> first | (cases hw2; done) | exact va_Nw.warmF h (hN _ hw)
/-- what holds of a state between calls -/
def PRE (G : GG) (S : MS) (U : State) : Prop := va_P G.2.2.1 clsL (wld G S) U.heap ∧ va_K G.2.2.1 clsL (tyl G) U ∧ va_D (AD G) (wld G S) ∧ STA G (AD G) U U.heap ∧ NW U
theorem PRE.at {G : GG} {S : MS} {u U : State} (hvm : u.vm = U.vm) (hh : U.heap = u.heap) (h : PRE G S u) : PRE G S U := ⟨by rw [hh]; exact h.1, va_K.moved (hvm ▸ Vm.Alike.refl u.vm) h.2.1, h.2.2.1, by rw [hh]; exact h.2.2.2.1.moved (hvm ▸ Vm.Alike.refl u.vm), h.2.2.2.2.same hvm⟩
/-- a method's end: its answer and the world's new contents are as Fin says; nothing else has changed -/
def QcS (G : GG) (Fin : Option MV → MS → Prop) : Array Value → State → Outcome → State → Prop := fun _ st oc t => (∃ (v : Option MV) (S' : MS), oc = .returned (v.map (tr G)) ∧ Fin v S' ∧ PRE G S' t) ∧ st.heap.size ≤ t.heap.size ∧ ∀ q : Nat, q < st.heap.size → ¬ AD G q → t.heap[q]? = st.heap[q]?
def rmS (fr lo : Nat) : Room := { frames := fr, cells := 0, slots := 0, locals := lo }
def wsS0 (y : MethodName) (cc : ByteArray) (nL : Nat) (ret : Option FieldType) : List Cond := .code y cc nL ret :: lw_gd
/-- the contract: from contents S the method returns, and Fin holds of its answer and the new contents -/
def MetS (y : MethodName) (cc : ByteArray) (nL : Nat) (ret : Option FieldType) (fr lo : Nat) (av : List MV) (S : MS) (Fin : Option MV → MS → Prop) : Prop :=
  ∀ (l : Launch) (G : GG), Met l y (wsS0 y cc nL ret) (rmS fr lo) (va_Pc (av.map (tr G)) (PRE G S)) (QcS G Fin) 0 0 (AD G)
/-- what stays the same all through a method's walk -/
def CX (p : Program) (s : State) (m : MethodId) (args : Array Value) (meth : Method) (c : Code) (G : GG) (A : Nat → Prop) (cc : ByteArray) (own : String) (nL : Nat) (ret : Option FieldType) : Prop :=
  p.tables.exec = Jvm.exec ∧ c.code = cc ∧ c.maxLocals = nL ∧ s.vm.findClass own = some m.cls ∧ (∀ w ∈ lw_gd, w.before args s = true) ∧ va_K G.2.2.1 clsL (tyl G) s ∧ (∀ q, AD G q → A q) ∧ (STA G A s s.heap ∧ NW s) ∧ meth.sig.returnType = ret ∧ meth.locks = false
def asl (G : GG) : Nat → List (Option MV) → List (Nat × Value)
  | _, [] => []
  | n, none :: t => asl G (n + 1) t
  | n, some v :: t => (n, tr G v) :: asl G (n + 1) t
def WS (p : Program) (l : Launch) (e : Env) (R : Room) (s : State) (m : MethodId) (args : Array Value) (below : List Frame) (meth : Method) (c : Code) (G : GG) (A : Nat → Prop) (nL cells slots : Nat) (Q : State → Prop) (pc : Nat) (lv : List (Option MV)) (st : List MV) (S : MS) : Prop :=
  ∀ (H : Heap) (locs : List Loc) (ls : Array Slot), va_P G.2.2.1 clsL (wld G S) H → va_D A (wld G S) → va_S A s.heap H locs → lv_has ls nL (asl G 0 lv) → W p l e R s m args below meth c H locs cells slots Q (F0 m pc ls (st.map (tr G)))
end
section
section WSR
variable {p : Program} {l : Launch} {e : Env} {R : Room} {s : State} {m : MethodId} {args : Array Value} {below : List Frame} {meth : Method} {c : Code} {G : GG} {A : Nat → Prop} {cells slots : Nat} {Q : State → Prop} {cc : ByteArray} {own : String} {nL : Nat} {ret : Option FieldType}
variable {pc nxt tgt : Nat} {lv : List (Option MV)} {st : List MV} {S : MS} {off : Int}
theorem ws_iconst (X : CX p s m args meth c G A cc own nL ret) {n : Int} (hdg : DC cc pc (.iconst n) 1 nxt) {v : Int32} (hv : Int32.ofInt n = v) (K : WS p l e R s m args below meth c G A nL cells slots Q nxt lv (.inl (.int v) :: st) S) : WS p l e R s m args below meth c G A nL cells slots Q pc lv (st) S := by
  obtain ⟨h1, rfl⟩ := hdg
  exact fun H locs ls hP hD hS hl => lv_iconst X.1 X.2.1 h1 hv (K H locs ls hP hD hS hl)
theorem ws_bipush (X : CX p s m args meth c G A cc own nL ret) {n : Int} (hdg : DC cc pc (.bipush n) 2 nxt) {v : Int32} (hv : (Int8.ofInt n).toInt32 = v) (K : WS p l e R s m args below meth c G A nL cells slots Q nxt lv (.inl (.int v) :: st) S) : WS p l e R s m args below meth c G A nL cells slots Q pc lv (st) S := by
  obtain ⟨h1, rfl⟩ := hdg
  exact fun H locs ls hP hD hS hl => lv_bipush X.1 X.2.1 h1 hv (K H locs ls hP hD hS hl)
theorem ws_sipush (X : CX p s m args meth c G A cc own nL ret) {n : Int} (hdg : DC cc pc (.sipush n) 3 nxt) {v : Int32} (hv : (Int16.ofInt n).toInt32 = v) (K : WS p l e R s m args below meth c G A nL cells slots Q nxt lv (.inl (.int v) :: st) S) : WS p l e R s m args below meth c G A nL cells slots Q pc lv (st) S := by
  obtain ⟨h1, rfl⟩ := hdg
  exact fun H locs ls hP hD hS hl => lv_sipush X.1 X.2.1 h1 hv (K H locs ls hP hD hS hl)
theorem ws_lconst (X : CX p s m args meth c G A cc own nL ret) {n : Fin 2} (hdg : DC cc pc (.lconst n) 1 nxt) {v : Int64} (hv : Int64.ofNat (n : Nat) = v) (K : WS p l e R s m args below meth c G A nL cells slots Q nxt lv (.inl (.long v) :: st) S) : WS p l e R s m args below meth c G A nL cells slots Q pc lv (st) S := by
  obtain ⟨h1, rfl⟩ := hdg
  exact fun H locs ls hP hD hS hl => lv_lconst X.1 X.2.1 h1 hv (K H locs ls hP hD hS hl)
theorem ws_dconst0 (X : CX p s m args meth c G A cc own nL ret) (hdg : DC cc pc (.dconst 0) 1 nxt) (K : WS p l e R s m args below meth c G A nL cells slots Q nxt lv (.inl (.double FP.dconst0) :: st) S) : WS p l e R s m args below meth c G A nL cells slots Q pc lv (st) S := by
  obtain ⟨h1, rfl⟩ := hdg
  exact fun H locs ls hP hD hS hl => lv_dconst0 X.1 X.2.1 h1 (K H locs ls hP hD hS hl)
theorem ws_dconst1 (X : CX p s m args meth c G A cc own nL ret) (hdg : DC cc pc (.dconst 1) 1 nxt) (K : WS p l e R s m args below meth c G A nL cells slots Q nxt lv (.inl (.double FP.dconst1) :: st) S) : WS p l e R s m args below meth c G A nL cells slots Q pc lv (st) S := by
  obtain ⟨h1, rfl⟩ := hdg
  exact fun H locs ls hP hD hS hl => lv_dconst1 X.1 X.2.1 h1 (K H locs ls hP hD hS hl)
theorem ws_ldc (X : CX p s m args meth c G A cc own nL ret) {i : Nat} (hdg : DC cc pc (.ldc i) 2 nxt) {v : Int32} (hc : Cond.constant own i v ∈ lw_gd) (K : WS p l e R s m args below meth c G A nL cells slots Q nxt lv (.inl (.int v) :: st) S) : WS p l e R s m args below meth c G A nL cells slots Q pc lv (st) S := by
  obtain ⟨h1, rfl⟩ := hdg
  exact fun H locs ls hP hD hS hl => lv_ldc X.1 X.2.1 X.2.2.2.1 (X.2.2.2.2.1 _ hc) h1 (K H locs ls hP hD hS hl)
theorem ws_ldc2 (X : CX p s m args meth c G A cc own nL ret) {i : Nat} (hdg : DC cc pc (.ldc2_w i) 3 nxt) {v : Int64} (hc : Cond.constantLong own i v ∈ lw_gd) (K : WS p l e R s m args below meth c G A nL cells slots Q nxt lv (.inl (.long v) :: st) S) : WS p l e R s m args below meth c G A nL cells slots Q pc lv (st) S := by
  obtain ⟨h1, rfl⟩ := hdg
  exact fun H locs ls hP hD hS hl => lv_ldc2 X.1 X.2.1 X.2.2.2.1 (X.2.2.2.2.1 _ hc) h1 (K H locs ls hP hD hS hl)
theorem ws_ldc2d (X : CX p s m args meth c G A cc own nL ret) {i : Nat} (hdg : DC cc pc (.ldc2_w i) 3 nxt) {v : UInt64} (hc : Cond.constantDouble own i v ∈ lw_gd) (K : WS p l e R s m args below meth c G A nL cells slots Q nxt lv (.inl (.double v) :: st) S) : WS p l e R s m args below meth c G A nL cells slots Q pc lv (st) S := by
  obtain ⟨h1, rfl⟩ := hdg
  exact fun H locs ls hP hD hS hl => lv_ldc2d X.1 X.2.1 X.2.2.2.1 (X.2.2.2.2.1 _ hc) h1 (K H locs ls hP hD hS hl)
theorem ws_null (X : CX p s m args meth c G A cc own nL ret) (hdg : DC cc pc (.aconst_null) 1 nxt) (K : WS p l e R s m args below meth c G A nL cells slots Q nxt lv (.inl .null :: st) S) : WS p l e R s m args below meth c G A nL cells slots Q pc lv (st) S := by
  obtain ⟨h1, rfl⟩ := hdg
  exact fun H locs ls hP hD hS hl => lv_null X.1 X.2.1 h1 (K H locs ls hP hD hS hl)
def lget : Nat → List (Option MV) → Option MV
  | 0, a :: _ => a
  | n + 1, _ :: t => lget n t
  | _, [] => none
theorem asl_get {G : GG} : ∀ (i n : Nat) (lv : List (Option MV)) (v : MV), lget i lv = some v → (n + i, tr G v) ∈ asl G n lv
  | 0, n, a :: t, v, h => by
    have h : a = some v := h
    subst h
    exact List.mem_cons_self
  | i + 1, n, a :: t, v, h => by
    have h : lget i t = some v := h
    have h2 := asl_get (G := G) i (n + 1) t v h
    rw [show n + (i + 1) = n + 1 + i by omega]
    cases a with
    | none => exact h2
    | some b => exact List.mem_cons_of_mem _ h2
  | 0, _, [], _, h => by cases h
  | _ + 1, _, [], _, h => by cases h
theorem asl_at {G : GG} {ls : Array Slot} {nL i : Nat} {lv : List (Option MV)} {v : MV} (hl : lv_has ls nL (asl G 0 lv)) (h : lget i lv = some v) : ls[i]? = some (.val (tr G v)) := by
  have h2 := hl.2.2 _ (asl_get i 0 lv v h)
  rwa [Nat.zero_add] at h2
theorem ws_iload_n (X : CX p s m args meth c G A cc own nL ret) {i : Nat} {k : Fin 4} (hdg : DC cc pc (.iload_n k) 1 nxt) {x : Int32} (hi : (k : Nat) = i) (hl0 : lget i lv = some (.inl (.int x))) (K : WS p l e R s m args below meth c G A nL cells slots Q nxt lv (.inl (.int x) :: st) S) : WS p l e R s m args below meth c G A nL cells slots Q pc lv st S := by
  obtain ⟨h1, rfl⟩ := hdg
  exact fun H locs ls hP hD hS hl => lv_iload_n X.1 X.2.1 h1 hi (asl_at hl hl0) (K H locs ls hP hD hS hl)
theorem ws_iload (X : CX p s m args meth c G A cc own nL ret) {i : Nat} (hdg : DC cc pc (.iload i) 2 nxt) {x : Int32} (hl0 : lget i lv = some (.inl (.int x))) (K : WS p l e R s m args below meth c G A nL cells slots Q nxt lv (.inl (.int x) :: st) S) : WS p l e R s m args below meth c G A nL cells slots Q pc lv st S := by
  obtain ⟨h1, rfl⟩ := hdg
  exact fun H locs ls hP hD hS hl => lv_iload X.1 X.2.1 h1 (asl_at hl hl0) (K H locs ls hP hD hS hl)
theorem ws_lload_n (X : CX p s m args meth c G A cc own nL ret) {i : Nat} {k : Fin 4} (hdg : DC cc pc (.lload_n k) 1 nxt) {x : Int64} (hi : (k : Nat) = i) (hl0 : lget i lv = some (.inl (.long x))) (K : WS p l e R s m args below meth c G A nL cells slots Q nxt lv (.inl (.long x) :: st) S) : WS p l e R s m args below meth c G A nL cells slots Q pc lv st S := by
  obtain ⟨h1, rfl⟩ := hdg
  exact fun H locs ls hP hD hS hl => lv_lload_n X.1 X.2.1 h1 hi (asl_at hl hl0) (K H locs ls hP hD hS hl)
theorem ws_lload (X : CX p s m args meth c G A cc own nL ret) {i : Nat} (hdg : DC cc pc (.lload i) 2 nxt) {x : Int64} (hl0 : lget i lv = some (.inl (.long x))) (K : WS p l e R s m args below meth c G A nL cells slots Q nxt lv (.inl (.long x) :: st) S) : WS p l e R s m args below meth c G A nL cells slots Q pc lv st S := by
  obtain ⟨h1, rfl⟩ := hdg
  exact fun H locs ls hP hD hS hl => lv_lload X.1 X.2.1 h1 (asl_at hl hl0) (K H locs ls hP hD hS hl)
theorem ws_dload_n (X : CX p s m args meth c G A cc own nL ret) {i : Nat} {k : Fin 4} (hdg : DC cc pc (.dload_n k) 1 nxt) {x : UInt64} (hi : (k : Nat) = i) (hl0 : lget i lv = some (.inl (.double x))) (K : WS p l e R s m args below meth c G A nL cells slots Q nxt lv (.inl (.double x) :: st) S) : WS p l e R s m args below meth c G A nL cells slots Q pc lv st S := by
  obtain ⟨h1, rfl⟩ := hdg
  exact fun H locs ls hP hD hS hl => lv_dload_n X.1 X.2.1 h1 hi (asl_at hl hl0) (K H locs ls hP hD hS hl)
theorem ws_dload (X : CX p s m args meth c G A cc own nL ret) {i : Nat} (hdg : DC cc pc (.dload i) 2 nxt) {x : UInt64} (hl0 : lget i lv = some (.inl (.double x))) (K : WS p l e R s m args below meth c G A nL cells slots Q nxt lv (.inl (.double x) :: st) S) : WS p l e R s m args below meth c G A nL cells slots Q pc lv st S := by
  obtain ⟨h1, rfl⟩ := hdg
  exact fun H locs ls hP hD hS hl => lv_dload X.1 X.2.1 h1 (asl_at hl hl0) (K H locs ls hP hD hS hl)
theorem ws_aload_n (X : CX p s m args meth c G A cc own nL ret) {i : Nat} {k : Fin 4} (hdg : DC cc pc (.aload_n k) 1 nxt) {x : Nat × Nat} (hi : (k : Nat) = i) (hl0 : lget i lv = some (.inr x)) (K : WS p l e R s m args below meth c G A nL cells slots Q nxt lv (.inr x :: st) S) : WS p l e R s m args below meth c G A nL cells slots Q pc lv st S := by
  obtain ⟨h1, rfl⟩ := hdg
  exact fun H locs ls hP hD hS hl => lv_aload_n X.1 X.2.1 h1 hi (asl_at hl hl0) (K H locs ls hP hD hS hl)
theorem ws_aload (X : CX p s m args meth c G A cc own nL ret) {i : Nat} (hdg : DC cc pc (.aload i) 2 nxt) {x : Nat × Nat} (hl0 : lget i lv = some (.inr x)) (K : WS p l e R s m args below meth c G A nL cells slots Q nxt lv (.inr x :: st) S) : WS p l e R s m args below meth c G A nL cells slots Q pc lv st S := by
  obtain ⟨h1, rfl⟩ := hdg
  exact fun H locs ls hP hD hS hl => lv_aload X.1 X.2.1 h1 (asl_at hl hl0) (K H locs ls hP hD hS hl)
theorem ws_aRload_n (X : CX p s m args meth c G A cc own nL ret) {i : Nat} {k : Fin 4} (hdg : DC cc pc (.aload_n k) 1 nxt) {x : Nat} (hi : (k : Nat) = i) (hl0 : lget i lv = some (.inl (.ref x))) (K : WS p l e R s m args below meth c G A nL cells slots Q nxt lv (.inl (.ref x) :: st) S) : WS p l e R s m args below meth c G A nL cells slots Q pc lv st S := by
  obtain ⟨h1, rfl⟩ := hdg
  exact fun H locs ls hP hD hS hl => lv_aload_n X.1 X.2.1 h1 hi (asl_at hl hl0) (K H locs ls hP hD hS hl)
theorem ws_aRload (X : CX p s m args meth c G A cc own nL ret) {i : Nat} (hdg : DC cc pc (.aload i) 2 nxt) {x : Nat} (hl0 : lget i lv = some (.inl (.ref x))) (K : WS p l e R s m args below meth c G A nL cells slots Q nxt lv (.inl (.ref x) :: st) S) : WS p l e R s m args below meth c G A nL cells slots Q pc lv st S := by
  obtain ⟨h1, rfl⟩ := hdg
  exact fun H locs ls hP hD hS hl => lv_aload X.1 X.2.1 h1 (asl_at hl hl0) (K H locs ls hP hD hS hl)
theorem ws_aNload_n (X : CX p s m args meth c G A cc own nL ret) {i : Nat} {k : Fin 4} (hdg : DC cc pc (.aload_n k) 1 nxt) (hi : (k : Nat) = i) (hl0 : lget i lv = some (.inl .null)) (K : WS p l e R s m args below meth c G A nL cells slots Q nxt lv (.inl .null :: st) S) : WS p l e R s m args below meth c G A nL cells slots Q pc lv st S := by
  obtain ⟨h1, rfl⟩ := hdg
  exact fun H locs ls hP hD hS hl => lv_aload_nN X.1 X.2.1 h1 hi (asl_at hl hl0) (K H locs ls hP hD hS hl)
theorem ws_aNload (X : CX p s m args meth c G A cc own nL ret) {i : Nat} (hdg : DC cc pc (.aload i) 2 nxt) (hl0 : lget i lv = some (.inl .null)) (K : WS p l e R s m args below meth c G A nL cells slots Q nxt lv (.inl .null :: st) S) : WS p l e R s m args below meth c G A nL cells slots Q pc lv st S := by
  obtain ⟨h1, rfl⟩ := hdg
  exact fun H locs ls hP hD hS hl => lv_aloadN X.1 X.2.1 h1 (asl_at hl hl0) (K H locs ls hP hD hS hl)
def mcat (v : MV) : Nat := match v with
  | .inl x => x.category
  | .inr _ => 1
theorem tr_cat (G : GG) (v : MV) : (tr G v).category = mcat v := by
  cases v <;> rfl
/-- what stays of the locals when place i gets a value that takes w places -/
def lste (i w : Nat) (x : MV) (n : Nat) (a : Option MV) : Option MV := if n = i then some x else if w = 2 ∧ n = i + 1 then none else match a with
  | none => none
  | some v => if n + 1 = i ∧ mcat v = 2 then none else some v
def lst (i w : Nat) (x : MV) : Nat → List (Option MV) → List (Option MV)
  | _, [] => []
  | n, a :: t => lste i w x n a :: lst i w x (n + 1) t
theorem lst_sub {G : GG} (i w : Nat) (x : MV) : ∀ (n : Nat) (lv : List (Option MV)) (q : Nat × Value), q ∈ asl G n (lst i w x n lv) → (q = (i, tr G x)) ∨ (q ∈ asl G n lv ∧ q.1 ≠ i ∧ ¬ (q.1 + 1 = i ∧ q.2.category = 2) ∧ ¬ (w = 2 ∧ q.1 = i + 1))
  | _, [], q, h => by cases h
  | n, a :: t, q, h => by
    by_cases h1 : n = i
    · have e : lst i w x n (a :: t) = some x :: lst i w x (n + 1) t := by
        show lste i w x n a :: _ = _
        unfold lste
        rw [if_pos h1]
      rw [e] at h
      rcases List.mem_cons.mp h with h2 | h2
      · exact Or.inl (by rw [h2, h1])
      · rcases lst_sub i w x (n + 1) t q h2 with h3 | ⟨h3, h4⟩
        · exact Or.inl h3
        · refine Or.inr ⟨?_, h4⟩
          cases a with
          | none => exact h3
          | some b => exact List.mem_cons_of_mem _ h3
    · by_cases h2 : w = 2 ∧ n = i + 1
      · have e : lst i w x n (a :: t) = none :: lst i w x (n + 1) t := by
          show lste i w x n a :: _ = _
          unfold lste
          rw [if_neg h1, if_pos h2]
        rw [e] at h
        rcases lst_sub i w x (n + 1) t q h with h3 | ⟨h3, h4⟩
        · exact Or.inl h3
        · refine Or.inr ⟨?_, h4⟩
          cases a with
          | none => exact h3
          | some b => exact List.mem_cons_of_mem _ h3
      · cases a with
        | none =>
          have e : lst i w x n (none :: t) = none :: lst i w x (n + 1) t := by rw [lst, lste, if_neg h1, if_neg h2]
          rw [e] at h
          exact lst_sub i w x (n + 1) t q h
        | some b =>
          by_cases h5 : n + 1 = i ∧ mcat b = 2
          · have e : lst i w x n (some b :: t) = none :: lst i w x (n + 1) t := by
              rw [lst, lste, if_neg h1, if_neg h2]; simp only [if_pos h5]
            rw [e] at h
            rcases lst_sub i w x (n + 1) t q h with h3 | ⟨h3, h4⟩
            · exact Or.inl h3
            · exact Or.inr ⟨List.mem_cons_of_mem _ h3, h4⟩
          · have e : lst i w x n (some b :: t) = some b :: lst i w x (n + 1) t := by
              rw [lst, lste, if_neg h1, if_neg h2]; simp only [if_neg h5]
            rw [e] at h
            rcases List.mem_cons.mp h with h6 | h6
            · subst h6
              exact Or.inr ⟨List.mem_cons_self, h1, fun z => h5 ⟨z.1, by rw [← tr_cat G]; exact z.2⟩, fun z => h2 z⟩
            · rcases lst_sub i w x (n + 1) t q h6 with h3 | ⟨h3, h4⟩
              · exact Or.inl h3
              · exact Or.inr ⟨List.mem_cons_of_mem _ h3, h4⟩
theorem lst1 {G : GG} {ls : Array Slot} {i : Nat} {x : MV} {lv lv' : List (Option MV)} (he : lst i 1 x 0 lv = lv') (h : lv_has ls nL ((i, tr G x) :: (asl G 0 lv).filter (fun q => !(q.1 == i) && !(q.1 + 1 == i && q.2.category == 2)))) : lv_has ls nL (asl G 0 lv') := by
  subst he
  refine ⟨h.1, h.2.1, fun q hq => ?_⟩
  rcases lst_sub i 1 x 0 lv q hq with h1 | ⟨h1, h2, h3, -⟩
  · exact h.2.2 q (by rw [h1]; exact List.mem_cons_self)
  · refine h.2.2 q (List.mem_cons_of_mem _ (List.mem_filter.mpr ⟨h1, ?_⟩))
    have h3' : ¬ (q.1 + 1 = i ∧ q.2.category = 2) := h3
    by_cases ha : q.1 + 1 = i <;> by_cases hb : q.2.category = 2 <;> simp_all
theorem lst2 {G : GG} {ls : Array Slot} {i : Nat} {x : MV} {lv lv' : List (Option MV)} (he : lst i 2 x 0 lv = lv') (h : lv_has ls nL ((i, tr G x) :: (asl G 0 lv).filter (fun q => !(q.1 == i) && (!(q.1 == i + 1) && !(q.1 + 1 == i && q.2.category == 2))))) : lv_has ls nL (asl G 0 lv') := by
  subst he
  refine ⟨h.1, h.2.1, fun q hq => ?_⟩
  rcases lst_sub i 2 x 0 lv q hq with h1 | ⟨h1, h2, h3, h4⟩
  · exact h.2.2 q (by rw [h1]; exact List.mem_cons_self)
  · refine h.2.2 q (List.mem_cons_of_mem _ (List.mem_filter.mpr ⟨h1, ?_⟩))
    have h5 : ¬ q.1 = i + 1 := fun z => h4 ⟨rfl, z⟩
    by_cases ha : q.1 + 1 = i <;> by_cases hb : q.2.category = 2 <;> simp_all
theorem ws_istore_n (X : CX p s m args meth c G A cc own nL ret) {i : Nat} {k : Fin 4} {x : Int32} {lv' : List (Option MV)} (hdg : DC cc pc (.istore_n k) 1 nxt) (hi : (k : Nat) = i) (hn : i < nL) (hlv : lst i 1 (.inl (.int x)) 0 lv = lv') (K : WS p l e R s m args below meth c G A nL cells slots Q nxt lv' st S) : WS p l e R s m args below meth c G A nL cells slots Q pc lv (.inl (.int x) :: st) S := by
  obtain ⟨h1, rfl⟩ := hdg
  exact fun H locs ls hP hD hS hl => lv_istore_n X.1 X.2.1 h1 hi hl hn rfl (fun ls2 hl2 => K H locs ls2 hP hD hS (lst1 (x := .inl (.int x)) hlv hl2))
theorem ws_istore (X : CX p s m args meth c G A cc own nL ret) {i : Nat} {x : Int32} {lv' : List (Option MV)} (hdg : DC cc pc (.istore i) 2 nxt) (hn : i < nL) (hlv : lst i 1 (.inl (.int x)) 0 lv = lv') (K : WS p l e R s m args below meth c G A nL cells slots Q nxt lv' st S) : WS p l e R s m args below meth c G A nL cells slots Q pc lv (.inl (.int x) :: st) S := by
  obtain ⟨h1, rfl⟩ := hdg
  exact fun H locs ls hP hD hS hl => lv_istore X.1 X.2.1 h1 hl hn rfl (fun ls2 hl2 => K H locs ls2 hP hD hS (lst1 (x := .inl (.int x)) hlv hl2))
theorem ws_lstore_n (X : CX p s m args meth c G A cc own nL ret) {i : Nat} {k : Fin 4} {x : Int64} {lv' : List (Option MV)} (hdg : DC cc pc (.lstore_n k) 1 nxt) (hi : (k : Nat) = i) (hn : i + 1 < nL) (hlv : lst i 2 (.inl (.long x)) 0 lv = lv') (K : WS p l e R s m args below meth c G A nL cells slots Q nxt lv' st S) : WS p l e R s m args below meth c G A nL cells slots Q pc lv (.inl (.long x) :: st) S := by
  obtain ⟨h1, rfl⟩ := hdg
  exact fun H locs ls hP hD hS hl => lv_lstore_n X.1 X.2.1 h1 hi hl hn rfl (fun ls2 hl2 => K H locs ls2 hP hD hS (lst2 (x := .inl (.long x)) hlv hl2))
theorem ws_lstore (X : CX p s m args meth c G A cc own nL ret) {i : Nat} {x : Int64} {lv' : List (Option MV)} (hdg : DC cc pc (.lstore i) 2 nxt) (hn : i + 1 < nL) (hlv : lst i 2 (.inl (.long x)) 0 lv = lv') (K : WS p l e R s m args below meth c G A nL cells slots Q nxt lv' st S) : WS p l e R s m args below meth c G A nL cells slots Q pc lv (.inl (.long x) :: st) S := by
  obtain ⟨h1, rfl⟩ := hdg
  exact fun H locs ls hP hD hS hl => lv_lstore X.1 X.2.1 h1 hl hn rfl (fun ls2 hl2 => K H locs ls2 hP hD hS (lst2 (x := .inl (.long x)) hlv hl2))
theorem ws_dstore_n (X : CX p s m args meth c G A cc own nL ret) {i : Nat} {k : Fin 4} {x : UInt64} {lv' : List (Option MV)} (hdg : DC cc pc (.dstore_n k) 1 nxt) (hi : (k : Nat) = i) (hn : i + 1 < nL) (hlv : lst i 2 (.inl (.double x)) 0 lv = lv') (K : WS p l e R s m args below meth c G A nL cells slots Q nxt lv' st S) : WS p l e R s m args below meth c G A nL cells slots Q pc lv (.inl (.double x) :: st) S := by
  obtain ⟨h1, rfl⟩ := hdg
  exact fun H locs ls hP hD hS hl => lv_dstore_n X.1 X.2.1 h1 hi hl hn rfl (fun ls2 hl2 => K H locs ls2 hP hD hS (lst2 (x := .inl (.double x)) hlv hl2))
theorem ws_dstore (X : CX p s m args meth c G A cc own nL ret) {i : Nat} {x : UInt64} {lv' : List (Option MV)} (hdg : DC cc pc (.dstore i) 2 nxt) (hn : i + 1 < nL) (hlv : lst i 2 (.inl (.double x)) 0 lv = lv') (K : WS p l e R s m args below meth c G A nL cells slots Q nxt lv' st S) : WS p l e R s m args below meth c G A nL cells slots Q pc lv (.inl (.double x) :: st) S := by
  obtain ⟨h1, rfl⟩ := hdg
  exact fun H locs ls hP hD hS hl => lv_dstore X.1 X.2.1 h1 hl hn rfl (fun ls2 hl2 => K H locs ls2 hP hD hS (lst2 (x := .inl (.double x)) hlv hl2))
theorem ws_astore_n (X : CX p s m args meth c G A cc own nL ret) {i : Nat} {k : Fin 4} {x : Nat × Nat} {lv' : List (Option MV)} (hdg : DC cc pc (.astore_n k) 1 nxt) (hi : (k : Nat) = i) (hn : i < nL) (hlv : lst i 1 (.inr x) 0 lv = lv') (K : WS p l e R s m args below meth c G A nL cells slots Q nxt lv' st S) : WS p l e R s m args below meth c G A nL cells slots Q pc lv (.inr x :: st) S := by
  obtain ⟨h1, rfl⟩ := hdg
  exact fun H locs ls hP hD hS hl => lv_astore_n X.1 X.2.1 h1 hi hl hn rfl (fun ls2 hl2 => K H locs ls2 hP hD hS (lst1 (x := .inr x) hlv hl2))
theorem ws_astore (X : CX p s m args meth c G A cc own nL ret) {i : Nat} {x : Nat × Nat} {lv' : List (Option MV)} (hdg : DC cc pc (.astore i) 2 nxt) (hn : i < nL) (hlv : lst i 1 (.inr x) 0 lv = lv') (K : WS p l e R s m args below meth c G A nL cells slots Q nxt lv' st S) : WS p l e R s m args below meth c G A nL cells slots Q pc lv (.inr x :: st) S := by
  obtain ⟨h1, rfl⟩ := hdg
  exact fun H locs ls hP hD hS hl => lv_astore X.1 X.2.1 h1 hl hn rfl (fun ls2 hl2 => K H locs ls2 hP hD hS (lst1 (x := .inr x) hlv hl2))
theorem ws_aNstore_n (X : CX p s m args meth c G A cc own nL ret) {i : Nat} {k : Fin 4} {lv' : List (Option MV)} (hdg : DC cc pc (.astore_n k) 1 nxt) (hi : (k : Nat) = i) (hn : i < nL) (hlv : lst i 1 (.inl .null) 0 lv = lv') (K : WS p l e R s m args below meth c G A nL cells slots Q nxt lv' st S) : WS p l e R s m args below meth c G A nL cells slots Q pc lv (.inl .null :: st) S := by
  obtain ⟨h1, rfl⟩ := hdg
  exact fun H locs ls hP hD hS hl => lv_astore_nN X.1 X.2.1 h1 hi hl hn rfl (fun ls2 hl2 => K H locs ls2 hP hD hS (lst1 (x := .inl .null) hlv hl2))
theorem ws_aNstore (X : CX p s m args meth c G A cc own nL ret) {i : Nat} {lv' : List (Option MV)} (hdg : DC cc pc (.astore i) 2 nxt) (hn : i < nL) (hlv : lst i 1 (.inl .null) 0 lv = lv') (K : WS p l e R s m args below meth c G A nL cells slots Q nxt lv' st S) : WS p l e R s m args below meth c G A nL cells slots Q pc lv (.inl .null :: st) S := by
  obtain ⟨h1, rfl⟩ := hdg
  exact fun H locs ls hP hD hS hl => lv_astoreN X.1 X.2.1 h1 hl hn rfl (fun ls2 hl2 => K H locs ls2 hP hD hS (lst1 (x := .inl .null) hlv hl2))
theorem asl_idx {G : GG} {i : Nat} {lv : List (Option MV)} {v : MV} (h : lget i lv = some v) : ∃ k : Nat, (asl G 0 lv)[k]? = some (i, tr G v) := by
  have h2 := asl_get (G := G) i 0 lv v h
  rw [Nat.zero_add] at h2
  exact List.getElem?_of_mem h2
theorem ws_iinc (X : CX p s m args meth c G A cc own nL ret) {i : Nat} {n : Int} {x v : Int32} {lv' : List (Option MV)} (hdg : DC cc pc (.iinc i n) 3 nxt) (hl0 : lget i lv = some (.inl (.int x))) (hv : x + Int32.ofInt n = v) (hn : i < nL) (hlv : lst i 1 (.inl (.int v)) 0 lv = lv') (K : WS p l e R s m args below meth c G A nL cells slots Q nxt lv' st S) : WS p l e R s m args below meth c G A nL cells slots Q pc lv st S := by
  obtain ⟨h1, rfl⟩ := hdg
  obtain ⟨k, hk⟩ := asl_idx (G := G) hl0
  exact fun H locs ls hP hD hS hl => lv_iinc X.1 X.2.1 h1 hl hk hv hn rfl (fun ls2 hl2 => K H locs ls2 hP hD hS (lst1 (x := .inl (.int v)) hlv hl2))
theorem ws_iadd (X : CX p s m args meth c G A cc own nL ret) {x y : Int32} (hdg : DC cc pc (.iadd) 1 nxt) (K : WS p l e R s m args below meth c G A nL cells slots Q nxt lv (.inl (.int (x + y)) :: st) S) : WS p l e R s m args below meth c G A nL cells slots Q pc lv (.inl (.int y) :: .inl (.int x) :: st) S := by
  obtain ⟨h1, rfl⟩ := hdg
  exact fun H locs ls hP hD hS hl => lv_iadd X.1 X.2.1 h1 (K H locs ls hP hD hS hl)
theorem ws_isub (X : CX p s m args meth c G A cc own nL ret) {x y : Int32} (hdg : DC cc pc (.isub) 1 nxt) (K : WS p l e R s m args below meth c G A nL cells slots Q nxt lv (.inl (.int (x - y)) :: st) S) : WS p l e R s m args below meth c G A nL cells slots Q pc lv (.inl (.int y) :: .inl (.int x) :: st) S := by
  obtain ⟨h1, rfl⟩ := hdg
  exact fun H locs ls hP hD hS hl => lv_isub X.1 X.2.1 h1 (K H locs ls hP hD hS hl)
theorem ws_imul (X : CX p s m args meth c G A cc own nL ret) {x y : Int32} (hdg : DC cc pc (.imul) 1 nxt) (K : WS p l e R s m args below meth c G A nL cells slots Q nxt lv (.inl (.int (x * y)) :: st) S) : WS p l e R s m args below meth c G A nL cells slots Q pc lv (.inl (.int y) :: .inl (.int x) :: st) S := by
  obtain ⟨h1, rfl⟩ := hdg
  exact fun H locs ls hP hD hS hl => lv_imul X.1 X.2.1 h1 (K H locs ls hP hD hS hl)
theorem ws_iand (X : CX p s m args meth c G A cc own nL ret) {x y : Int32} (hdg : DC cc pc (.iand) 1 nxt) (K : WS p l e R s m args below meth c G A nL cells slots Q nxt lv (.inl (.int (x &&& y)) :: st) S) : WS p l e R s m args below meth c G A nL cells slots Q pc lv (.inl (.int y) :: .inl (.int x) :: st) S := by
  obtain ⟨h1, rfl⟩ := hdg
  exact fun H locs ls hP hD hS hl => lv_iand X.1 X.2.1 h1 (K H locs ls hP hD hS hl)
theorem ws_ior (X : CX p s m args meth c G A cc own nL ret) {x y : Int32} (hdg : DC cc pc (.ior) 1 nxt) (K : WS p l e R s m args below meth c G A nL cells slots Q nxt lv (.inl (.int (x ||| y)) :: st) S) : WS p l e R s m args below meth c G A nL cells slots Q pc lv (.inl (.int y) :: .inl (.int x) :: st) S := by
  obtain ⟨h1, rfl⟩ := hdg
  exact fun H locs ls hP hD hS hl => lv_ior X.1 X.2.1 h1 (K H locs ls hP hD hS hl)
theorem ws_ixor (X : CX p s m args meth c G A cc own nL ret) {x y : Int32} (hdg : DC cc pc (.ixor) 1 nxt) (K : WS p l e R s m args below meth c G A nL cells slots Q nxt lv (.inl (.int (x ^^^ y)) :: st) S) : WS p l e R s m args below meth c G A nL cells slots Q pc lv (.inl (.int y) :: .inl (.int x) :: st) S := by
  obtain ⟨h1, rfl⟩ := hdg
  exact fun H locs ls hP hD hS hl => lv_ixor X.1 X.2.1 h1 (K H locs ls hP hD hS hl)
theorem ws_ladd (X : CX p s m args meth c G A cc own nL ret) {x y : Int64} (hdg : DC cc pc (.ladd) 1 nxt) (K : WS p l e R s m args below meth c G A nL cells slots Q nxt lv (.inl (.long (x + y)) :: st) S) : WS p l e R s m args below meth c G A nL cells slots Q pc lv (.inl (.long y) :: .inl (.long x) :: st) S := by
  obtain ⟨h1, rfl⟩ := hdg
  exact fun H locs ls hP hD hS hl => lv_ladd X.1 X.2.1 h1 (K H locs ls hP hD hS hl)
theorem ws_lsub (X : CX p s m args meth c G A cc own nL ret) {x y : Int64} (hdg : DC cc pc (.lsub) 1 nxt) (K : WS p l e R s m args below meth c G A nL cells slots Q nxt lv (.inl (.long (x - y)) :: st) S) : WS p l e R s m args below meth c G A nL cells slots Q pc lv (.inl (.long y) :: .inl (.long x) :: st) S := by
  obtain ⟨h1, rfl⟩ := hdg
  exact fun H locs ls hP hD hS hl => lv_lsub X.1 X.2.1 h1 (K H locs ls hP hD hS hl)
theorem ws_lmul (X : CX p s m args meth c G A cc own nL ret) {x y : Int64} (hdg : DC cc pc (.lmul) 1 nxt) (K : WS p l e R s m args below meth c G A nL cells slots Q nxt lv (.inl (.long (x * y)) :: st) S) : WS p l e R s m args below meth c G A nL cells slots Q pc lv (.inl (.long y) :: .inl (.long x) :: st) S := by
  obtain ⟨h1, rfl⟩ := hdg
  exact fun H locs ls hP hD hS hl => lv_lmul X.1 X.2.1 h1 (K H locs ls hP hD hS hl)
theorem ws_land (X : CX p s m args meth c G A cc own nL ret) {x y : Int64} (hdg : DC cc pc (.land) 1 nxt) (K : WS p l e R s m args below meth c G A nL cells slots Q nxt lv (.inl (.long (x &&& y)) :: st) S) : WS p l e R s m args below meth c G A nL cells slots Q pc lv (.inl (.long y) :: .inl (.long x) :: st) S := by
  obtain ⟨h1, rfl⟩ := hdg
  exact fun H locs ls hP hD hS hl => lv_land X.1 X.2.1 h1 (K H locs ls hP hD hS hl)
theorem ws_lor (X : CX p s m args meth c G A cc own nL ret) {x y : Int64} (hdg : DC cc pc (.lor) 1 nxt) (K : WS p l e R s m args below meth c G A nL cells slots Q nxt lv (.inl (.long (x ||| y)) :: st) S) : WS p l e R s m args below meth c G A nL cells slots Q pc lv (.inl (.long y) :: .inl (.long x) :: st) S := by
  obtain ⟨h1, rfl⟩ := hdg
  exact fun H locs ls hP hD hS hl => lv_lor X.1 X.2.1 h1 (K H locs ls hP hD hS hl)
theorem ws_lxor (X : CX p s m args meth c G A cc own nL ret) {x y : Int64} (hdg : DC cc pc (.lxor) 1 nxt) (K : WS p l e R s m args below meth c G A nL cells slots Q nxt lv (.inl (.long (x ^^^ y)) :: st) S) : WS p l e R s m args below meth c G A nL cells slots Q pc lv (.inl (.long y) :: .inl (.long x) :: st) S := by
  obtain ⟨h1, rfl⟩ := hdg
  exact fun H locs ls hP hD hS hl => lv_lxor X.1 X.2.1 h1 (K H locs ls hP hD hS hl)
theorem ws_idiv (X : CX p s m args meth c G A cc own nL ret) {x y : Int32} (hdg : DC cc pc (.idiv) 1 nxt) (hne : ¬ y = 0) (K : WS p l e R s m args below meth c G A nL cells slots Q nxt lv (.inl (.int (x / y)) :: st) S) : WS p l e R s m args below meth c G A nL cells slots Q pc lv (.inl (.int y) :: .inl (.int x) :: st) S := by
  obtain ⟨h1, rfl⟩ := hdg
  exact fun H locs ls hP hD hS hl => lv_idiv X.1 X.2.1 h1 hne (K H locs ls hP hD hS hl)
theorem ws_ldiv (X : CX p s m args meth c G A cc own nL ret) {x y : Int64} (hdg : DC cc pc (.ldiv) 1 nxt) (hne : ¬ y = 0) (K : WS p l e R s m args below meth c G A nL cells slots Q nxt lv (.inl (.long (x / y)) :: st) S) : WS p l e R s m args below meth c G A nL cells slots Q pc lv (.inl (.long y) :: .inl (.long x) :: st) S := by
  obtain ⟨h1, rfl⟩ := hdg
  exact fun H locs ls hP hD hS hl => lv_ldiv X.1 X.2.1 h1 hne (K H locs ls hP hD hS hl)
theorem ws_ineg (X : CX p s m args meth c G A cc own nL ret) {x : Int32} (hdg : DC cc pc (.ineg) 1 nxt) (K : WS p l e R s m args below meth c G A nL cells slots Q nxt lv (.inl (.int (-x)) :: st) S) : WS p l e R s m args below meth c G A nL cells slots Q pc lv (.inl (.int x) :: st) S := by
  obtain ⟨h1, rfl⟩ := hdg
  exact fun H locs ls hP hD hS hl => lv_ineg X.1 X.2.1 h1 (K H locs ls hP hD hS hl)
theorem ws_lneg (X : CX p s m args meth c G A cc own nL ret) {x : Int64} (hdg : DC cc pc (.lneg) 1 nxt) (K : WS p l e R s m args below meth c G A nL cells slots Q nxt lv (.inl (.long (-x)) :: st) S) : WS p l e R s m args below meth c G A nL cells slots Q pc lv (.inl (.long x) :: st) S := by
  obtain ⟨h1, rfl⟩ := hdg
  exact fun H locs ls hP hD hS hl => lv_lneg X.1 X.2.1 h1 (K H locs ls hP hD hS hl)
theorem ws_i2l (X : CX p s m args meth c G A cc own nL ret) {x : Int32} (hdg : DC cc pc (.i2l) 1 nxt) (K : WS p l e R s m args below meth c G A nL cells slots Q nxt lv (.inl (.long x.toInt64) :: st) S) : WS p l e R s m args below meth c G A nL cells slots Q pc lv (.inl (.int x) :: st) S := by
  obtain ⟨h1, rfl⟩ := hdg
  exact fun H locs ls hP hD hS hl => lv_i2l X.1 X.2.1 h1 rfl (K H locs ls hP hD hS hl)
theorem ws_l2i (X : CX p s m args meth c G A cc own nL ret) {x : Int64} (hdg : DC cc pc (.l2i) 1 nxt) (K : WS p l e R s m args below meth c G A nL cells slots Q nxt lv (.inl (.int x.toInt32) :: st) S) : WS p l e R s m args below meth c G A nL cells slots Q pc lv (.inl (.long x) :: st) S := by
  obtain ⟨h1, rfl⟩ := hdg
  exact fun H locs ls hP hD hS hl => lv_l2i X.1 X.2.1 h1 rfl (K H locs ls hP hD hS hl)
def shl32 (x y : Int32) : Int32 := x <<< (y &&& 31)
def shr32 (x y : Int32) : Int32 := x >>> (y &&& 31)
def ushr32 (x y : Int32) : Int32 := (x.toUInt32 >>> (y.toUInt32 &&& Int32.toUInt32 31)).toInt32
def shl64 (x : Int64) (y : Int32) : Int64 := x <<< (y.toInt64 &&& 63)
def shr64 (x : Int64) (y : Int32) : Int64 := x >>> (y.toInt64 &&& 63)
def ushr64 (x : Int64) (y : Int32) : Int64 := (x.toUInt64 >>> (y.toInt64.toUInt64 &&& Int64.toUInt64 63)).toInt64
theorem ws_ishl (X : CX p s m args meth c G A cc own nL ret) {x y : Int32} (hdg : DC cc pc (.ishl) 1 nxt) (K : WS p l e R s m args below meth c G A nL cells slots Q nxt lv (.inl (.int (shl32 x y)) :: st) S) : WS p l e R s m args below meth c G A nL cells slots Q pc lv (.inl (.int y) :: .inl (.int x) :: st) S := by
  obtain ⟨h1, rfl⟩ := hdg
  exact fun H locs ls hP hD hS hl => lv_ishl X.1 X.2.1 h1 (K H locs ls hP hD hS hl)
theorem ws_ishr (X : CX p s m args meth c G A cc own nL ret) {x y : Int32} (hdg : DC cc pc (.ishr) 1 nxt) (K : WS p l e R s m args below meth c G A nL cells slots Q nxt lv (.inl (.int (shr32 x y)) :: st) S) : WS p l e R s m args below meth c G A nL cells slots Q pc lv (.inl (.int y) :: .inl (.int x) :: st) S := by
  obtain ⟨h1, rfl⟩ := hdg
  exact fun H locs ls hP hD hS hl => lv_ishr X.1 X.2.1 h1 (K H locs ls hP hD hS hl)
theorem ws_iushr (X : CX p s m args meth c G A cc own nL ret) {x y : Int32} (hdg : DC cc pc (.iushr) 1 nxt) (K : WS p l e R s m args below meth c G A nL cells slots Q nxt lv (.inl (.int (ushr32 x y)) :: st) S) : WS p l e R s m args below meth c G A nL cells slots Q pc lv (.inl (.int y) :: .inl (.int x) :: st) S := by
  obtain ⟨h1, rfl⟩ := hdg
  exact fun H locs ls hP hD hS hl => lv_iushr X.1 X.2.1 h1 rfl (K H locs ls hP hD hS hl)
theorem ws_lshl (X : CX p s m args meth c G A cc own nL ret) {x : Int64} {y : Int32} (hdg : DC cc pc (.lshl) 1 nxt) (K : WS p l e R s m args below meth c G A nL cells slots Q nxt lv (.inl (.long (shl64 x y)) :: st) S) : WS p l e R s m args below meth c G A nL cells slots Q pc lv (.inl (.int y) :: .inl (.long x) :: st) S := by
  obtain ⟨h1, rfl⟩ := hdg
  exact fun H locs ls hP hD hS hl => lv_lshl X.1 X.2.1 h1 rfl (K H locs ls hP hD hS hl)
theorem ws_lshr (X : CX p s m args meth c G A cc own nL ret) {x : Int64} {y : Int32} (hdg : DC cc pc (.lshr) 1 nxt) (K : WS p l e R s m args below meth c G A nL cells slots Q nxt lv (.inl (.long (shr64 x y)) :: st) S) : WS p l e R s m args below meth c G A nL cells slots Q pc lv (.inl (.int y) :: .inl (.long x) :: st) S := by
  obtain ⟨h1, rfl⟩ := hdg
  exact fun H locs ls hP hD hS hl => lv_lshr X.1 X.2.1 h1 rfl (K H locs ls hP hD hS hl)
theorem ws_lushr (X : CX p s m args meth c G A cc own nL ret) {x : Int64} {y : Int32} (hdg : DC cc pc (.lushr) 1 nxt) (K : WS p l e R s m args below meth c G A nL cells slots Q nxt lv (.inl (.long (ushr64 x y)) :: st) S) : WS p l e R s m args below meth c G A nL cells slots Q pc lv (.inl (.int y) :: .inl (.long x) :: st) S := by
  obtain ⟨h1, rfl⟩ := hdg
  exact fun H locs ls hP hD hS hl => lv_lushr X.1 X.2.1 h1 rfl (K H locs ls hP hD hS hl)
theorem ws_lcmp (X : CX p s m args meth c G A cc own nL ret) {x y : Int64} (hdg : DC cc pc (.lcmp) 1 nxt) (K : WS p l e R s m args below meth c G A nL cells slots Q nxt lv (.inl (.int (lg_cmp x y)) :: st) S) : WS p l e R s m args below meth c G A nL cells slots Q pc lv (.inl (.long y) :: .inl (.long x) :: st) S := by
  obtain ⟨h1, rfl⟩ := hdg
  exact fun H locs ls hP hD hS hl => W.lcmp X.1 X.2.1 h1 (K H locs ls hP hD hS hl)
theorem ws_dadd (X : CX p s m args meth c G A cc own nL ret) {x y : UInt64} (hdg : DC cc pc (.dadd) 1 nxt) (hne : vf_n64 (FP.dadd x y)) (K : WS p l e R s m args below meth c G A nL cells slots Q nxt lv (.inl (.double (FP.dadd x y)) :: st) S) : WS p l e R s m args below meth c G A nL cells slots Q pc lv (.inl (.double y) :: .inl (.double x) :: st) S := by
  obtain ⟨h1, rfl⟩ := hdg
  exact fun H locs ls hP hD hS hl => lv_dadd X.1 X.2.1 h1 hne (K H locs ls hP hD hS hl)
theorem ws_dsub (X : CX p s m args meth c G A cc own nL ret) {x y : UInt64} (hdg : DC cc pc (.dsub) 1 nxt) (hne : vf_n64 (FP.dsub x y)) (K : WS p l e R s m args below meth c G A nL cells slots Q nxt lv (.inl (.double (FP.dsub x y)) :: st) S) : WS p l e R s m args below meth c G A nL cells slots Q pc lv (.inl (.double y) :: .inl (.double x) :: st) S := by
  obtain ⟨h1, rfl⟩ := hdg
  exact fun H locs ls hP hD hS hl => lv_dsub X.1 X.2.1 h1 hne (K H locs ls hP hD hS hl)
theorem ws_dmul (X : CX p s m args meth c G A cc own nL ret) {x y : UInt64} (hdg : DC cc pc (.dmul) 1 nxt) (hne : vf_n64 (FP.dmul x y)) (K : WS p l e R s m args below meth c G A nL cells slots Q nxt lv (.inl (.double (FP.dmul x y)) :: st) S) : WS p l e R s m args below meth c G A nL cells slots Q pc lv (.inl (.double y) :: .inl (.double x) :: st) S := by
  obtain ⟨h1, rfl⟩ := hdg
  exact fun H locs ls hP hD hS hl => lv_dmul X.1 X.2.1 h1 hne (K H locs ls hP hD hS hl)
theorem ws_ddiv (X : CX p s m args meth c G A cc own nL ret) {x y : UInt64} (hdg : DC cc pc (.ddiv) 1 nxt) (hne : vf_n64 (FP.ddiv x y)) (K : WS p l e R s m args below meth c G A nL cells slots Q nxt lv (.inl (.double (FP.ddiv x y)) :: st) S) : WS p l e R s m args below meth c G A nL cells slots Q pc lv (.inl (.double y) :: .inl (.double x) :: st) S := by
  obtain ⟨h1, rfl⟩ := hdg
  exact fun H locs ls hP hD hS hl => lv_ddiv X.1 X.2.1 h1 hne (K H locs ls hP hD hS hl)
theorem ws_dcmp (X : CX p s m args meth c G A cc own nL ret) {x y : UInt64} {op : CmpOp} (hdg : DC cc pc (.dcmp op) 1 nxt) (K : WS p l e R s m args below meth c G A nL cells slots Q nxt lv (.inl (.int (Op.cmpValue (FP.dcmp x y) op)) :: st) S) : WS p l e R s m args below meth c G A nL cells slots Q pc lv (.inl (.double y) :: .inl (.double x) :: st) S := by
  obtain ⟨h1, rfl⟩ := hdg
  exact fun H locs ls hP hD hS hl => lv_dcmp X.1 X.2.1 h1 (K H locs ls hP hD hS hl)
theorem ws_i2d (X : CX p s m args meth c G A cc own nL ret) {x : Int32} (hdg : DC cc pc (.i2d) 1 nxt) (K : WS p l e R s m args below meth c G A nL cells slots Q nxt lv (.inl (.double (FP.i2d x)) :: st) S) : WS p l e R s m args below meth c G A nL cells slots Q pc lv (.inl (.int x) :: st) S := by
  obtain ⟨h1, rfl⟩ := hdg
  exact fun H locs ls hP hD hS hl => lv_i2d X.1 X.2.1 h1 (K H locs ls hP hD hS hl)
theorem ws_l2d (X : CX p s m args meth c G A cc own nL ret) {x : Int64} (hdg : DC cc pc (.l2d) 1 nxt) (K : WS p l e R s m args below meth c G A nL cells slots Q nxt lv (.inl (.double (FP.l2d x)) :: st) S) : WS p l e R s m args below meth c G A nL cells slots Q pc lv (.inl (.long x) :: st) S := by
  obtain ⟨h1, rfl⟩ := hdg
  exact fun H locs ls hP hD hS hl => lv_l2d X.1 X.2.1 h1 (K H locs ls hP hD hS hl)
theorem ws_d2i (X : CX p s m args meth c G A cc own nL ret) {x : UInt64} (hdg : DC cc pc (.d2i) 1 nxt) (K : WS p l e R s m args below meth c G A nL cells slots Q nxt lv (.inl (.int (FP.d2i x)) :: st) S) : WS p l e R s m args below meth c G A nL cells slots Q pc lv (.inl (.double x) :: st) S := by
  obtain ⟨h1, rfl⟩ := hdg
  exact fun H locs ls hP hD hS hl => lv_d2i X.1 X.2.1 h1 (K H locs ls hP hD hS hl)
theorem ws_d2l (X : CX p s m args meth c G A cc own nL ret) {x : UInt64} (hdg : DC cc pc (.d2l) 1 nxt) (K : WS p l e R s m args below meth c G A nL cells slots Q nxt lv (.inl (.long (FP.d2l x)) :: st) S) : WS p l e R s m args below meth c G A nL cells slots Q pc lv (.inl (.double x) :: st) S := by
  obtain ⟨h1, rfl⟩ := hdg
  exact fun H locs ls hP hD hS hl => lv_d2l X.1 X.2.1 h1 (K H locs ls hP hD hS hl)
theorem ws_dup (X : CX p s m args meth c G A cc own nL ret) {v : MV} (hdg : DC cc pc (.dup) 1 nxt) (hc : mcat v = 1) (K : WS p l e R s m args below meth c G A nL cells slots Q nxt lv (v :: v :: st) S) : WS p l e R s m args below meth c G A nL cells slots Q pc lv (v :: st) S := by
  obtain ⟨h1, rfl⟩ := hdg
  exact fun H locs ls hP hD hS hl => lv_dup X.1 X.2.1 h1 ((tr_cat G v).trans hc) (K H locs ls hP hD hS hl)
theorem ws_pop (X : CX p s m args meth c G A cc own nL ret) {v : MV} (hdg : DC cc pc (.pop) 1 nxt) (hc : mcat v = 1) (K : WS p l e R s m args below meth c G A nL cells slots Q nxt lv (st) S) : WS p l e R s m args below meth c G A nL cells slots Q pc lv (v :: st) S := by
  obtain ⟨h1, rfl⟩ := hdg
  exact fun H locs ls hP hD hS hl => lv_pop X.1 X.2.1 h1 ((tr_cat G v).trans hc) (K H locs ls hP hD hS hl)
theorem ws_dup2_11 (X : CX p s m args meth c G A cc own nL ret) {v u : MV} (hdg : DC cc pc (.dup2) 1 nxt) (hc : mcat v = 1) (hc2 : mcat u = 1) (K : WS p l e R s m args below meth c G A nL cells slots Q nxt lv (v :: u :: v :: u :: st) S) : WS p l e R s m args below meth c G A nL cells slots Q pc lv (v :: u :: st) S := by
  obtain ⟨h1, rfl⟩ := hdg
  exact fun H locs ls hP hD hS hl => lv_dup2_11 X.1 X.2.1 h1 ((tr_cat G v).trans hc) ((tr_cat G u).trans hc2) (K H locs ls hP hD hS hl)
theorem ws_dup2_2 (X : CX p s m args meth c G A cc own nL ret) {v : MV} (hdg : DC cc pc (.dup2) 1 nxt) (hc : mcat v = 2) (K : WS p l e R s m args below meth c G A nL cells slots Q nxt lv (v :: v :: st) S) : WS p l e R s m args below meth c G A nL cells slots Q pc lv (v :: st) S := by
  obtain ⟨h1, rfl⟩ := hdg
  exact fun H locs ls hP hD hS hl => lv_dup2_2 X.1 X.2.1 h1 ((tr_cat G v).trans hc) (K H locs ls hP hD hS hl)
theorem ws_pop2_2 (X : CX p s m args meth c G A cc own nL ret) {v : MV} (hdg : DC cc pc (.pop2) 1 nxt) (hc : mcat v = 2) (K : WS p l e R s m args below meth c G A nL cells slots Q nxt lv (st) S) : WS p l e R s m args below meth c G A nL cells slots Q pc lv (v :: st) S := by
  obtain ⟨h1, rfl⟩ := hdg
  exact fun H locs ls hP hD hS hl => lv_pop2_2 X.1 X.2.1 h1 ((tr_cat G v).trans hc) (K H locs ls hP hD hS hl)
theorem ws_if_eq (X : CX p s m args meth c G A cc own nL ret) {x : Int32} (hdg : DB cc pc (.ifCond .eq off) off nxt tgt) (Kt : x = 0 → WS p l e R s m args below meth c G A nL cells slots Q tgt lv st S) (Kf : ¬ (x = 0) → WS p l e R s m args below meth c G A nL cells slots Q nxt lv st S) : WS p l e R s m args below meth c G A nL cells slots Q pc lv (.inl (.int x) :: st) S := by
  obtain ⟨h1, rfl, h3⟩ := hdg
  exact fun H locs ls hP hD hS hl => lv_if_eq X.1 X.2.1 h1 h3 (fun h => Kt h H locs ls hP hD hS hl) (fun h => Kf h H locs ls hP hD hS hl)
theorem ws_icmp_eq (X : CX p s m args meth c G A cc own nL ret) {x y : Int32} (hdg : DB cc pc (.if_icmp .eq off) off nxt tgt) (Kt : x = y → WS p l e R s m args below meth c G A nL cells slots Q tgt lv st S) (Kf : ¬ (x = y) → WS p l e R s m args below meth c G A nL cells slots Q nxt lv st S) : WS p l e R s m args below meth c G A nL cells slots Q pc lv (.inl (.int y) :: .inl (.int x) :: st) S := by
  obtain ⟨h1, rfl, h3⟩ := hdg
  exact fun H locs ls hP hD hS hl => lv_icmp_eq X.1 X.2.1 h1 h3 (fun h => Kt h H locs ls hP hD hS hl) (fun h => Kf h H locs ls hP hD hS hl)
theorem ws_if_ne (X : CX p s m args meth c G A cc own nL ret) {x : Int32} (hdg : DB cc pc (.ifCond .ne off) off nxt tgt) (Kt : ¬ x = 0 → WS p l e R s m args below meth c G A nL cells slots Q tgt lv st S) (Kf : x = 0 → WS p l e R s m args below meth c G A nL cells slots Q nxt lv st S) : WS p l e R s m args below meth c G A nL cells slots Q pc lv (.inl (.int x) :: st) S := by
  obtain ⟨h1, rfl, h3⟩ := hdg
  exact fun H locs ls hP hD hS hl => lv_if_ne X.1 X.2.1 h1 h3 (fun h => Kt h H locs ls hP hD hS hl) (fun h => Kf h H locs ls hP hD hS hl)
theorem ws_icmp_ne (X : CX p s m args meth c G A cc own nL ret) {x y : Int32} (hdg : DB cc pc (.if_icmp .ne off) off nxt tgt) (Kt : ¬ x = y → WS p l e R s m args below meth c G A nL cells slots Q tgt lv st S) (Kf : x = y → WS p l e R s m args below meth c G A nL cells slots Q nxt lv st S) : WS p l e R s m args below meth c G A nL cells slots Q pc lv (.inl (.int y) :: .inl (.int x) :: st) S := by
  obtain ⟨h1, rfl, h3⟩ := hdg
  exact fun H locs ls hP hD hS hl => lv_icmp_ne X.1 X.2.1 h1 h3 (fun h => Kt h H locs ls hP hD hS hl) (fun h => Kf h H locs ls hP hD hS hl)
theorem ws_if_lt (X : CX p s m args meth c G A cc own nL ret) {x : Int32} (hdg : DB cc pc (.ifCond .lt off) off nxt tgt) (Kt : x < 0 → WS p l e R s m args below meth c G A nL cells slots Q tgt lv st S) (Kf : ¬ (x < 0) → WS p l e R s m args below meth c G A nL cells slots Q nxt lv st S) : WS p l e R s m args below meth c G A nL cells slots Q pc lv (.inl (.int x) :: st) S := by
  obtain ⟨h1, rfl, h3⟩ := hdg
  exact fun H locs ls hP hD hS hl => lv_if_lt X.1 X.2.1 h1 h3 (fun h => Kt h H locs ls hP hD hS hl) (fun h => Kf h H locs ls hP hD hS hl)
theorem ws_icmp_lt (X : CX p s m args meth c G A cc own nL ret) {x y : Int32} (hdg : DB cc pc (.if_icmp .lt off) off nxt tgt) (Kt : x < y → WS p l e R s m args below meth c G A nL cells slots Q tgt lv st S) (Kf : ¬ (x < y) → WS p l e R s m args below meth c G A nL cells slots Q nxt lv st S) : WS p l e R s m args below meth c G A nL cells slots Q pc lv (.inl (.int y) :: .inl (.int x) :: st) S := by
  obtain ⟨h1, rfl, h3⟩ := hdg
  exact fun H locs ls hP hD hS hl => lv_icmp_lt X.1 X.2.1 h1 h3 (fun h => Kt h H locs ls hP hD hS hl) (fun h => Kf h H locs ls hP hD hS hl)
theorem ws_if_ge (X : CX p s m args meth c G A cc own nL ret) {x : Int32} (hdg : DB cc pc (.ifCond .ge off) off nxt tgt) (Kt : 0 ≤ x → WS p l e R s m args below meth c G A nL cells slots Q tgt lv st S) (Kf : ¬ (0 ≤ x) → WS p l e R s m args below meth c G A nL cells slots Q nxt lv st S) : WS p l e R s m args below meth c G A nL cells slots Q pc lv (.inl (.int x) :: st) S := by
  obtain ⟨h1, rfl, h3⟩ := hdg
  exact fun H locs ls hP hD hS hl => lv_if_ge X.1 X.2.1 h1 h3 (fun h => Kt h H locs ls hP hD hS hl) (fun h => Kf h H locs ls hP hD hS hl)
theorem ws_icmp_ge (X : CX p s m args meth c G A cc own nL ret) {x y : Int32} (hdg : DB cc pc (.if_icmp .ge off) off nxt tgt) (Kt : y ≤ x → WS p l e R s m args below meth c G A nL cells slots Q tgt lv st S) (Kf : ¬ (y ≤ x) → WS p l e R s m args below meth c G A nL cells slots Q nxt lv st S) : WS p l e R s m args below meth c G A nL cells slots Q pc lv (.inl (.int y) :: .inl (.int x) :: st) S := by
  obtain ⟨h1, rfl, h3⟩ := hdg
  exact fun H locs ls hP hD hS hl => lv_icmp_ge X.1 X.2.1 h1 h3 (fun h => Kt h H locs ls hP hD hS hl) (fun h => Kf h H locs ls hP hD hS hl)
theorem ws_if_gt (X : CX p s m args meth c G A cc own nL ret) {x : Int32} (hdg : DB cc pc (.ifCond .gt off) off nxt tgt) (Kt : 0 < x → WS p l e R s m args below meth c G A nL cells slots Q tgt lv st S) (Kf : ¬ (0 < x) → WS p l e R s m args below meth c G A nL cells slots Q nxt lv st S) : WS p l e R s m args below meth c G A nL cells slots Q pc lv (.inl (.int x) :: st) S := by
  obtain ⟨h1, rfl, h3⟩ := hdg
  exact fun H locs ls hP hD hS hl => lv_if_gt X.1 X.2.1 h1 h3 (fun h => Kt h H locs ls hP hD hS hl) (fun h => Kf h H locs ls hP hD hS hl)
theorem ws_icmp_gt (X : CX p s m args meth c G A cc own nL ret) {x y : Int32} (hdg : DB cc pc (.if_icmp .gt off) off nxt tgt) (Kt : y < x → WS p l e R s m args below meth c G A nL cells slots Q tgt lv st S) (Kf : ¬ (y < x) → WS p l e R s m args below meth c G A nL cells slots Q nxt lv st S) : WS p l e R s m args below meth c G A nL cells slots Q pc lv (.inl (.int y) :: .inl (.int x) :: st) S := by
  obtain ⟨h1, rfl, h3⟩ := hdg
  exact fun H locs ls hP hD hS hl => lv_icmp_gt X.1 X.2.1 h1 h3 (fun h => Kt h H locs ls hP hD hS hl) (fun h => Kf h H locs ls hP hD hS hl)
theorem ws_if_le (X : CX p s m args meth c G A cc own nL ret) {x : Int32} (hdg : DB cc pc (.ifCond .le off) off nxt tgt) (Kt : x ≤ 0 → WS p l e R s m args below meth c G A nL cells slots Q tgt lv st S) (Kf : ¬ (x ≤ 0) → WS p l e R s m args below meth c G A nL cells slots Q nxt lv st S) : WS p l e R s m args below meth c G A nL cells slots Q pc lv (.inl (.int x) :: st) S := by
  obtain ⟨h1, rfl, h3⟩ := hdg
  exact fun H locs ls hP hD hS hl => lv_if_le X.1 X.2.1 h1 h3 (fun h => Kt h H locs ls hP hD hS hl) (fun h => Kf h H locs ls hP hD hS hl)
theorem ws_icmp_le (X : CX p s m args meth c G A cc own nL ret) {x y : Int32} (hdg : DB cc pc (.if_icmp .le off) off nxt tgt) (Kt : x ≤ y → WS p l e R s m args below meth c G A nL cells slots Q tgt lv st S) (Kf : ¬ (x ≤ y) → WS p l e R s m args below meth c G A nL cells slots Q nxt lv st S) : WS p l e R s m args below meth c G A nL cells slots Q pc lv (.inl (.int y) :: .inl (.int x) :: st) S := by
  obtain ⟨h1, rfl, h3⟩ := hdg
  exact fun H locs ls hP hD hS hl => lv_icmp_le X.1 X.2.1 h1 h3 (fun h => Kt h H locs ls hP hD hS hl) (fun h => Kf h H locs ls hP hD hS hl)
theorem ws_goto (X : CX p s m args meth c G A cc own nL ret) (hdg : DB cc pc (.goto off) off nxt tgt) (K : WS p l e R s m args below meth c G A nL cells slots Q tgt lv st S) : WS p l e R s m args below meth c G A nL cells slots Q pc lv st S := by
  obtain ⟨h1, rfl, h3⟩ := hdg
  exact fun H locs ls hP hD hS hl => lv_goto X.1 X.2.1 h1 h3 (K H locs ls hP hD hS hl)
theorem ws_ifnull_r (X : CX p s m args meth c G A cc own nL ret) {x : Nat × Nat} (hdg : DB cc pc (.ifnull off) off nxt tgt) (K : WS p l e R s m args below meth c G A nL cells slots Q nxt lv st S) : WS p l e R s m args below meth c G A nL cells slots Q pc lv (.inr x :: st) S := by
  obtain ⟨h1, rfl, h3⟩ := hdg
  exact fun H locs ls hP hD hS hl => lv_ifnull X.1 X.2.1 h1 (K H locs ls hP hD hS hl)
theorem ws_ifnull_n (X : CX p s m args meth c G A cc own nL ret) (hdg : DB cc pc (.ifnull off) off nxt tgt) (K : WS p l e R s m args below meth c G A nL cells slots Q tgt lv st S) : WS p l e R s m args below meth c G A nL cells slots Q pc lv (.inl .null :: st) S := by
  obtain ⟨h1, rfl, h3⟩ := hdg
  exact fun H locs ls hP hD hS hl => lv_ifnullN X.1 X.2.1 h1 h3 (K H locs ls hP hD hS hl)
theorem ws_ifnonnull_r (X : CX p s m args meth c G A cc own nL ret) {x : Nat × Nat} (hdg : DB cc pc (.ifnonnull off) off nxt tgt) (K : WS p l e R s m args below meth c G A nL cells slots Q tgt lv st S) : WS p l e R s m args below meth c G A nL cells slots Q pc lv (.inr x :: st) S := by
  obtain ⟨h1, rfl, h3⟩ := hdg
  exact fun H locs ls hP hD hS hl => lv_ifnonnull X.1 X.2.1 h1 h3 (K H locs ls hP hD hS hl)
theorem ws_ifnonnull_n (X : CX p s m args meth c G A cc own nL ret) (hdg : DB cc pc (.ifnonnull off) off nxt tgt) (K : WS p l e R s m args below meth c G A nL cells slots Q nxt lv st S) : WS p l e R s m args below meth c G A nL cells slots Q pc lv (.inl .null :: st) S := by
  obtain ⟨h1, rfl, h3⟩ := hdg
  exact fun H locs ls hP hD hS hl => lv_ifnonnullN X.1 X.2.1 h1 (K H locs ls hP hD hS hl)
theorem lgc_lt (x y : Int64) : lg_cmp x y < 0 ↔ x < y := by
  unfold lg_cmp
  by_cases h1 : y < x
  · have : ¬ x < y := fun h => absurd (Int64.lt_trans h h1) (Int64.lt_irrefl)
    simp [h1, this]
  · by_cases h2 : x = y
    · subst h2; simp
    · have : x < y := by
        rcases Int64.lt_or_le x y with h | h
        · exact h
        · rcases Int64.lt_or_eq_of_le h with h3 | h3
          · exact absurd h3 h1
          · exact absurd h3.symm h2
      simp [h1, this, h2]
theorem lgc_eq (x y : Int64) : lg_cmp x y = 0 ↔ x = y := by
  unfold lg_cmp
  by_cases h1 : y < x
  · have : ¬ x = y := fun h => absurd (h ▸ h1) (Int64.lt_irrefl)
    simp [h1, this]
  · by_cases h2 : x = y
    · subst h2; simp
    · simp [h1, h2]
theorem lgc_gt (x y : Int64) : 0 < lg_cmp x y ↔ y < x := by
  unfold lg_cmp
  by_cases h1 : y < x
  · simp [h1]
  · by_cases h2 : x = y
    · subst h2; simp
    · simp [h1, h2]
theorem lgc_le (x y : Int64) : lg_cmp x y ≤ 0 ↔ x ≤ y := by
  rw [← Int32.not_lt, lgc_gt, Int64.not_lt]
theorem lgc_ge (x y : Int64) : 0 ≤ lg_cmp x y ↔ y ≤ x := by
  rw [← Int32.not_lt, lgc_lt, Int64.not_lt]
theorem ws_lcmp_eq (X : CX p s m args meth c G A cc own nL ret) {x y : Int64} {mid : Nat} (hd0 : DC cc pc .lcmp 1 mid) (hdg : DB cc mid (.ifCond .eq off) off nxt tgt) (Kt : x = y → WS p l e R s m args below meth c G A nL cells slots Q tgt lv st S) (Kf : ¬ (x = y) → WS p l e R s m args below meth c G A nL cells slots Q nxt lv st S) : WS p l e R s m args below meth c G A nL cells slots Q pc lv (.inl (.long y) :: .inl (.long x) :: st) S := by
  exact ws_lcmp X hd0 (ws_if_eq X hdg (fun h => Kt ((lgc_eq x y).mp h)) (fun h => Kf (fun z => h ((lgc_eq x y).mpr z))))
theorem ws_lcmp_ne (X : CX p s m args meth c G A cc own nL ret) {x y : Int64} {mid : Nat} (hd0 : DC cc pc .lcmp 1 mid) (hdg : DB cc mid (.ifCond .ne off) off nxt tgt) (Kt : ¬ x = y → WS p l e R s m args below meth c G A nL cells slots Q tgt lv st S) (Kf : x = y → WS p l e R s m args below meth c G A nL cells slots Q nxt lv st S) : WS p l e R s m args below meth c G A nL cells slots Q pc lv (.inl (.long y) :: .inl (.long x) :: st) S := by
  exact ws_lcmp X hd0 (ws_if_ne X hdg (fun h => Kt (fun z => h ((lgc_eq x y).mpr z))) (fun h => Kf ((lgc_eq x y).mp h)))
theorem ws_lcmp_lt (X : CX p s m args meth c G A cc own nL ret) {x y : Int64} {mid : Nat} (hd0 : DC cc pc .lcmp 1 mid) (hdg : DB cc mid (.ifCond .lt off) off nxt tgt) (Kt : x < y → WS p l e R s m args below meth c G A nL cells slots Q tgt lv st S) (Kf : ¬ (x < y) → WS p l e R s m args below meth c G A nL cells slots Q nxt lv st S) : WS p l e R s m args below meth c G A nL cells slots Q pc lv (.inl (.long y) :: .inl (.long x) :: st) S := by
  exact ws_lcmp X hd0 (ws_if_lt X hdg (fun h => Kt ((lgc_lt x y).mp h)) (fun h => Kf (fun z => h ((lgc_lt x y).mpr z))))
theorem ws_lcmp_ge (X : CX p s m args meth c G A cc own nL ret) {x y : Int64} {mid : Nat} (hd0 : DC cc pc .lcmp 1 mid) (hdg : DB cc mid (.ifCond .ge off) off nxt tgt) (Kt : y ≤ x → WS p l e R s m args below meth c G A nL cells slots Q tgt lv st S) (Kf : ¬ (y ≤ x) → WS p l e R s m args below meth c G A nL cells slots Q nxt lv st S) : WS p l e R s m args below meth c G A nL cells slots Q pc lv (.inl (.long y) :: .inl (.long x) :: st) S := by
  exact ws_lcmp X hd0 (ws_if_ge X hdg (fun h => Kt ((lgc_ge x y).mp h)) (fun h => Kf (fun z => h ((lgc_ge x y).mpr z))))
theorem ws_lcmp_gt (X : CX p s m args meth c G A cc own nL ret) {x y : Int64} {mid : Nat} (hd0 : DC cc pc .lcmp 1 mid) (hdg : DB cc mid (.ifCond .gt off) off nxt tgt) (Kt : y < x → WS p l e R s m args below meth c G A nL cells slots Q tgt lv st S) (Kf : ¬ (y < x) → WS p l e R s m args below meth c G A nL cells slots Q nxt lv st S) : WS p l e R s m args below meth c G A nL cells slots Q pc lv (.inl (.long y) :: .inl (.long x) :: st) S := by
  exact ws_lcmp X hd0 (ws_if_gt X hdg (fun h => Kt ((lgc_gt x y).mp h)) (fun h => Kf (fun z => h ((lgc_gt x y).mpr z))))
theorem ws_lcmp_le (X : CX p s m args meth c G A cc own nL ret) {x y : Int64} {mid : Nat} (hd0 : DC cc pc .lcmp 1 mid) (hdg : DB cc mid (.ifCond .le off) off nxt tgt) (Kt : x ≤ y → WS p l e R s m args below meth c G A nL cells slots Q tgt lv st S) (Kf : ¬ (x ≤ y) → WS p l e R s m args below meth c G A nL cells slots Q nxt lv st S) : WS p l e R s m args below meth c G A nL cells slots Q pc lv (.inl (.long y) :: .inl (.long x) :: st) S := by
  exact ws_lcmp X hd0 (ws_if_le X hdg (fun h => Kt ((lgc_le x y).mp h)) (fun h => Kf (fun z => h ((lgc_le x y).mpr z))))
def put : Nat → Option MV → List (Option MV) → List (Option MV)
  | 0, v, _ :: t => v :: t
  | n + 1, v, a :: t => a :: put n v t
  | _, _, [] => []
def c1 (a : Option MV) : Bool := match a with
  | none => true
  | some v => decide (¬ mcat v = 2)
theorem lst_far (i w : Nat) (x : MV) : ∀ (lv : List (Option MV)) (n : Nat), i < n → (w = 2 → i + 1 < n) → lst i w x n lv = lv
  | [], _, _, _ => rfl
  | a :: t, n, h, hw => by
    show lste i w x n a :: lst i w x (n + 1) t = a :: t
    rw [lst_far i w x t (n + 1) (by omega) (fun z => by have := hw z; omega)]
    congr 1
    unfold lste
    rw [if_neg (by omega), if_neg (fun z => by have := hw z.1; omega)]
    cases a with
    | none => rfl
    | some v => exact if_neg (fun z => by omega)
theorem lste_id {i w n : Nat} {x : MV} {a : Option MV} (h1 : ¬ n = i) (h2 : ¬ (w = 2 ∧ n = i + 1)) (h3 : n + 1 = i → c1 a = true) : lste i w x n a = a := by
  unfold lste
  rw [if_neg h1, if_neg h2]
  cases a with
  | none => rfl
  | some v => exact if_neg (fun z => by have := h3 z.1; simp [c1] at this; exact this z.2)
theorem lst_put1 (x : MV) : ∀ (j n : Nat) (lv : List (Option MV)), (∀ k, k + 1 = j → ∀ a, lget k lv = some a → ¬ mcat a = 2) → lst (n + j) 1 x n lv = put j (some x) lv
  | 0, n, [], _ => rfl
  | _ + 1, n, [], _ => rfl
  | 0, n, a :: t, _ => by
    show lste (n + 0) 1 x n a :: lst (n + 0) 1 x (n + 1) t = some x :: t
    rw [lst_far (n + 0) 1 x t (n + 1) (by omega) (fun z => by omega)]
    congr 1
    exact if_pos rfl
  | j + 1, n, a :: t, h => by
    show lste (n + (j + 1)) 1 x n a :: lst (n + (j + 1)) 1 x (n + 1) t = a :: put j (some x) t
    rw [show n + (j + 1) = n + 1 + j by omega, lst_put1 x j (n + 1) t (fun k hk b hb => h (k + 1) (by omega) b hb)]
    congr 1
    refine lste_id (by omega) (fun z => by omega) (fun z => ?_)
    cases a with
    | none => rfl
    | some v => simp only [c1, decide_eq_true_eq]; exact h 0 (by omega) v rfl
theorem lst_put2 (x : MV) : ∀ (j n : Nat) (lv : List (Option MV)), (∀ k, k + 1 = j → ∀ a, lget k lv = some a → ¬ mcat a = 2) → lst (n + j) 2 x n lv = put (j + 1) none (put j (some x) lv)
  | 0, n, [], _ => rfl
  | _ + 1, n, [], _ => rfl
  | 0, n, [a], _ => by
    show lste (n + 0) 2 x n a :: [] = some x :: []
    congr 1
    exact if_pos rfl
  | 0, n, a :: b :: t, _ => by
    show lste (n + 0) 2 x n a :: lste (n + 0) 2 x (n + 1) b :: lst (n + 0) 2 x (n + 1 + 1) t = some x :: none :: t
    rw [lst_far (n + 0) 2 x t (n + 1 + 1) (by omega) (fun z => by omega)]
    congr 1
    · exact if_pos rfl
    · congr 1
      unfold lste
      rw [if_neg (by omega), if_pos ⟨rfl, rfl⟩]
  | j + 1, n, a :: t, h => by
    show lste (n + (j + 1)) 2 x n a :: lst (n + (j + 1)) 2 x (n + 1) t = a :: put (j + 1) none (put j (some x) t)
    rw [show n + (j + 1) = n + 1 + j by omega, lst_put2 x j (n + 1) t (fun k hk b hb => h (k + 1) (by omega) b hb)]
    congr 1
    refine lste_id (by omega) (fun z => by omega) (fun z => ?_)
    cases a with
    | none => rfl
    | some v => simp only [c1, decide_eq_true_eq]; exact h 0 (by omega) v rfl
theorem c1_get {j : Nat} {lv : List (Option MV)} {a0 : Option MV} (h : lget j lv = a0) (hc : c1 a0 = true) : ∀ k, k + 1 = j + 1 → ∀ a, lget k lv = some a → ¬ mcat a = 2 := by
  intro k hk a ha
  have : k = j := by omega
  subst this
  rw [h] at ha
  subst ha
  simpa [c1] using hc
theorem ws_istn_0 (X : CX p s m args meth c G A cc own nL ret) {x : Int32} { b : Option MV} {tl : List (Option MV)} (hdg : DC cc pc (.istore_n 0) 1 nxt) (hn : 0 < nL) (K : WS p l e R s m args below meth c G A nL cells slots Q nxt (some (.inl (.int x)) :: tl) st S) : WS p l e R s m args below meth c G A nL cells slots Q pc (b :: tl) (.inl (.int x) :: st) S := ws_istore_n (i := 0) X hdg rfl hn (by have h := lst_put1 (.inl (.int x)) 0 0 (b :: tl) (fun k hk => by omega); rw [Nat.zero_add] at h; exact h) K
theorem ws_ist_0 (X : CX p s m args meth c G A cc own nL ret) {x : Int32} { b : Option MV} {tl : List (Option MV)} (hdg : DC cc pc (.istore 0) 2 nxt) (hn : 0 < nL) (K : WS p l e R s m args below meth c G A nL cells slots Q nxt (some (.inl (.int x)) :: tl) st S) : WS p l e R s m args below meth c G A nL cells slots Q pc (b :: tl) (.inl (.int x) :: st) S := ws_istore (i := 0) X hdg hn (by have h := lst_put1 (.inl (.int x)) 0 0 (b :: tl) (fun k hk => by omega); rw [Nat.zero_add] at h; exact h) K
theorem ws_istn_1 (X : CX p s m args meth c G A cc own nL ret) {x : Int32} {a0 b : Option MV} {tl : List (Option MV)} (hc : c1 a0 = true) (hdg : DC cc pc (.istore_n 1) 1 nxt) (hn : 1 < nL) (K : WS p l e R s m args below meth c G A nL cells slots Q nxt (a0 :: some (.inl (.int x)) :: tl) st S) : WS p l e R s m args below meth c G A nL cells slots Q pc (a0 :: b :: tl) (.inl (.int x) :: st) S := ws_istore_n (i := 1) X hdg rfl hn (by have h := lst_put1 (.inl (.int x)) 1 0 (a0 :: b :: tl) (c1_get (j := 0) (a0 := a0) rfl hc); rw [Nat.zero_add] at h; exact h) K
theorem ws_ist_1 (X : CX p s m args meth c G A cc own nL ret) {x : Int32} {a0 b : Option MV} {tl : List (Option MV)} (hc : c1 a0 = true) (hdg : DC cc pc (.istore 1) 2 nxt) (hn : 1 < nL) (K : WS p l e R s m args below meth c G A nL cells slots Q nxt (a0 :: some (.inl (.int x)) :: tl) st S) : WS p l e R s m args below meth c G A nL cells slots Q pc (a0 :: b :: tl) (.inl (.int x) :: st) S := ws_istore (i := 1) X hdg hn (by have h := lst_put1 (.inl (.int x)) 1 0 (a0 :: b :: tl) (c1_get (j := 0) (a0 := a0) rfl hc); rw [Nat.zero_add] at h; exact h) K
theorem ws_istn_2 (X : CX p s m args meth c G A cc own nL ret) {x : Int32} {a0 a1 b : Option MV} {tl : List (Option MV)} (hc : c1 a1 = true) (hdg : DC cc pc (.istore_n 2) 1 nxt) (hn : 2 < nL) (K : WS p l e R s m args below meth c G A nL cells slots Q nxt (a0 :: a1 :: some (.inl (.int x)) :: tl) st S) : WS p l e R s m args below meth c G A nL cells slots Q pc (a0 :: a1 :: b :: tl) (.inl (.int x) :: st) S := ws_istore_n (i := 2) X hdg rfl hn (by have h := lst_put1 (.inl (.int x)) 2 0 (a0 :: a1 :: b :: tl) (c1_get (j := 1) (a0 := a1) rfl hc); rw [Nat.zero_add] at h; exact h) K
theorem ws_ist_2 (X : CX p s m args meth c G A cc own nL ret) {x : Int32} {a0 a1 b : Option MV} {tl : List (Option MV)} (hc : c1 a1 = true) (hdg : DC cc pc (.istore 2) 2 nxt) (hn : 2 < nL) (K : WS p l e R s m args below meth c G A nL cells slots Q nxt (a0 :: a1 :: some (.inl (.int x)) :: tl) st S) : WS p l e R s m args below meth c G A nL cells slots Q pc (a0 :: a1 :: b :: tl) (.inl (.int x) :: st) S := ws_istore (i := 2) X hdg hn (by have h := lst_put1 (.inl (.int x)) 2 0 (a0 :: a1 :: b :: tl) (c1_get (j := 1) (a0 := a1) rfl hc); rw [Nat.zero_add] at h; exact h) K
theorem ws_istn_3 (X : CX p s m args meth c G A cc own nL ret) {x : Int32} {a0 a1 a2 b : Option MV} {tl : List (Option MV)} (hc : c1 a2 = true) (hdg : DC cc pc (.istore_n 3) 1 nxt) (hn : 3 < nL) (K : WS p l e R s m args below meth c G A nL cells slots Q nxt (a0 :: a1 :: a2 :: some (.inl (.int x)) :: tl) st S) : WS p l e R s m args below meth c G A nL cells slots Q pc (a0 :: a1 :: a2 :: b :: tl) (.inl (.int x) :: st) S := ws_istore_n (i := 3) X hdg rfl hn (by have h := lst_put1 (.inl (.int x)) 3 0 (a0 :: a1 :: a2 :: b :: tl) (c1_get (j := 2) (a0 := a2) rfl hc); rw [Nat.zero_add] at h; exact h) K
theorem ws_ist_3 (X : CX p s m args meth c G A cc own nL ret) {x : Int32} {a0 a1 a2 b : Option MV} {tl : List (Option MV)} (hc : c1 a2 = true) (hdg : DC cc pc (.istore 3) 2 nxt) (hn : 3 < nL) (K : WS p l e R s m args below meth c G A nL cells slots Q nxt (a0 :: a1 :: a2 :: some (.inl (.int x)) :: tl) st S) : WS p l e R s m args below meth c G A nL cells slots Q pc (a0 :: a1 :: a2 :: b :: tl) (.inl (.int x) :: st) S := ws_istore (i := 3) X hdg hn (by have h := lst_put1 (.inl (.int x)) 3 0 (a0 :: a1 :: a2 :: b :: tl) (c1_get (j := 2) (a0 := a2) rfl hc); rw [Nat.zero_add] at h; exact h) K
theorem ws_ist_4 (X : CX p s m args meth c G A cc own nL ret) {x : Int32} {a0 a1 a2 a3 b : Option MV} {tl : List (Option MV)} (hc : c1 a3 = true) (hdg : DC cc pc (.istore 4) 2 nxt) (hn : 4 < nL) (K : WS p l e R s m args below meth c G A nL cells slots Q nxt (a0 :: a1 :: a2 :: a3 :: some (.inl (.int x)) :: tl) st S) : WS p l e R s m args below meth c G A nL cells slots Q pc (a0 :: a1 :: a2 :: a3 :: b :: tl) (.inl (.int x) :: st) S := ws_istore (i := 4) X hdg hn (by have h := lst_put1 (.inl (.int x)) 4 0 (a0 :: a1 :: a2 :: a3 :: b :: tl) (c1_get (j := 3) (a0 := a3) rfl hc); rw [Nat.zero_add] at h; exact h) K
theorem ws_ist_5 (X : CX p s m args meth c G A cc own nL ret) {x : Int32} {a0 a1 a2 a3 a4 b : Option MV} {tl : List (Option MV)} (hc : c1 a4 = true) (hdg : DC cc pc (.istore 5) 2 nxt) (hn : 5 < nL) (K : WS p l e R s m args below meth c G A nL cells slots Q nxt (a0 :: a1 :: a2 :: a3 :: a4 :: some (.inl (.int x)) :: tl) st S) : WS p l e R s m args below meth c G A nL cells slots Q pc (a0 :: a1 :: a2 :: a3 :: a4 :: b :: tl) (.inl (.int x) :: st) S := ws_istore (i := 5) X hdg hn (by have h := lst_put1 (.inl (.int x)) 5 0 (a0 :: a1 :: a2 :: a3 :: a4 :: b :: tl) (c1_get (j := 4) (a0 := a4) rfl hc); rw [Nat.zero_add] at h; exact h) K
theorem ws_ist_6 (X : CX p s m args meth c G A cc own nL ret) {x : Int32} {a0 a1 a2 a3 a4 a5 b : Option MV} {tl : List (Option MV)} (hc : c1 a5 = true) (hdg : DC cc pc (.istore 6) 2 nxt) (hn : 6 < nL) (K : WS p l e R s m args below meth c G A nL cells slots Q nxt (a0 :: a1 :: a2 :: a3 :: a4 :: a5 :: some (.inl (.int x)) :: tl) st S) : WS p l e R s m args below meth c G A nL cells slots Q pc (a0 :: a1 :: a2 :: a3 :: a4 :: a5 :: b :: tl) (.inl (.int x) :: st) S := ws_istore (i := 6) X hdg hn (by have h := lst_put1 (.inl (.int x)) 6 0 (a0 :: a1 :: a2 :: a3 :: a4 :: a5 :: b :: tl) (c1_get (j := 5) (a0 := a5) rfl hc); rw [Nat.zero_add] at h; exact h) K
theorem ws_ist_7 (X : CX p s m args meth c G A cc own nL ret) {x : Int32} {a0 a1 a2 a3 a4 a5 a6 b : Option MV} {tl : List (Option MV)} (hc : c1 a6 = true) (hdg : DC cc pc (.istore 7) 2 nxt) (hn : 7 < nL) (K : WS p l e R s m args below meth c G A nL cells slots Q nxt (a0 :: a1 :: a2 :: a3 :: a4 :: a5 :: a6 :: some (.inl (.int x)) :: tl) st S) : WS p l e R s m args below meth c G A nL cells slots Q pc (a0 :: a1 :: a2 :: a3 :: a4 :: a5 :: a6 :: b :: tl) (.inl (.int x) :: st) S := ws_istore (i := 7) X hdg hn (by have h := lst_put1 (.inl (.int x)) 7 0 (a0 :: a1 :: a2 :: a3 :: a4 :: a5 :: a6 :: b :: tl) (c1_get (j := 6) (a0 := a6) rfl hc); rw [Nat.zero_add] at h; exact h) K
theorem ws_ist_8 (X : CX p s m args meth c G A cc own nL ret) {x : Int32} {a0 a1 a2 a3 a4 a5 a6 a7 b : Option MV} {tl : List (Option MV)} (hc : c1 a7 = true) (hdg : DC cc pc (.istore 8) 2 nxt) (hn : 8 < nL) (K : WS p l e R s m args below meth c G A nL cells slots Q nxt (a0 :: a1 :: a2 :: a3 :: a4 :: a5 :: a6 :: a7 :: some (.inl (.int x)) :: tl) st S) : WS p l e R s m args below meth c G A nL cells slots Q pc (a0 :: a1 :: a2 :: a3 :: a4 :: a5 :: a6 :: a7 :: b :: tl) (.inl (.int x) :: st) S := ws_istore (i := 8) X hdg hn (by have h := lst_put1 (.inl (.int x)) 8 0 (a0 :: a1 :: a2 :: a3 :: a4 :: a5 :: a6 :: a7 :: b :: tl) (c1_get (j := 7) (a0 := a7) rfl hc); rw [Nat.zero_add] at h; exact h) K
theorem ws_ist_9 (X : CX p s m args meth c G A cc own nL ret) {x : Int32} {a0 a1 a2 a3 a4 a5 a6 a7 a8 b : Option MV} {tl : List (Option MV)} (hc : c1 a8 = true) (hdg : DC cc pc (.istore 9) 2 nxt) (hn : 9 < nL) (K : WS p l e R s m args below meth c G A nL cells slots Q nxt (a0 :: a1 :: a2 :: a3 :: a4 :: a5 :: a6 :: a7 :: a8 :: some (.inl (.int x)) :: tl) st S) : WS p l e R s m args below meth c G A nL cells slots Q pc (a0 :: a1 :: a2 :: a3 :: a4 :: a5 :: a6 :: a7 :: a8 :: b :: tl) (.inl (.int x) :: st) S := ws_istore (i := 9) X hdg hn (by have h := lst_put1 (.inl (.int x)) 9 0 (a0 :: a1 :: a2 :: a3 :: a4 :: a5 :: a6 :: a7 :: a8 :: b :: tl) (c1_get (j := 8) (a0 := a8) rfl hc); rw [Nat.zero_add] at h; exact h) K
theorem ws_ist_10 (X : CX p s m args meth c G A cc own nL ret) {x : Int32} {a0 a1 a2 a3 a4 a5 a6 a7 a8 a9 b : Option MV} {tl : List (Option MV)} (hc : c1 a9 = true) (hdg : DC cc pc (.istore 10) 2 nxt) (hn : 10 < nL) (K : WS p l e R s m args below meth c G A nL cells slots Q nxt (a0 :: a1 :: a2 :: a3 :: a4 :: a5 :: a6 :: a7 :: a8 :: a9 :: some (.inl (.int x)) :: tl) st S) : WS p l e R s m args below meth c G A nL cells slots Q pc (a0 :: a1 :: a2 :: a3 :: a4 :: a5 :: a6 :: a7 :: a8 :: a9 :: b :: tl) (.inl (.int x) :: st) S := ws_istore (i := 10) X hdg hn (by have h := lst_put1 (.inl (.int x)) 10 0 (a0 :: a1 :: a2 :: a3 :: a4 :: a5 :: a6 :: a7 :: a8 :: a9 :: b :: tl) (c1_get (j := 9) (a0 := a9) rfl hc); rw [Nat.zero_add] at h; exact h) K
theorem ws_ist_11 (X : CX p s m args meth c G A cc own nL ret) {x : Int32} {a0 a1 a2 a3 a4 a5 a6 a7 a8 a9 a10 b : Option MV} {tl : List (Option MV)} (hc : c1 a10 = true) (hdg : DC cc pc (.istore 11) 2 nxt) (hn : 11 < nL) (K : WS p l e R s m args below meth c G A nL cells slots Q nxt (a0 :: a1 :: a2 :: a3 :: a4 :: a5 :: a6 :: a7 :: a8 :: a9 :: a10 :: some (.inl (.int x)) :: tl) st S) : WS p l e R s m args below meth c G A nL cells slots Q pc (a0 :: a1 :: a2 :: a3 :: a4 :: a5 :: a6 :: a7 :: a8 :: a9 :: a10 :: b :: tl) (.inl (.int x) :: st) S := ws_istore (i := 11) X hdg hn (by have h := lst_put1 (.inl (.int x)) 11 0 (a0 :: a1 :: a2 :: a3 :: a4 :: a5 :: a6 :: a7 :: a8 :: a9 :: a10 :: b :: tl) (c1_get (j := 10) (a0 := a10) rfl hc); rw [Nat.zero_add] at h; exact h) K
theorem ws_ist_12 (X : CX p s m args meth c G A cc own nL ret) {x : Int32} {a0 a1 a2 a3 a4 a5 a6 a7 a8 a9 a10 a11 b : Option MV} {tl : List (Option MV)} (hc : c1 a11 = true) (hdg : DC cc pc (.istore 12) 2 nxt) (hn : 12 < nL) (K : WS p l e R s m args below meth c G A nL cells slots Q nxt (a0 :: a1 :: a2 :: a3 :: a4 :: a5 :: a6 :: a7 :: a8 :: a9 :: a10 :: a11 :: some (.inl (.int x)) :: tl) st S) : WS p l e R s m args below meth c G A nL cells slots Q pc (a0 :: a1 :: a2 :: a3 :: a4 :: a5 :: a6 :: a7 :: a8 :: a9 :: a10 :: a11 :: b :: tl) (.inl (.int x) :: st) S := ws_istore (i := 12) X hdg hn (by have h := lst_put1 (.inl (.int x)) 12 0 (a0 :: a1 :: a2 :: a3 :: a4 :: a5 :: a6 :: a7 :: a8 :: a9 :: a10 :: a11 :: b :: tl) (c1_get (j := 11) (a0 := a11) rfl hc); rw [Nat.zero_add] at h; exact h) K
theorem ws_ist_13 (X : CX p s m args meth c G A cc own nL ret) {x : Int32} {a0 a1 a2 a3 a4 a5 a6 a7 a8 a9 a10 a11 a12 b : Option MV} {tl : List (Option MV)} (hc : c1 a12 = true) (hdg : DC cc pc (.istore 13) 2 nxt) (hn : 13 < nL) (K : WS p l e R s m args below meth c G A nL cells slots Q nxt (a0 :: a1 :: a2 :: a3 :: a4 :: a5 :: a6 :: a7 :: a8 :: a9 :: a10 :: a11 :: a12 :: some (.inl (.int x)) :: tl) st S) : WS p l e R s m args below meth c G A nL cells slots Q pc (a0 :: a1 :: a2 :: a3 :: a4 :: a5 :: a6 :: a7 :: a8 :: a9 :: a10 :: a11 :: a12 :: b :: tl) (.inl (.int x) :: st) S := ws_istore (i := 13) X hdg hn (by have h := lst_put1 (.inl (.int x)) 13 0 (a0 :: a1 :: a2 :: a3 :: a4 :: a5 :: a6 :: a7 :: a8 :: a9 :: a10 :: a11 :: a12 :: b :: tl) (c1_get (j := 12) (a0 := a12) rfl hc); rw [Nat.zero_add] at h; exact h) K
theorem ws_ist_14 (X : CX p s m args meth c G A cc own nL ret) {x : Int32} {a0 a1 a2 a3 a4 a5 a6 a7 a8 a9 a10 a11 a12 a13 b : Option MV} {tl : List (Option MV)} (hc : c1 a13 = true) (hdg : DC cc pc (.istore 14) 2 nxt) (hn : 14 < nL) (K : WS p l e R s m args below meth c G A nL cells slots Q nxt (a0 :: a1 :: a2 :: a3 :: a4 :: a5 :: a6 :: a7 :: a8 :: a9 :: a10 :: a11 :: a12 :: a13 :: some (.inl (.int x)) :: tl) st S) : WS p l e R s m args below meth c G A nL cells slots Q pc (a0 :: a1 :: a2 :: a3 :: a4 :: a5 :: a6 :: a7 :: a8 :: a9 :: a10 :: a11 :: a12 :: a13 :: b :: tl) (.inl (.int x) :: st) S := ws_istore (i := 14) X hdg hn (by have h := lst_put1 (.inl (.int x)) 14 0 (a0 :: a1 :: a2 :: a3 :: a4 :: a5 :: a6 :: a7 :: a8 :: a9 :: a10 :: a11 :: a12 :: a13 :: b :: tl) (c1_get (j := 13) (a0 := a13) rfl hc); rw [Nat.zero_add] at h; exact h) K
theorem ws_ist_15 (X : CX p s m args meth c G A cc own nL ret) {x : Int32} {a0 a1 a2 a3 a4 a5 a6 a7 a8 a9 a10 a11 a12 a13 a14 b : Option MV} {tl : List (Option MV)} (hc : c1 a14 = true) (hdg : DC cc pc (.istore 15) 2 nxt) (hn : 15 < nL) (K : WS p l e R s m args below meth c G A nL cells slots Q nxt (a0 :: a1 :: a2 :: a3 :: a4 :: a5 :: a6 :: a7 :: a8 :: a9 :: a10 :: a11 :: a12 :: a13 :: a14 :: some (.inl (.int x)) :: tl) st S) : WS p l e R s m args below meth c G A nL cells slots Q pc (a0 :: a1 :: a2 :: a3 :: a4 :: a5 :: a6 :: a7 :: a8 :: a9 :: a10 :: a11 :: a12 :: a13 :: a14 :: b :: tl) (.inl (.int x) :: st) S := ws_istore (i := 15) X hdg hn (by have h := lst_put1 (.inl (.int x)) 15 0 (a0 :: a1 :: a2 :: a3 :: a4 :: a5 :: a6 :: a7 :: a8 :: a9 :: a10 :: a11 :: a12 :: a13 :: a14 :: b :: tl) (c1_get (j := 14) (a0 := a14) rfl hc); rw [Nat.zero_add] at h; exact h) K
theorem ws_lstn_0 (X : CX p s m args meth c G A cc own nL ret) {x : Int64} { b b2 : Option MV} {tl : List (Option MV)} (hdg : DC cc pc (.lstore_n 0) 1 nxt) (hn : 1 < nL) (K : WS p l e R s m args below meth c G A nL cells slots Q nxt (some (.inl (.long x)) :: none :: tl) st S) : WS p l e R s m args below meth c G A nL cells slots Q pc (b :: b2 :: tl) (.inl (.long x) :: st) S := ws_lstore_n (i := 0) X hdg rfl hn (by have h := lst_put2 (.inl (.long x)) 0 0 (b :: b2 :: tl) (fun k hk => by omega); rw [Nat.zero_add] at h; exact h) K
theorem ws_lst_0 (X : CX p s m args meth c G A cc own nL ret) {x : Int64} { b b2 : Option MV} {tl : List (Option MV)} (hdg : DC cc pc (.lstore 0) 2 nxt) (hn : 1 < nL) (K : WS p l e R s m args below meth c G A nL cells slots Q nxt (some (.inl (.long x)) :: none :: tl) st S) : WS p l e R s m args below meth c G A nL cells slots Q pc (b :: b2 :: tl) (.inl (.long x) :: st) S := ws_lstore (i := 0) X hdg hn (by have h := lst_put2 (.inl (.long x)) 0 0 (b :: b2 :: tl) (fun k hk => by omega); rw [Nat.zero_add] at h; exact h) K
theorem ws_lstn_1 (X : CX p s m args meth c G A cc own nL ret) {x : Int64} {a0 b b2 : Option MV} {tl : List (Option MV)} (hc : c1 a0 = true) (hdg : DC cc pc (.lstore_n 1) 1 nxt) (hn : 2 < nL) (K : WS p l e R s m args below meth c G A nL cells slots Q nxt (a0 :: some (.inl (.long x)) :: none :: tl) st S) : WS p l e R s m args below meth c G A nL cells slots Q pc (a0 :: b :: b2 :: tl) (.inl (.long x) :: st) S := ws_lstore_n (i := 1) X hdg rfl hn (by have h := lst_put2 (.inl (.long x)) 1 0 (a0 :: b :: b2 :: tl) (c1_get (j := 0) (a0 := a0) rfl hc); rw [Nat.zero_add] at h; exact h) K
theorem ws_lst_1 (X : CX p s m args meth c G A cc own nL ret) {x : Int64} {a0 b b2 : Option MV} {tl : List (Option MV)} (hc : c1 a0 = true) (hdg : DC cc pc (.lstore 1) 2 nxt) (hn : 2 < nL) (K : WS p l e R s m args below meth c G A nL cells slots Q nxt (a0 :: some (.inl (.long x)) :: none :: tl) st S) : WS p l e R s m args below meth c G A nL cells slots Q pc (a0 :: b :: b2 :: tl) (.inl (.long x) :: st) S := ws_lstore (i := 1) X hdg hn (by have h := lst_put2 (.inl (.long x)) 1 0 (a0 :: b :: b2 :: tl) (c1_get (j := 0) (a0 := a0) rfl hc); rw [Nat.zero_add] at h; exact h) K
theorem ws_lstn_2 (X : CX p s m args meth c G A cc own nL ret) {x : Int64} {a0 a1 b b2 : Option MV} {tl : List (Option MV)} (hc : c1 a1 = true) (hdg : DC cc pc (.lstore_n 2) 1 nxt) (hn : 3 < nL) (K : WS p l e R s m args below meth c G A nL cells slots Q nxt (a0 :: a1 :: some (.inl (.long x)) :: none :: tl) st S) : WS p l e R s m args below meth c G A nL cells slots Q pc (a0 :: a1 :: b :: b2 :: tl) (.inl (.long x) :: st) S := ws_lstore_n (i := 2) X hdg rfl hn (by have h := lst_put2 (.inl (.long x)) 2 0 (a0 :: a1 :: b :: b2 :: tl) (c1_get (j := 1) (a0 := a1) rfl hc); rw [Nat.zero_add] at h; exact h) K
theorem ws_lst_2 (X : CX p s m args meth c G A cc own nL ret) {x : Int64} {a0 a1 b b2 : Option MV} {tl : List (Option MV)} (hc : c1 a1 = true) (hdg : DC cc pc (.lstore 2) 2 nxt) (hn : 3 < nL) (K : WS p l e R s m args below meth c G A nL cells slots Q nxt (a0 :: a1 :: some (.inl (.long x)) :: none :: tl) st S) : WS p l e R s m args below meth c G A nL cells slots Q pc (a0 :: a1 :: b :: b2 :: tl) (.inl (.long x) :: st) S := ws_lstore (i := 2) X hdg hn (by have h := lst_put2 (.inl (.long x)) 2 0 (a0 :: a1 :: b :: b2 :: tl) (c1_get (j := 1) (a0 := a1) rfl hc); rw [Nat.zero_add] at h; exact h) K
theorem ws_lstn_3 (X : CX p s m args meth c G A cc own nL ret) {x : Int64} {a0 a1 a2 b b2 : Option MV} {tl : List (Option MV)} (hc : c1 a2 = true) (hdg : DC cc pc (.lstore_n 3) 1 nxt) (hn : 4 < nL) (K : WS p l e R s m args below meth c G A nL cells slots Q nxt (a0 :: a1 :: a2 :: some (.inl (.long x)) :: none :: tl) st S) : WS p l e R s m args below meth c G A nL cells slots Q pc (a0 :: a1 :: a2 :: b :: b2 :: tl) (.inl (.long x) :: st) S := ws_lstore_n (i := 3) X hdg rfl hn (by have h := lst_put2 (.inl (.long x)) 3 0 (a0 :: a1 :: a2 :: b :: b2 :: tl) (c1_get (j := 2) (a0 := a2) rfl hc); rw [Nat.zero_add] at h; exact h) K
theorem ws_lst_3 (X : CX p s m args meth c G A cc own nL ret) {x : Int64} {a0 a1 a2 b b2 : Option MV} {tl : List (Option MV)} (hc : c1 a2 = true) (hdg : DC cc pc (.lstore 3) 2 nxt) (hn : 4 < nL) (K : WS p l e R s m args below meth c G A nL cells slots Q nxt (a0 :: a1 :: a2 :: some (.inl (.long x)) :: none :: tl) st S) : WS p l e R s m args below meth c G A nL cells slots Q pc (a0 :: a1 :: a2 :: b :: b2 :: tl) (.inl (.long x) :: st) S := ws_lstore (i := 3) X hdg hn (by have h := lst_put2 (.inl (.long x)) 3 0 (a0 :: a1 :: a2 :: b :: b2 :: tl) (c1_get (j := 2) (a0 := a2) rfl hc); rw [Nat.zero_add] at h; exact h) K
theorem ws_lst_4 (X : CX p s m args meth c G A cc own nL ret) {x : Int64} {a0 a1 a2 a3 b b2 : Option MV} {tl : List (Option MV)} (hc : c1 a3 = true) (hdg : DC cc pc (.lstore 4) 2 nxt) (hn : 5 < nL) (K : WS p l e R s m args below meth c G A nL cells slots Q nxt (a0 :: a1 :: a2 :: a3 :: some (.inl (.long x)) :: none :: tl) st S) : WS p l e R s m args below meth c G A nL cells slots Q pc (a0 :: a1 :: a2 :: a3 :: b :: b2 :: tl) (.inl (.long x) :: st) S := ws_lstore (i := 4) X hdg hn (by have h := lst_put2 (.inl (.long x)) 4 0 (a0 :: a1 :: a2 :: a3 :: b :: b2 :: tl) (c1_get (j := 3) (a0 := a3) rfl hc); rw [Nat.zero_add] at h; exact h) K
theorem ws_lst_5 (X : CX p s m args meth c G A cc own nL ret) {x : Int64} {a0 a1 a2 a3 a4 b b2 : Option MV} {tl : List (Option MV)} (hc : c1 a4 = true) (hdg : DC cc pc (.lstore 5) 2 nxt) (hn : 6 < nL) (K : WS p l e R s m args below meth c G A nL cells slots Q nxt (a0 :: a1 :: a2 :: a3 :: a4 :: some (.inl (.long x)) :: none :: tl) st S) : WS p l e R s m args below meth c G A nL cells slots Q pc (a0 :: a1 :: a2 :: a3 :: a4 :: b :: b2 :: tl) (.inl (.long x) :: st) S := ws_lstore (i := 5) X hdg hn (by have h := lst_put2 (.inl (.long x)) 5 0 (a0 :: a1 :: a2 :: a3 :: a4 :: b :: b2 :: tl) (c1_get (j := 4) (a0 := a4) rfl hc); rw [Nat.zero_add] at h; exact h) K
theorem ws_lst_6 (X : CX p s m args meth c G A cc own nL ret) {x : Int64} {a0 a1 a2 a3 a4 a5 b b2 : Option MV} {tl : List (Option MV)} (hc : c1 a5 = true) (hdg : DC cc pc (.lstore 6) 2 nxt) (hn : 7 < nL) (K : WS p l e R s m args below meth c G A nL cells slots Q nxt (a0 :: a1 :: a2 :: a3 :: a4 :: a5 :: some (.inl (.long x)) :: none :: tl) st S) : WS p l e R s m args below meth c G A nL cells slots Q pc (a0 :: a1 :: a2 :: a3 :: a4 :: a5 :: b :: b2 :: tl) (.inl (.long x) :: st) S := ws_lstore (i := 6) X hdg hn (by have h := lst_put2 (.inl (.long x)) 6 0 (a0 :: a1 :: a2 :: a3 :: a4 :: a5 :: b :: b2 :: tl) (c1_get (j := 5) (a0 := a5) rfl hc); rw [Nat.zero_add] at h; exact h) K
theorem ws_lst_7 (X : CX p s m args meth c G A cc own nL ret) {x : Int64} {a0 a1 a2 a3 a4 a5 a6 b b2 : Option MV} {tl : List (Option MV)} (hc : c1 a6 = true) (hdg : DC cc pc (.lstore 7) 2 nxt) (hn : 8 < nL) (K : WS p l e R s m args below meth c G A nL cells slots Q nxt (a0 :: a1 :: a2 :: a3 :: a4 :: a5 :: a6 :: some (.inl (.long x)) :: none :: tl) st S) : WS p l e R s m args below meth c G A nL cells slots Q pc (a0 :: a1 :: a2 :: a3 :: a4 :: a5 :: a6 :: b :: b2 :: tl) (.inl (.long x) :: st) S := ws_lstore (i := 7) X hdg hn (by have h := lst_put2 (.inl (.long x)) 7 0 (a0 :: a1 :: a2 :: a3 :: a4 :: a5 :: a6 :: b :: b2 :: tl) (c1_get (j := 6) (a0 := a6) rfl hc); rw [Nat.zero_add] at h; exact h) K
theorem ws_lst_8 (X : CX p s m args meth c G A cc own nL ret) {x : Int64} {a0 a1 a2 a3 a4 a5 a6 a7 b b2 : Option MV} {tl : List (Option MV)} (hc : c1 a7 = true) (hdg : DC cc pc (.lstore 8) 2 nxt) (hn : 9 < nL) (K : WS p l e R s m args below meth c G A nL cells slots Q nxt (a0 :: a1 :: a2 :: a3 :: a4 :: a5 :: a6 :: a7 :: some (.inl (.long x)) :: none :: tl) st S) : WS p l e R s m args below meth c G A nL cells slots Q pc (a0 :: a1 :: a2 :: a3 :: a4 :: a5 :: a6 :: a7 :: b :: b2 :: tl) (.inl (.long x) :: st) S := ws_lstore (i := 8) X hdg hn (by have h := lst_put2 (.inl (.long x)) 8 0 (a0 :: a1 :: a2 :: a3 :: a4 :: a5 :: a6 :: a7 :: b :: b2 :: tl) (c1_get (j := 7) (a0 := a7) rfl hc); rw [Nat.zero_add] at h; exact h) K
theorem ws_lst_9 (X : CX p s m args meth c G A cc own nL ret) {x : Int64} {a0 a1 a2 a3 a4 a5 a6 a7 a8 b b2 : Option MV} {tl : List (Option MV)} (hc : c1 a8 = true) (hdg : DC cc pc (.lstore 9) 2 nxt) (hn : 10 < nL) (K : WS p l e R s m args below meth c G A nL cells slots Q nxt (a0 :: a1 :: a2 :: a3 :: a4 :: a5 :: a6 :: a7 :: a8 :: some (.inl (.long x)) :: none :: tl) st S) : WS p l e R s m args below meth c G A nL cells slots Q pc (a0 :: a1 :: a2 :: a3 :: a4 :: a5 :: a6 :: a7 :: a8 :: b :: b2 :: tl) (.inl (.long x) :: st) S := ws_lstore (i := 9) X hdg hn (by have h := lst_put2 (.inl (.long x)) 9 0 (a0 :: a1 :: a2 :: a3 :: a4 :: a5 :: a6 :: a7 :: a8 :: b :: b2 :: tl) (c1_get (j := 8) (a0 := a8) rfl hc); rw [Nat.zero_add] at h; exact h) K
theorem ws_lst_10 (X : CX p s m args meth c G A cc own nL ret) {x : Int64} {a0 a1 a2 a3 a4 a5 a6 a7 a8 a9 b b2 : Option MV} {tl : List (Option MV)} (hc : c1 a9 = true) (hdg : DC cc pc (.lstore 10) 2 nxt) (hn : 11 < nL) (K : WS p l e R s m args below meth c G A nL cells slots Q nxt (a0 :: a1 :: a2 :: a3 :: a4 :: a5 :: a6 :: a7 :: a8 :: a9 :: some (.inl (.long x)) :: none :: tl) st S) : WS p l e R s m args below meth c G A nL cells slots Q pc (a0 :: a1 :: a2 :: a3 :: a4 :: a5 :: a6 :: a7 :: a8 :: a9 :: b :: b2 :: tl) (.inl (.long x) :: st) S := ws_lstore (i := 10) X hdg hn (by have h := lst_put2 (.inl (.long x)) 10 0 (a0 :: a1 :: a2 :: a3 :: a4 :: a5 :: a6 :: a7 :: a8 :: a9 :: b :: b2 :: tl) (c1_get (j := 9) (a0 := a9) rfl hc); rw [Nat.zero_add] at h; exact h) K
theorem ws_lst_11 (X : CX p s m args meth c G A cc own nL ret) {x : Int64} {a0 a1 a2 a3 a4 a5 a6 a7 a8 a9 a10 b b2 : Option MV} {tl : List (Option MV)} (hc : c1 a10 = true) (hdg : DC cc pc (.lstore 11) 2 nxt) (hn : 12 < nL) (K : WS p l e R s m args below meth c G A nL cells slots Q nxt (a0 :: a1 :: a2 :: a3 :: a4 :: a5 :: a6 :: a7 :: a8 :: a9 :: a10 :: some (.inl (.long x)) :: none :: tl) st S) : WS p l e R s m args below meth c G A nL cells slots Q pc (a0 :: a1 :: a2 :: a3 :: a4 :: a5 :: a6 :: a7 :: a8 :: a9 :: a10 :: b :: b2 :: tl) (.inl (.long x) :: st) S := ws_lstore (i := 11) X hdg hn (by have h := lst_put2 (.inl (.long x)) 11 0 (a0 :: a1 :: a2 :: a3 :: a4 :: a5 :: a6 :: a7 :: a8 :: a9 :: a10 :: b :: b2 :: tl) (c1_get (j := 10) (a0 := a10) rfl hc); rw [Nat.zero_add] at h; exact h) K
theorem ws_lst_12 (X : CX p s m args meth c G A cc own nL ret) {x : Int64} {a0 a1 a2 a3 a4 a5 a6 a7 a8 a9 a10 a11 b b2 : Option MV} {tl : List (Option MV)} (hc : c1 a11 = true) (hdg : DC cc pc (.lstore 12) 2 nxt) (hn : 13 < nL) (K : WS p l e R s m args below meth c G A nL cells slots Q nxt (a0 :: a1 :: a2 :: a3 :: a4 :: a5 :: a6 :: a7 :: a8 :: a9 :: a10 :: a11 :: some (.inl (.long x)) :: none :: tl) st S) : WS p l e R s m args below meth c G A nL cells slots Q pc (a0 :: a1 :: a2 :: a3 :: a4 :: a5 :: a6 :: a7 :: a8 :: a9 :: a10 :: a11 :: b :: b2 :: tl) (.inl (.long x) :: st) S := ws_lstore (i := 12) X hdg hn (by have h := lst_put2 (.inl (.long x)) 12 0 (a0 :: a1 :: a2 :: a3 :: a4 :: a5 :: a6 :: a7 :: a8 :: a9 :: a10 :: a11 :: b :: b2 :: tl) (c1_get (j := 11) (a0 := a11) rfl hc); rw [Nat.zero_add] at h; exact h) K
theorem ws_lst_13 (X : CX p s m args meth c G A cc own nL ret) {x : Int64} {a0 a1 a2 a3 a4 a5 a6 a7 a8 a9 a10 a11 a12 b b2 : Option MV} {tl : List (Option MV)} (hc : c1 a12 = true) (hdg : DC cc pc (.lstore 13) 2 nxt) (hn : 14 < nL) (K : WS p l e R s m args below meth c G A nL cells slots Q nxt (a0 :: a1 :: a2 :: a3 :: a4 :: a5 :: a6 :: a7 :: a8 :: a9 :: a10 :: a11 :: a12 :: some (.inl (.long x)) :: none :: tl) st S) : WS p l e R s m args below meth c G A nL cells slots Q pc (a0 :: a1 :: a2 :: a3 :: a4 :: a5 :: a6 :: a7 :: a8 :: a9 :: a10 :: a11 :: a12 :: b :: b2 :: tl) (.inl (.long x) :: st) S := ws_lstore (i := 13) X hdg hn (by have h := lst_put2 (.inl (.long x)) 13 0 (a0 :: a1 :: a2 :: a3 :: a4 :: a5 :: a6 :: a7 :: a8 :: a9 :: a10 :: a11 :: a12 :: b :: b2 :: tl) (c1_get (j := 12) (a0 := a12) rfl hc); rw [Nat.zero_add] at h; exact h) K
theorem ws_lst_14 (X : CX p s m args meth c G A cc own nL ret) {x : Int64} {a0 a1 a2 a3 a4 a5 a6 a7 a8 a9 a10 a11 a12 a13 b b2 : Option MV} {tl : List (Option MV)} (hc : c1 a13 = true) (hdg : DC cc pc (.lstore 14) 2 nxt) (hn : 15 < nL) (K : WS p l e R s m args below meth c G A nL cells slots Q nxt (a0 :: a1 :: a2 :: a3 :: a4 :: a5 :: a6 :: a7 :: a8 :: a9 :: a10 :: a11 :: a12 :: a13 :: some (.inl (.long x)) :: none :: tl) st S) : WS p l e R s m args below meth c G A nL cells slots Q pc (a0 :: a1 :: a2 :: a3 :: a4 :: a5 :: a6 :: a7 :: a8 :: a9 :: a10 :: a11 :: a12 :: a13 :: b :: b2 :: tl) (.inl (.long x) :: st) S := ws_lstore (i := 14) X hdg hn (by have h := lst_put2 (.inl (.long x)) 14 0 (a0 :: a1 :: a2 :: a3 :: a4 :: a5 :: a6 :: a7 :: a8 :: a9 :: a10 :: a11 :: a12 :: a13 :: b :: b2 :: tl) (c1_get (j := 13) (a0 := a13) rfl hc); rw [Nat.zero_add] at h; exact h) K
theorem ws_lst_15 (X : CX p s m args meth c G A cc own nL ret) {x : Int64} {a0 a1 a2 a3 a4 a5 a6 a7 a8 a9 a10 a11 a12 a13 a14 b b2 : Option MV} {tl : List (Option MV)} (hc : c1 a14 = true) (hdg : DC cc pc (.lstore 15) 2 nxt) (hn : 16 < nL) (K : WS p l e R s m args below meth c G A nL cells slots Q nxt (a0 :: a1 :: a2 :: a3 :: a4 :: a5 :: a6 :: a7 :: a8 :: a9 :: a10 :: a11 :: a12 :: a13 :: a14 :: some (.inl (.long x)) :: none :: tl) st S) : WS p l e R s m args below meth c G A nL cells slots Q pc (a0 :: a1 :: a2 :: a3 :: a4 :: a5 :: a6 :: a7 :: a8 :: a9 :: a10 :: a11 :: a12 :: a13 :: a14 :: b :: b2 :: tl) (.inl (.long x) :: st) S := ws_lstore (i := 15) X hdg hn (by have h := lst_put2 (.inl (.long x)) 15 0 (a0 :: a1 :: a2 :: a3 :: a4 :: a5 :: a6 :: a7 :: a8 :: a9 :: a10 :: a11 :: a12 :: a13 :: a14 :: b :: b2 :: tl) (c1_get (j := 14) (a0 := a14) rfl hc); rw [Nat.zero_add] at h; exact h) K
theorem ws_dstn_0 (X : CX p s m args meth c G A cc own nL ret) {x : UInt64} { b b2 : Option MV} {tl : List (Option MV)} (hdg : DC cc pc (.dstore_n 0) 1 nxt) (hn : 1 < nL) (K : WS p l e R s m args below meth c G A nL cells slots Q nxt (some (.inl (.double x)) :: none :: tl) st S) : WS p l e R s m args below meth c G A nL cells slots Q pc (b :: b2 :: tl) (.inl (.double x) :: st) S := ws_dstore_n (i := 0) X hdg rfl hn (by have h := lst_put2 (.inl (.double x)) 0 0 (b :: b2 :: tl) (fun k hk => by omega); rw [Nat.zero_add] at h; exact h) K
theorem ws_dst_0 (X : CX p s m args meth c G A cc own nL ret) {x : UInt64} { b b2 : Option MV} {tl : List (Option MV)} (hdg : DC cc pc (.dstore 0) 2 nxt) (hn : 1 < nL) (K : WS p l e R s m args below meth c G A nL cells slots Q nxt (some (.inl (.double x)) :: none :: tl) st S) : WS p l e R s m args below meth c G A nL cells slots Q pc (b :: b2 :: tl) (.inl (.double x) :: st) S := ws_dstore (i := 0) X hdg hn (by have h := lst_put2 (.inl (.double x)) 0 0 (b :: b2 :: tl) (fun k hk => by omega); rw [Nat.zero_add] at h; exact h) K
theorem ws_dstn_1 (X : CX p s m args meth c G A cc own nL ret) {x : UInt64} {a0 b b2 : Option MV} {tl : List (Option MV)} (hc : c1 a0 = true) (hdg : DC cc pc (.dstore_n 1) 1 nxt) (hn : 2 < nL) (K : WS p l e R s m args below meth c G A nL cells slots Q nxt (a0 :: some (.inl (.double x)) :: none :: tl) st S) : WS p l e R s m args below meth c G A nL cells slots Q pc (a0 :: b :: b2 :: tl) (.inl (.double x) :: st) S := ws_dstore_n (i := 1) X hdg rfl hn (by have h := lst_put2 (.inl (.double x)) 1 0 (a0 :: b :: b2 :: tl) (c1_get (j := 0) (a0 := a0) rfl hc); rw [Nat.zero_add] at h; exact h) K
theorem ws_dst_1 (X : CX p s m args meth c G A cc own nL ret) {x : UInt64} {a0 b b2 : Option MV} {tl : List (Option MV)} (hc : c1 a0 = true) (hdg : DC cc pc (.dstore 1) 2 nxt) (hn : 2 < nL) (K : WS p l e R s m args below meth c G A nL cells slots Q nxt (a0 :: some (.inl (.double x)) :: none :: tl) st S) : WS p l e R s m args below meth c G A nL cells slots Q pc (a0 :: b :: b2 :: tl) (.inl (.double x) :: st) S := ws_dstore (i := 1) X hdg hn (by have h := lst_put2 (.inl (.double x)) 1 0 (a0 :: b :: b2 :: tl) (c1_get (j := 0) (a0 := a0) rfl hc); rw [Nat.zero_add] at h; exact h) K
theorem ws_dstn_2 (X : CX p s m args meth c G A cc own nL ret) {x : UInt64} {a0 a1 b b2 : Option MV} {tl : List (Option MV)} (hc : c1 a1 = true) (hdg : DC cc pc (.dstore_n 2) 1 nxt) (hn : 3 < nL) (K : WS p l e R s m args below meth c G A nL cells slots Q nxt (a0 :: a1 :: some (.inl (.double x)) :: none :: tl) st S) : WS p l e R s m args below meth c G A nL cells slots Q pc (a0 :: a1 :: b :: b2 :: tl) (.inl (.double x) :: st) S := ws_dstore_n (i := 2) X hdg rfl hn (by have h := lst_put2 (.inl (.double x)) 2 0 (a0 :: a1 :: b :: b2 :: tl) (c1_get (j := 1) (a0 := a1) rfl hc); rw [Nat.zero_add] at h; exact h) K
theorem ws_dst_2 (X : CX p s m args meth c G A cc own nL ret) {x : UInt64} {a0 a1 b b2 : Option MV} {tl : List (Option MV)} (hc : c1 a1 = true) (hdg : DC cc pc (.dstore 2) 2 nxt) (hn : 3 < nL) (K : WS p l e R s m args below meth c G A nL cells slots Q nxt (a0 :: a1 :: some (.inl (.double x)) :: none :: tl) st S) : WS p l e R s m args below meth c G A nL cells slots Q pc (a0 :: a1 :: b :: b2 :: tl) (.inl (.double x) :: st) S := ws_dstore (i := 2) X hdg hn (by have h := lst_put2 (.inl (.double x)) 2 0 (a0 :: a1 :: b :: b2 :: tl) (c1_get (j := 1) (a0 := a1) rfl hc); rw [Nat.zero_add] at h; exact h) K
theorem ws_dstn_3 (X : CX p s m args meth c G A cc own nL ret) {x : UInt64} {a0 a1 a2 b b2 : Option MV} {tl : List (Option MV)} (hc : c1 a2 = true) (hdg : DC cc pc (.dstore_n 3) 1 nxt) (hn : 4 < nL) (K : WS p l e R s m args below meth c G A nL cells slots Q nxt (a0 :: a1 :: a2 :: some (.inl (.double x)) :: none :: tl) st S) : WS p l e R s m args below meth c G A nL cells slots Q pc (a0 :: a1 :: a2 :: b :: b2 :: tl) (.inl (.double x) :: st) S := ws_dstore_n (i := 3) X hdg rfl hn (by have h := lst_put2 (.inl (.double x)) 3 0 (a0 :: a1 :: a2 :: b :: b2 :: tl) (c1_get (j := 2) (a0 := a2) rfl hc); rw [Nat.zero_add] at h; exact h) K
theorem ws_dst_3 (X : CX p s m args meth c G A cc own nL ret) {x : UInt64} {a0 a1 a2 b b2 : Option MV} {tl : List (Option MV)} (hc : c1 a2 = true) (hdg : DC cc pc (.dstore 3) 2 nxt) (hn : 4 < nL) (K : WS p l e R s m args below meth c G A nL cells slots Q nxt (a0 :: a1 :: a2 :: some (.inl (.double x)) :: none :: tl) st S) : WS p l e R s m args below meth c G A nL cells slots Q pc (a0 :: a1 :: a2 :: b :: b2 :: tl) (.inl (.double x) :: st) S := ws_dstore (i := 3) X hdg hn (by have h := lst_put2 (.inl (.double x)) 3 0 (a0 :: a1 :: a2 :: b :: b2 :: tl) (c1_get (j := 2) (a0 := a2) rfl hc); rw [Nat.zero_add] at h; exact h) K
theorem ws_dst_4 (X : CX p s m args meth c G A cc own nL ret) {x : UInt64} {a0 a1 a2 a3 b b2 : Option MV} {tl : List (Option MV)} (hc : c1 a3 = true) (hdg : DC cc pc (.dstore 4) 2 nxt) (hn : 5 < nL) (K : WS p l e R s m args below meth c G A nL cells slots Q nxt (a0 :: a1 :: a2 :: a3 :: some (.inl (.double x)) :: none :: tl) st S) : WS p l e R s m args below meth c G A nL cells slots Q pc (a0 :: a1 :: a2 :: a3 :: b :: b2 :: tl) (.inl (.double x) :: st) S := ws_dstore (i := 4) X hdg hn (by have h := lst_put2 (.inl (.double x)) 4 0 (a0 :: a1 :: a2 :: a3 :: b :: b2 :: tl) (c1_get (j := 3) (a0 := a3) rfl hc); rw [Nat.zero_add] at h; exact h) K
theorem ws_dst_5 (X : CX p s m args meth c G A cc own nL ret) {x : UInt64} {a0 a1 a2 a3 a4 b b2 : Option MV} {tl : List (Option MV)} (hc : c1 a4 = true) (hdg : DC cc pc (.dstore 5) 2 nxt) (hn : 6 < nL) (K : WS p l e R s m args below meth c G A nL cells slots Q nxt (a0 :: a1 :: a2 :: a3 :: a4 :: some (.inl (.double x)) :: none :: tl) st S) : WS p l e R s m args below meth c G A nL cells slots Q pc (a0 :: a1 :: a2 :: a3 :: a4 :: b :: b2 :: tl) (.inl (.double x) :: st) S := ws_dstore (i := 5) X hdg hn (by have h := lst_put2 (.inl (.double x)) 5 0 (a0 :: a1 :: a2 :: a3 :: a4 :: b :: b2 :: tl) (c1_get (j := 4) (a0 := a4) rfl hc); rw [Nat.zero_add] at h; exact h) K
theorem ws_dst_6 (X : CX p s m args meth c G A cc own nL ret) {x : UInt64} {a0 a1 a2 a3 a4 a5 b b2 : Option MV} {tl : List (Option MV)} (hc : c1 a5 = true) (hdg : DC cc pc (.dstore 6) 2 nxt) (hn : 7 < nL) (K : WS p l e R s m args below meth c G A nL cells slots Q nxt (a0 :: a1 :: a2 :: a3 :: a4 :: a5 :: some (.inl (.double x)) :: none :: tl) st S) : WS p l e R s m args below meth c G A nL cells slots Q pc (a0 :: a1 :: a2 :: a3 :: a4 :: a5 :: b :: b2 :: tl) (.inl (.double x) :: st) S := ws_dstore (i := 6) X hdg hn (by have h := lst_put2 (.inl (.double x)) 6 0 (a0 :: a1 :: a2 :: a3 :: a4 :: a5 :: b :: b2 :: tl) (c1_get (j := 5) (a0 := a5) rfl hc); rw [Nat.zero_add] at h; exact h) K
theorem ws_dst_7 (X : CX p s m args meth c G A cc own nL ret) {x : UInt64} {a0 a1 a2 a3 a4 a5 a6 b b2 : Option MV} {tl : List (Option MV)} (hc : c1 a6 = true) (hdg : DC cc pc (.dstore 7) 2 nxt) (hn : 8 < nL) (K : WS p l e R s m args below meth c G A nL cells slots Q nxt (a0 :: a1 :: a2 :: a3 :: a4 :: a5 :: a6 :: some (.inl (.double x)) :: none :: tl) st S) : WS p l e R s m args below meth c G A nL cells slots Q pc (a0 :: a1 :: a2 :: a3 :: a4 :: a5 :: a6 :: b :: b2 :: tl) (.inl (.double x) :: st) S := ws_dstore (i := 7) X hdg hn (by have h := lst_put2 (.inl (.double x)) 7 0 (a0 :: a1 :: a2 :: a3 :: a4 :: a5 :: a6 :: b :: b2 :: tl) (c1_get (j := 6) (a0 := a6) rfl hc); rw [Nat.zero_add] at h; exact h) K
theorem ws_dst_8 (X : CX p s m args meth c G A cc own nL ret) {x : UInt64} {a0 a1 a2 a3 a4 a5 a6 a7 b b2 : Option MV} {tl : List (Option MV)} (hc : c1 a7 = true) (hdg : DC cc pc (.dstore 8) 2 nxt) (hn : 9 < nL) (K : WS p l e R s m args below meth c G A nL cells slots Q nxt (a0 :: a1 :: a2 :: a3 :: a4 :: a5 :: a6 :: a7 :: some (.inl (.double x)) :: none :: tl) st S) : WS p l e R s m args below meth c G A nL cells slots Q pc (a0 :: a1 :: a2 :: a3 :: a4 :: a5 :: a6 :: a7 :: b :: b2 :: tl) (.inl (.double x) :: st) S := ws_dstore (i := 8) X hdg hn (by have h := lst_put2 (.inl (.double x)) 8 0 (a0 :: a1 :: a2 :: a3 :: a4 :: a5 :: a6 :: a7 :: b :: b2 :: tl) (c1_get (j := 7) (a0 := a7) rfl hc); rw [Nat.zero_add] at h; exact h) K
theorem ws_dst_9 (X : CX p s m args meth c G A cc own nL ret) {x : UInt64} {a0 a1 a2 a3 a4 a5 a6 a7 a8 b b2 : Option MV} {tl : List (Option MV)} (hc : c1 a8 = true) (hdg : DC cc pc (.dstore 9) 2 nxt) (hn : 10 < nL) (K : WS p l e R s m args below meth c G A nL cells slots Q nxt (a0 :: a1 :: a2 :: a3 :: a4 :: a5 :: a6 :: a7 :: a8 :: some (.inl (.double x)) :: none :: tl) st S) : WS p l e R s m args below meth c G A nL cells slots Q pc (a0 :: a1 :: a2 :: a3 :: a4 :: a5 :: a6 :: a7 :: a8 :: b :: b2 :: tl) (.inl (.double x) :: st) S := ws_dstore (i := 9) X hdg hn (by have h := lst_put2 (.inl (.double x)) 9 0 (a0 :: a1 :: a2 :: a3 :: a4 :: a5 :: a6 :: a7 :: a8 :: b :: b2 :: tl) (c1_get (j := 8) (a0 := a8) rfl hc); rw [Nat.zero_add] at h; exact h) K
theorem ws_dst_10 (X : CX p s m args meth c G A cc own nL ret) {x : UInt64} {a0 a1 a2 a3 a4 a5 a6 a7 a8 a9 b b2 : Option MV} {tl : List (Option MV)} (hc : c1 a9 = true) (hdg : DC cc pc (.dstore 10) 2 nxt) (hn : 11 < nL) (K : WS p l e R s m args below meth c G A nL cells slots Q nxt (a0 :: a1 :: a2 :: a3 :: a4 :: a5 :: a6 :: a7 :: a8 :: a9 :: some (.inl (.double x)) :: none :: tl) st S) : WS p l e R s m args below meth c G A nL cells slots Q pc (a0 :: a1 :: a2 :: a3 :: a4 :: a5 :: a6 :: a7 :: a8 :: a9 :: b :: b2 :: tl) (.inl (.double x) :: st) S := ws_dstore (i := 10) X hdg hn (by have h := lst_put2 (.inl (.double x)) 10 0 (a0 :: a1 :: a2 :: a3 :: a4 :: a5 :: a6 :: a7 :: a8 :: a9 :: b :: b2 :: tl) (c1_get (j := 9) (a0 := a9) rfl hc); rw [Nat.zero_add] at h; exact h) K
theorem ws_dst_11 (X : CX p s m args meth c G A cc own nL ret) {x : UInt64} {a0 a1 a2 a3 a4 a5 a6 a7 a8 a9 a10 b b2 : Option MV} {tl : List (Option MV)} (hc : c1 a10 = true) (hdg : DC cc pc (.dstore 11) 2 nxt) (hn : 12 < nL) (K : WS p l e R s m args below meth c G A nL cells slots Q nxt (a0 :: a1 :: a2 :: a3 :: a4 :: a5 :: a6 :: a7 :: a8 :: a9 :: a10 :: some (.inl (.double x)) :: none :: tl) st S) : WS p l e R s m args below meth c G A nL cells slots Q pc (a0 :: a1 :: a2 :: a3 :: a4 :: a5 :: a6 :: a7 :: a8 :: a9 :: a10 :: b :: b2 :: tl) (.inl (.double x) :: st) S := ws_dstore (i := 11) X hdg hn (by have h := lst_put2 (.inl (.double x)) 11 0 (a0 :: a1 :: a2 :: a3 :: a4 :: a5 :: a6 :: a7 :: a8 :: a9 :: a10 :: b :: b2 :: tl) (c1_get (j := 10) (a0 := a10) rfl hc); rw [Nat.zero_add] at h; exact h) K
theorem ws_dst_12 (X : CX p s m args meth c G A cc own nL ret) {x : UInt64} {a0 a1 a2 a3 a4 a5 a6 a7 a8 a9 a10 a11 b b2 : Option MV} {tl : List (Option MV)} (hc : c1 a11 = true) (hdg : DC cc pc (.dstore 12) 2 nxt) (hn : 13 < nL) (K : WS p l e R s m args below meth c G A nL cells slots Q nxt (a0 :: a1 :: a2 :: a3 :: a4 :: a5 :: a6 :: a7 :: a8 :: a9 :: a10 :: a11 :: some (.inl (.double x)) :: none :: tl) st S) : WS p l e R s m args below meth c G A nL cells slots Q pc (a0 :: a1 :: a2 :: a3 :: a4 :: a5 :: a6 :: a7 :: a8 :: a9 :: a10 :: a11 :: b :: b2 :: tl) (.inl (.double x) :: st) S := ws_dstore (i := 12) X hdg hn (by have h := lst_put2 (.inl (.double x)) 12 0 (a0 :: a1 :: a2 :: a3 :: a4 :: a5 :: a6 :: a7 :: a8 :: a9 :: a10 :: a11 :: b :: b2 :: tl) (c1_get (j := 11) (a0 := a11) rfl hc); rw [Nat.zero_add] at h; exact h) K
theorem ws_dst_13 (X : CX p s m args meth c G A cc own nL ret) {x : UInt64} {a0 a1 a2 a3 a4 a5 a6 a7 a8 a9 a10 a11 a12 b b2 : Option MV} {tl : List (Option MV)} (hc : c1 a12 = true) (hdg : DC cc pc (.dstore 13) 2 nxt) (hn : 14 < nL) (K : WS p l e R s m args below meth c G A nL cells slots Q nxt (a0 :: a1 :: a2 :: a3 :: a4 :: a5 :: a6 :: a7 :: a8 :: a9 :: a10 :: a11 :: a12 :: some (.inl (.double x)) :: none :: tl) st S) : WS p l e R s m args below meth c G A nL cells slots Q pc (a0 :: a1 :: a2 :: a3 :: a4 :: a5 :: a6 :: a7 :: a8 :: a9 :: a10 :: a11 :: a12 :: b :: b2 :: tl) (.inl (.double x) :: st) S := ws_dstore (i := 13) X hdg hn (by have h := lst_put2 (.inl (.double x)) 13 0 (a0 :: a1 :: a2 :: a3 :: a4 :: a5 :: a6 :: a7 :: a8 :: a9 :: a10 :: a11 :: a12 :: b :: b2 :: tl) (c1_get (j := 12) (a0 := a12) rfl hc); rw [Nat.zero_add] at h; exact h) K
theorem ws_dst_14 (X : CX p s m args meth c G A cc own nL ret) {x : UInt64} {a0 a1 a2 a3 a4 a5 a6 a7 a8 a9 a10 a11 a12 a13 b b2 : Option MV} {tl : List (Option MV)} (hc : c1 a13 = true) (hdg : DC cc pc (.dstore 14) 2 nxt) (hn : 15 < nL) (K : WS p l e R s m args below meth c G A nL cells slots Q nxt (a0 :: a1 :: a2 :: a3 :: a4 :: a5 :: a6 :: a7 :: a8 :: a9 :: a10 :: a11 :: a12 :: a13 :: some (.inl (.double x)) :: none :: tl) st S) : WS p l e R s m args below meth c G A nL cells slots Q pc (a0 :: a1 :: a2 :: a3 :: a4 :: a5 :: a6 :: a7 :: a8 :: a9 :: a10 :: a11 :: a12 :: a13 :: b :: b2 :: tl) (.inl (.double x) :: st) S := ws_dstore (i := 14) X hdg hn (by have h := lst_put2 (.inl (.double x)) 14 0 (a0 :: a1 :: a2 :: a3 :: a4 :: a5 :: a6 :: a7 :: a8 :: a9 :: a10 :: a11 :: a12 :: a13 :: b :: b2 :: tl) (c1_get (j := 13) (a0 := a13) rfl hc); rw [Nat.zero_add] at h; exact h) K
theorem ws_dst_15 (X : CX p s m args meth c G A cc own nL ret) {x : UInt64} {a0 a1 a2 a3 a4 a5 a6 a7 a8 a9 a10 a11 a12 a13 a14 b b2 : Option MV} {tl : List (Option MV)} (hc : c1 a14 = true) (hdg : DC cc pc (.dstore 15) 2 nxt) (hn : 16 < nL) (K : WS p l e R s m args below meth c G A nL cells slots Q nxt (a0 :: a1 :: a2 :: a3 :: a4 :: a5 :: a6 :: a7 :: a8 :: a9 :: a10 :: a11 :: a12 :: a13 :: a14 :: some (.inl (.double x)) :: none :: tl) st S) : WS p l e R s m args below meth c G A nL cells slots Q pc (a0 :: a1 :: a2 :: a3 :: a4 :: a5 :: a6 :: a7 :: a8 :: a9 :: a10 :: a11 :: a12 :: a13 :: a14 :: b :: b2 :: tl) (.inl (.double x) :: st) S := ws_dstore (i := 15) X hdg hn (by have h := lst_put2 (.inl (.double x)) 15 0 (a0 :: a1 :: a2 :: a3 :: a4 :: a5 :: a6 :: a7 :: a8 :: a9 :: a10 :: a11 :: a12 :: a13 :: a14 :: b :: b2 :: tl) (c1_get (j := 14) (a0 := a14) rfl hc); rw [Nat.zero_add] at h; exact h) K
theorem ws_astn_0 (X : CX p s m args meth c G A cc own nL ret) {x : Nat × Nat} { b : Option MV} {tl : List (Option MV)} (hdg : DC cc pc (.astore_n 0) 1 nxt) (hn : 0 < nL) (K : WS p l e R s m args below meth c G A nL cells slots Q nxt (some (.inr x) :: tl) st S) : WS p l e R s m args below meth c G A nL cells slots Q pc (b :: tl) (.inr x :: st) S := ws_astore_n (i := 0) X hdg rfl hn (by have h := lst_put1 (.inr x) 0 0 (b :: tl) (fun k hk => by omega); rw [Nat.zero_add] at h; exact h) K
theorem ws_ast_0 (X : CX p s m args meth c G A cc own nL ret) {x : Nat × Nat} { b : Option MV} {tl : List (Option MV)} (hdg : DC cc pc (.astore 0) 2 nxt) (hn : 0 < nL) (K : WS p l e R s m args below meth c G A nL cells slots Q nxt (some (.inr x) :: tl) st S) : WS p l e R s m args below meth c G A nL cells slots Q pc (b :: tl) (.inr x :: st) S := ws_astore (i := 0) X hdg hn (by have h := lst_put1 (.inr x) 0 0 (b :: tl) (fun k hk => by omega); rw [Nat.zero_add] at h; exact h) K
theorem ws_astn_1 (X : CX p s m args meth c G A cc own nL ret) {x : Nat × Nat} {a0 b : Option MV} {tl : List (Option MV)} (hc : c1 a0 = true) (hdg : DC cc pc (.astore_n 1) 1 nxt) (hn : 1 < nL) (K : WS p l e R s m args below meth c G A nL cells slots Q nxt (a0 :: some (.inr x) :: tl) st S) : WS p l e R s m args below meth c G A nL cells slots Q pc (a0 :: b :: tl) (.inr x :: st) S := ws_astore_n (i := 1) X hdg rfl hn (by have h := lst_put1 (.inr x) 1 0 (a0 :: b :: tl) (c1_get (j := 0) (a0 := a0) rfl hc); rw [Nat.zero_add] at h; exact h) K
theorem ws_ast_1 (X : CX p s m args meth c G A cc own nL ret) {x : Nat × Nat} {a0 b : Option MV} {tl : List (Option MV)} (hc : c1 a0 = true) (hdg : DC cc pc (.astore 1) 2 nxt) (hn : 1 < nL) (K : WS p l e R s m args below meth c G A nL cells slots Q nxt (a0 :: some (.inr x) :: tl) st S) : WS p l e R s m args below meth c G A nL cells slots Q pc (a0 :: b :: tl) (.inr x :: st) S := ws_astore (i := 1) X hdg hn (by have h := lst_put1 (.inr x) 1 0 (a0 :: b :: tl) (c1_get (j := 0) (a0 := a0) rfl hc); rw [Nat.zero_add] at h; exact h) K
theorem ws_astn_2 (X : CX p s m args meth c G A cc own nL ret) {x : Nat × Nat} {a0 a1 b : Option MV} {tl : List (Option MV)} (hc : c1 a1 = true) (hdg : DC cc pc (.astore_n 2) 1 nxt) (hn : 2 < nL) (K : WS p l e R s m args below meth c G A nL cells slots Q nxt (a0 :: a1 :: some (.inr x) :: tl) st S) : WS p l e R s m args below meth c G A nL cells slots Q pc (a0 :: a1 :: b :: tl) (.inr x :: st) S := ws_astore_n (i := 2) X hdg rfl hn (by have h := lst_put1 (.inr x) 2 0 (a0 :: a1 :: b :: tl) (c1_get (j := 1) (a0 := a1) rfl hc); rw [Nat.zero_add] at h; exact h) K
theorem ws_ast_2 (X : CX p s m args meth c G A cc own nL ret) {x : Nat × Nat} {a0 a1 b : Option MV} {tl : List (Option MV)} (hc : c1 a1 = true) (hdg : DC cc pc (.astore 2) 2 nxt) (hn : 2 < nL) (K : WS p l e R s m args below meth c G A nL cells slots Q nxt (a0 :: a1 :: some (.inr x) :: tl) st S) : WS p l e R s m args below meth c G A nL cells slots Q pc (a0 :: a1 :: b :: tl) (.inr x :: st) S := ws_astore (i := 2) X hdg hn (by have h := lst_put1 (.inr x) 2 0 (a0 :: a1 :: b :: tl) (c1_get (j := 1) (a0 := a1) rfl hc); rw [Nat.zero_add] at h; exact h) K
theorem ws_astn_3 (X : CX p s m args meth c G A cc own nL ret) {x : Nat × Nat} {a0 a1 a2 b : Option MV} {tl : List (Option MV)} (hc : c1 a2 = true) (hdg : DC cc pc (.astore_n 3) 1 nxt) (hn : 3 < nL) (K : WS p l e R s m args below meth c G A nL cells slots Q nxt (a0 :: a1 :: a2 :: some (.inr x) :: tl) st S) : WS p l e R s m args below meth c G A nL cells slots Q pc (a0 :: a1 :: a2 :: b :: tl) (.inr x :: st) S := ws_astore_n (i := 3) X hdg rfl hn (by have h := lst_put1 (.inr x) 3 0 (a0 :: a1 :: a2 :: b :: tl) (c1_get (j := 2) (a0 := a2) rfl hc); rw [Nat.zero_add] at h; exact h) K
theorem ws_ast_3 (X : CX p s m args meth c G A cc own nL ret) {x : Nat × Nat} {a0 a1 a2 b : Option MV} {tl : List (Option MV)} (hc : c1 a2 = true) (hdg : DC cc pc (.astore 3) 2 nxt) (hn : 3 < nL) (K : WS p l e R s m args below meth c G A nL cells slots Q nxt (a0 :: a1 :: a2 :: some (.inr x) :: tl) st S) : WS p l e R s m args below meth c G A nL cells slots Q pc (a0 :: a1 :: a2 :: b :: tl) (.inr x :: st) S := ws_astore (i := 3) X hdg hn (by have h := lst_put1 (.inr x) 3 0 (a0 :: a1 :: a2 :: b :: tl) (c1_get (j := 2) (a0 := a2) rfl hc); rw [Nat.zero_add] at h; exact h) K
theorem ws_ast_4 (X : CX p s m args meth c G A cc own nL ret) {x : Nat × Nat} {a0 a1 a2 a3 b : Option MV} {tl : List (Option MV)} (hc : c1 a3 = true) (hdg : DC cc pc (.astore 4) 2 nxt) (hn : 4 < nL) (K : WS p l e R s m args below meth c G A nL cells slots Q nxt (a0 :: a1 :: a2 :: a3 :: some (.inr x) :: tl) st S) : WS p l e R s m args below meth c G A nL cells slots Q pc (a0 :: a1 :: a2 :: a3 :: b :: tl) (.inr x :: st) S := ws_astore (i := 4) X hdg hn (by have h := lst_put1 (.inr x) 4 0 (a0 :: a1 :: a2 :: a3 :: b :: tl) (c1_get (j := 3) (a0 := a3) rfl hc); rw [Nat.zero_add] at h; exact h) K
theorem ws_ast_5 (X : CX p s m args meth c G A cc own nL ret) {x : Nat × Nat} {a0 a1 a2 a3 a4 b : Option MV} {tl : List (Option MV)} (hc : c1 a4 = true) (hdg : DC cc pc (.astore 5) 2 nxt) (hn : 5 < nL) (K : WS p l e R s m args below meth c G A nL cells slots Q nxt (a0 :: a1 :: a2 :: a3 :: a4 :: some (.inr x) :: tl) st S) : WS p l e R s m args below meth c G A nL cells slots Q pc (a0 :: a1 :: a2 :: a3 :: a4 :: b :: tl) (.inr x :: st) S := ws_astore (i := 5) X hdg hn (by have h := lst_put1 (.inr x) 5 0 (a0 :: a1 :: a2 :: a3 :: a4 :: b :: tl) (c1_get (j := 4) (a0 := a4) rfl hc); rw [Nat.zero_add] at h; exact h) K
theorem ws_ast_6 (X : CX p s m args meth c G A cc own nL ret) {x : Nat × Nat} {a0 a1 a2 a3 a4 a5 b : Option MV} {tl : List (Option MV)} (hc : c1 a5 = true) (hdg : DC cc pc (.astore 6) 2 nxt) (hn : 6 < nL) (K : WS p l e R s m args below meth c G A nL cells slots Q nxt (a0 :: a1 :: a2 :: a3 :: a4 :: a5 :: some (.inr x) :: tl) st S) : WS p l e R s m args below meth c G A nL cells slots Q pc (a0 :: a1 :: a2 :: a3 :: a4 :: a5 :: b :: tl) (.inr x :: st) S := ws_astore (i := 6) X hdg hn (by have h := lst_put1 (.inr x) 6 0 (a0 :: a1 :: a2 :: a3 :: a4 :: a5 :: b :: tl) (c1_get (j := 5) (a0 := a5) rfl hc); rw [Nat.zero_add] at h; exact h) K
theorem ws_ast_7 (X : CX p s m args meth c G A cc own nL ret) {x : Nat × Nat} {a0 a1 a2 a3 a4 a5 a6 b : Option MV} {tl : List (Option MV)} (hc : c1 a6 = true) (hdg : DC cc pc (.astore 7) 2 nxt) (hn : 7 < nL) (K : WS p l e R s m args below meth c G A nL cells slots Q nxt (a0 :: a1 :: a2 :: a3 :: a4 :: a5 :: a6 :: some (.inr x) :: tl) st S) : WS p l e R s m args below meth c G A nL cells slots Q pc (a0 :: a1 :: a2 :: a3 :: a4 :: a5 :: a6 :: b :: tl) (.inr x :: st) S := ws_astore (i := 7) X hdg hn (by have h := lst_put1 (.inr x) 7 0 (a0 :: a1 :: a2 :: a3 :: a4 :: a5 :: a6 :: b :: tl) (c1_get (j := 6) (a0 := a6) rfl hc); rw [Nat.zero_add] at h; exact h) K
theorem ws_ast_8 (X : CX p s m args meth c G A cc own nL ret) {x : Nat × Nat} {a0 a1 a2 a3 a4 a5 a6 a7 b : Option MV} {tl : List (Option MV)} (hc : c1 a7 = true) (hdg : DC cc pc (.astore 8) 2 nxt) (hn : 8 < nL) (K : WS p l e R s m args below meth c G A nL cells slots Q nxt (a0 :: a1 :: a2 :: a3 :: a4 :: a5 :: a6 :: a7 :: some (.inr x) :: tl) st S) : WS p l e R s m args below meth c G A nL cells slots Q pc (a0 :: a1 :: a2 :: a3 :: a4 :: a5 :: a6 :: a7 :: b :: tl) (.inr x :: st) S := ws_astore (i := 8) X hdg hn (by have h := lst_put1 (.inr x) 8 0 (a0 :: a1 :: a2 :: a3 :: a4 :: a5 :: a6 :: a7 :: b :: tl) (c1_get (j := 7) (a0 := a7) rfl hc); rw [Nat.zero_add] at h; exact h) K
theorem ws_ast_9 (X : CX p s m args meth c G A cc own nL ret) {x : Nat × Nat} {a0 a1 a2 a3 a4 a5 a6 a7 a8 b : Option MV} {tl : List (Option MV)} (hc : c1 a8 = true) (hdg : DC cc pc (.astore 9) 2 nxt) (hn : 9 < nL) (K : WS p l e R s m args below meth c G A nL cells slots Q nxt (a0 :: a1 :: a2 :: a3 :: a4 :: a5 :: a6 :: a7 :: a8 :: some (.inr x) :: tl) st S) : WS p l e R s m args below meth c G A nL cells slots Q pc (a0 :: a1 :: a2 :: a3 :: a4 :: a5 :: a6 :: a7 :: a8 :: b :: tl) (.inr x :: st) S := ws_astore (i := 9) X hdg hn (by have h := lst_put1 (.inr x) 9 0 (a0 :: a1 :: a2 :: a3 :: a4 :: a5 :: a6 :: a7 :: a8 :: b :: tl) (c1_get (j := 8) (a0 := a8) rfl hc); rw [Nat.zero_add] at h; exact h) K
theorem ws_ast_10 (X : CX p s m args meth c G A cc own nL ret) {x : Nat × Nat} {a0 a1 a2 a3 a4 a5 a6 a7 a8 a9 b : Option MV} {tl : List (Option MV)} (hc : c1 a9 = true) (hdg : DC cc pc (.astore 10) 2 nxt) (hn : 10 < nL) (K : WS p l e R s m args below meth c G A nL cells slots Q nxt (a0 :: a1 :: a2 :: a3 :: a4 :: a5 :: a6 :: a7 :: a8 :: a9 :: some (.inr x) :: tl) st S) : WS p l e R s m args below meth c G A nL cells slots Q pc (a0 :: a1 :: a2 :: a3 :: a4 :: a5 :: a6 :: a7 :: a8 :: a9 :: b :: tl) (.inr x :: st) S := ws_astore (i := 10) X hdg hn (by have h := lst_put1 (.inr x) 10 0 (a0 :: a1 :: a2 :: a3 :: a4 :: a5 :: a6 :: a7 :: a8 :: a9 :: b :: tl) (c1_get (j := 9) (a0 := a9) rfl hc); rw [Nat.zero_add] at h; exact h) K
theorem ws_ast_11 (X : CX p s m args meth c G A cc own nL ret) {x : Nat × Nat} {a0 a1 a2 a3 a4 a5 a6 a7 a8 a9 a10 b : Option MV} {tl : List (Option MV)} (hc : c1 a10 = true) (hdg : DC cc pc (.astore 11) 2 nxt) (hn : 11 < nL) (K : WS p l e R s m args below meth c G A nL cells slots Q nxt (a0 :: a1 :: a2 :: a3 :: a4 :: a5 :: a6 :: a7 :: a8 :: a9 :: a10 :: some (.inr x) :: tl) st S) : WS p l e R s m args below meth c G A nL cells slots Q pc (a0 :: a1 :: a2 :: a3 :: a4 :: a5 :: a6 :: a7 :: a8 :: a9 :: a10 :: b :: tl) (.inr x :: st) S := ws_astore (i := 11) X hdg hn (by have h := lst_put1 (.inr x) 11 0 (a0 :: a1 :: a2 :: a3 :: a4 :: a5 :: a6 :: a7 :: a8 :: a9 :: a10 :: b :: tl) (c1_get (j := 10) (a0 := a10) rfl hc); rw [Nat.zero_add] at h; exact h) K
theorem ws_ast_12 (X : CX p s m args meth c G A cc own nL ret) {x : Nat × Nat} {a0 a1 a2 a3 a4 a5 a6 a7 a8 a9 a10 a11 b : Option MV} {tl : List (Option MV)} (hc : c1 a11 = true) (hdg : DC cc pc (.astore 12) 2 nxt) (hn : 12 < nL) (K : WS p l e R s m args below meth c G A nL cells slots Q nxt (a0 :: a1 :: a2 :: a3 :: a4 :: a5 :: a6 :: a7 :: a8 :: a9 :: a10 :: a11 :: some (.inr x) :: tl) st S) : WS p l e R s m args below meth c G A nL cells slots Q pc (a0 :: a1 :: a2 :: a3 :: a4 :: a5 :: a6 :: a7 :: a8 :: a9 :: a10 :: a11 :: b :: tl) (.inr x :: st) S := ws_astore (i := 12) X hdg hn (by have h := lst_put1 (.inr x) 12 0 (a0 :: a1 :: a2 :: a3 :: a4 :: a5 :: a6 :: a7 :: a8 :: a9 :: a10 :: a11 :: b :: tl) (c1_get (j := 11) (a0 := a11) rfl hc); rw [Nat.zero_add] at h; exact h) K
theorem ws_ast_13 (X : CX p s m args meth c G A cc own nL ret) {x : Nat × Nat} {a0 a1 a2 a3 a4 a5 a6 a7 a8 a9 a10 a11 a12 b : Option MV} {tl : List (Option MV)} (hc : c1 a12 = true) (hdg : DC cc pc (.astore 13) 2 nxt) (hn : 13 < nL) (K : WS p l e R s m args below meth c G A nL cells slots Q nxt (a0 :: a1 :: a2 :: a3 :: a4 :: a5 :: a6 :: a7 :: a8 :: a9 :: a10 :: a11 :: a12 :: some (.inr x) :: tl) st S) : WS p l e R s m args below meth c G A nL cells slots Q pc (a0 :: a1 :: a2 :: a3 :: a4 :: a5 :: a6 :: a7 :: a8 :: a9 :: a10 :: a11 :: a12 :: b :: tl) (.inr x :: st) S := ws_astore (i := 13) X hdg hn (by have h := lst_put1 (.inr x) 13 0 (a0 :: a1 :: a2 :: a3 :: a4 :: a5 :: a6 :: a7 :: a8 :: a9 :: a10 :: a11 :: a12 :: b :: tl) (c1_get (j := 12) (a0 := a12) rfl hc); rw [Nat.zero_add] at h; exact h) K
theorem ws_ast_14 (X : CX p s m args meth c G A cc own nL ret) {x : Nat × Nat} {a0 a1 a2 a3 a4 a5 a6 a7 a8 a9 a10 a11 a12 a13 b : Option MV} {tl : List (Option MV)} (hc : c1 a13 = true) (hdg : DC cc pc (.astore 14) 2 nxt) (hn : 14 < nL) (K : WS p l e R s m args below meth c G A nL cells slots Q nxt (a0 :: a1 :: a2 :: a3 :: a4 :: a5 :: a6 :: a7 :: a8 :: a9 :: a10 :: a11 :: a12 :: a13 :: some (.inr x) :: tl) st S) : WS p l e R s m args below meth c G A nL cells slots Q pc (a0 :: a1 :: a2 :: a3 :: a4 :: a5 :: a6 :: a7 :: a8 :: a9 :: a10 :: a11 :: a12 :: a13 :: b :: tl) (.inr x :: st) S := ws_astore (i := 14) X hdg hn (by have h := lst_put1 (.inr x) 14 0 (a0 :: a1 :: a2 :: a3 :: a4 :: a5 :: a6 :: a7 :: a8 :: a9 :: a10 :: a11 :: a12 :: a13 :: b :: tl) (c1_get (j := 13) (a0 := a13) rfl hc); rw [Nat.zero_add] at h; exact h) K
theorem ws_ast_15 (X : CX p s m args meth c G A cc own nL ret) {x : Nat × Nat} {a0 a1 a2 a3 a4 a5 a6 a7 a8 a9 a10 a11 a12 a13 a14 b : Option MV} {tl : List (Option MV)} (hc : c1 a14 = true) (hdg : DC cc pc (.astore 15) 2 nxt) (hn : 15 < nL) (K : WS p l e R s m args below meth c G A nL cells slots Q nxt (a0 :: a1 :: a2 :: a3 :: a4 :: a5 :: a6 :: a7 :: a8 :: a9 :: a10 :: a11 :: a12 :: a13 :: a14 :: some (.inr x) :: tl) st S) : WS p l e R s m args below meth c G A nL cells slots Q pc (a0 :: a1 :: a2 :: a3 :: a4 :: a5 :: a6 :: a7 :: a8 :: a9 :: a10 :: a11 :: a12 :: a13 :: a14 :: b :: tl) (.inr x :: st) S := ws_astore (i := 15) X hdg hn (by have h := lst_put1 (.inr x) 15 0 (a0 :: a1 :: a2 :: a3 :: a4 :: a5 :: a6 :: a7 :: a8 :: a9 :: a10 :: a11 :: a12 :: a13 :: a14 :: b :: tl) (c1_get (j := 14) (a0 := a14) rfl hc); rw [Nat.zero_add] at h; exact h) K
theorem ws_aNstn_0 (X : CX p s m args meth c G A cc own nL ret) { b : Option MV} {tl : List (Option MV)} (hdg : DC cc pc (.astore_n 0) 1 nxt) (hn : 0 < nL) (K : WS p l e R s m args below meth c G A nL cells slots Q nxt (some (.inl .null) :: tl) st S) : WS p l e R s m args below meth c G A nL cells slots Q pc (b :: tl) (.inl .null :: st) S := ws_aNstore_n (i := 0) X hdg rfl hn (by have h := lst_put1 (.inl .null) 0 0 (b :: tl) (fun k hk => by omega); rw [Nat.zero_add] at h; exact h) K
theorem ws_aNst_0 (X : CX p s m args meth c G A cc own nL ret) { b : Option MV} {tl : List (Option MV)} (hdg : DC cc pc (.astore 0) 2 nxt) (hn : 0 < nL) (K : WS p l e R s m args below meth c G A nL cells slots Q nxt (some (.inl .null) :: tl) st S) : WS p l e R s m args below meth c G A nL cells slots Q pc (b :: tl) (.inl .null :: st) S := ws_aNstore (i := 0) X hdg hn (by have h := lst_put1 (.inl .null) 0 0 (b :: tl) (fun k hk => by omega); rw [Nat.zero_add] at h; exact h) K
theorem ws_aNstn_1 (X : CX p s m args meth c G A cc own nL ret) {a0 b : Option MV} {tl : List (Option MV)} (hc : c1 a0 = true) (hdg : DC cc pc (.astore_n 1) 1 nxt) (hn : 1 < nL) (K : WS p l e R s m args below meth c G A nL cells slots Q nxt (a0 :: some (.inl .null) :: tl) st S) : WS p l e R s m args below meth c G A nL cells slots Q pc (a0 :: b :: tl) (.inl .null :: st) S := ws_aNstore_n (i := 1) X hdg rfl hn (by have h := lst_put1 (.inl .null) 1 0 (a0 :: b :: tl) (c1_get (j := 0) (a0 := a0) rfl hc); rw [Nat.zero_add] at h; exact h) K
theorem ws_aNst_1 (X : CX p s m args meth c G A cc own nL ret) {a0 b : Option MV} {tl : List (Option MV)} (hc : c1 a0 = true) (hdg : DC cc pc (.astore 1) 2 nxt) (hn : 1 < nL) (K : WS p l e R s m args below meth c G A nL cells slots Q nxt (a0 :: some (.inl .null) :: tl) st S) : WS p l e R s m args below meth c G A nL cells slots Q pc (a0 :: b :: tl) (.inl .null :: st) S := ws_aNstore (i := 1) X hdg hn (by have h := lst_put1 (.inl .null) 1 0 (a0 :: b :: tl) (c1_get (j := 0) (a0 := a0) rfl hc); rw [Nat.zero_add] at h; exact h) K
theorem ws_aNstn_2 (X : CX p s m args meth c G A cc own nL ret) {a0 a1 b : Option MV} {tl : List (Option MV)} (hc : c1 a1 = true) (hdg : DC cc pc (.astore_n 2) 1 nxt) (hn : 2 < nL) (K : WS p l e R s m args below meth c G A nL cells slots Q nxt (a0 :: a1 :: some (.inl .null) :: tl) st S) : WS p l e R s m args below meth c G A nL cells slots Q pc (a0 :: a1 :: b :: tl) (.inl .null :: st) S := ws_aNstore_n (i := 2) X hdg rfl hn (by have h := lst_put1 (.inl .null) 2 0 (a0 :: a1 :: b :: tl) (c1_get (j := 1) (a0 := a1) rfl hc); rw [Nat.zero_add] at h; exact h) K
theorem ws_aNst_2 (X : CX p s m args meth c G A cc own nL ret) {a0 a1 b : Option MV} {tl : List (Option MV)} (hc : c1 a1 = true) (hdg : DC cc pc (.astore 2) 2 nxt) (hn : 2 < nL) (K : WS p l e R s m args below meth c G A nL cells slots Q nxt (a0 :: a1 :: some (.inl .null) :: tl) st S) : WS p l e R s m args below meth c G A nL cells slots Q pc (a0 :: a1 :: b :: tl) (.inl .null :: st) S := ws_aNstore (i := 2) X hdg hn (by have h := lst_put1 (.inl .null) 2 0 (a0 :: a1 :: b :: tl) (c1_get (j := 1) (a0 := a1) rfl hc); rw [Nat.zero_add] at h; exact h) K
theorem ws_aNstn_3 (X : CX p s m args meth c G A cc own nL ret) {a0 a1 a2 b : Option MV} {tl : List (Option MV)} (hc : c1 a2 = true) (hdg : DC cc pc (.astore_n 3) 1 nxt) (hn : 3 < nL) (K : WS p l e R s m args below meth c G A nL cells slots Q nxt (a0 :: a1 :: a2 :: some (.inl .null) :: tl) st S) : WS p l e R s m args below meth c G A nL cells slots Q pc (a0 :: a1 :: a2 :: b :: tl) (.inl .null :: st) S := ws_aNstore_n (i := 3) X hdg rfl hn (by have h := lst_put1 (.inl .null) 3 0 (a0 :: a1 :: a2 :: b :: tl) (c1_get (j := 2) (a0 := a2) rfl hc); rw [Nat.zero_add] at h; exact h) K
theorem ws_aNst_3 (X : CX p s m args meth c G A cc own nL ret) {a0 a1 a2 b : Option MV} {tl : List (Option MV)} (hc : c1 a2 = true) (hdg : DC cc pc (.astore 3) 2 nxt) (hn : 3 < nL) (K : WS p l e R s m args below meth c G A nL cells slots Q nxt (a0 :: a1 :: a2 :: some (.inl .null) :: tl) st S) : WS p l e R s m args below meth c G A nL cells slots Q pc (a0 :: a1 :: a2 :: b :: tl) (.inl .null :: st) S := ws_aNstore (i := 3) X hdg hn (by have h := lst_put1 (.inl .null) 3 0 (a0 :: a1 :: a2 :: b :: tl) (c1_get (j := 2) (a0 := a2) rfl hc); rw [Nat.zero_add] at h; exact h) K
theorem ws_aNst_4 (X : CX p s m args meth c G A cc own nL ret) {a0 a1 a2 a3 b : Option MV} {tl : List (Option MV)} (hc : c1 a3 = true) (hdg : DC cc pc (.astore 4) 2 nxt) (hn : 4 < nL) (K : WS p l e R s m args below meth c G A nL cells slots Q nxt (a0 :: a1 :: a2 :: a3 :: some (.inl .null) :: tl) st S) : WS p l e R s m args below meth c G A nL cells slots Q pc (a0 :: a1 :: a2 :: a3 :: b :: tl) (.inl .null :: st) S := ws_aNstore (i := 4) X hdg hn (by have h := lst_put1 (.inl .null) 4 0 (a0 :: a1 :: a2 :: a3 :: b :: tl) (c1_get (j := 3) (a0 := a3) rfl hc); rw [Nat.zero_add] at h; exact h) K
theorem ws_aNst_5 (X : CX p s m args meth c G A cc own nL ret) {a0 a1 a2 a3 a4 b : Option MV} {tl : List (Option MV)} (hc : c1 a4 = true) (hdg : DC cc pc (.astore 5) 2 nxt) (hn : 5 < nL) (K : WS p l e R s m args below meth c G A nL cells slots Q nxt (a0 :: a1 :: a2 :: a3 :: a4 :: some (.inl .null) :: tl) st S) : WS p l e R s m args below meth c G A nL cells slots Q pc (a0 :: a1 :: a2 :: a3 :: a4 :: b :: tl) (.inl .null :: st) S := ws_aNstore (i := 5) X hdg hn (by have h := lst_put1 (.inl .null) 5 0 (a0 :: a1 :: a2 :: a3 :: a4 :: b :: tl) (c1_get (j := 4) (a0 := a4) rfl hc); rw [Nat.zero_add] at h; exact h) K
theorem ws_aNst_6 (X : CX p s m args meth c G A cc own nL ret) {a0 a1 a2 a3 a4 a5 b : Option MV} {tl : List (Option MV)} (hc : c1 a5 = true) (hdg : DC cc pc (.astore 6) 2 nxt) (hn : 6 < nL) (K : WS p l e R s m args below meth c G A nL cells slots Q nxt (a0 :: a1 :: a2 :: a3 :: a4 :: a5 :: some (.inl .null) :: tl) st S) : WS p l e R s m args below meth c G A nL cells slots Q pc (a0 :: a1 :: a2 :: a3 :: a4 :: a5 :: b :: tl) (.inl .null :: st) S := ws_aNstore (i := 6) X hdg hn (by have h := lst_put1 (.inl .null) 6 0 (a0 :: a1 :: a2 :: a3 :: a4 :: a5 :: b :: tl) (c1_get (j := 5) (a0 := a5) rfl hc); rw [Nat.zero_add] at h; exact h) K
theorem ws_aNst_7 (X : CX p s m args meth c G A cc own nL ret) {a0 a1 a2 a3 a4 a5 a6 b : Option MV} {tl : List (Option MV)} (hc : c1 a6 = true) (hdg : DC cc pc (.astore 7) 2 nxt) (hn : 7 < nL) (K : WS p l e R s m args below meth c G A nL cells slots Q nxt (a0 :: a1 :: a2 :: a3 :: a4 :: a5 :: a6 :: some (.inl .null) :: tl) st S) : WS p l e R s m args below meth c G A nL cells slots Q pc (a0 :: a1 :: a2 :: a3 :: a4 :: a5 :: a6 :: b :: tl) (.inl .null :: st) S := ws_aNstore (i := 7) X hdg hn (by have h := lst_put1 (.inl .null) 7 0 (a0 :: a1 :: a2 :: a3 :: a4 :: a5 :: a6 :: b :: tl) (c1_get (j := 6) (a0 := a6) rfl hc); rw [Nat.zero_add] at h; exact h) K
theorem ws_aNst_8 (X : CX p s m args meth c G A cc own nL ret) {a0 a1 a2 a3 a4 a5 a6 a7 b : Option MV} {tl : List (Option MV)} (hc : c1 a7 = true) (hdg : DC cc pc (.astore 8) 2 nxt) (hn : 8 < nL) (K : WS p l e R s m args below meth c G A nL cells slots Q nxt (a0 :: a1 :: a2 :: a3 :: a4 :: a5 :: a6 :: a7 :: some (.inl .null) :: tl) st S) : WS p l e R s m args below meth c G A nL cells slots Q pc (a0 :: a1 :: a2 :: a3 :: a4 :: a5 :: a6 :: a7 :: b :: tl) (.inl .null :: st) S := ws_aNstore (i := 8) X hdg hn (by have h := lst_put1 (.inl .null) 8 0 (a0 :: a1 :: a2 :: a3 :: a4 :: a5 :: a6 :: a7 :: b :: tl) (c1_get (j := 7) (a0 := a7) rfl hc); rw [Nat.zero_add] at h; exact h) K
theorem ws_aNst_9 (X : CX p s m args meth c G A cc own nL ret) {a0 a1 a2 a3 a4 a5 a6 a7 a8 b : Option MV} {tl : List (Option MV)} (hc : c1 a8 = true) (hdg : DC cc pc (.astore 9) 2 nxt) (hn : 9 < nL) (K : WS p l e R s m args below meth c G A nL cells slots Q nxt (a0 :: a1 :: a2 :: a3 :: a4 :: a5 :: a6 :: a7 :: a8 :: some (.inl .null) :: tl) st S) : WS p l e R s m args below meth c G A nL cells slots Q pc (a0 :: a1 :: a2 :: a3 :: a4 :: a5 :: a6 :: a7 :: a8 :: b :: tl) (.inl .null :: st) S := ws_aNstore (i := 9) X hdg hn (by have h := lst_put1 (.inl .null) 9 0 (a0 :: a1 :: a2 :: a3 :: a4 :: a5 :: a6 :: a7 :: a8 :: b :: tl) (c1_get (j := 8) (a0 := a8) rfl hc); rw [Nat.zero_add] at h; exact h) K
theorem ws_aNst_10 (X : CX p s m args meth c G A cc own nL ret) {a0 a1 a2 a3 a4 a5 a6 a7 a8 a9 b : Option MV} {tl : List (Option MV)} (hc : c1 a9 = true) (hdg : DC cc pc (.astore 10) 2 nxt) (hn : 10 < nL) (K : WS p l e R s m args below meth c G A nL cells slots Q nxt (a0 :: a1 :: a2 :: a3 :: a4 :: a5 :: a6 :: a7 :: a8 :: a9 :: some (.inl .null) :: tl) st S) : WS p l e R s m args below meth c G A nL cells slots Q pc (a0 :: a1 :: a2 :: a3 :: a4 :: a5 :: a6 :: a7 :: a8 :: a9 :: b :: tl) (.inl .null :: st) S := ws_aNstore (i := 10) X hdg hn (by have h := lst_put1 (.inl .null) 10 0 (a0 :: a1 :: a2 :: a3 :: a4 :: a5 :: a6 :: a7 :: a8 :: a9 :: b :: tl) (c1_get (j := 9) (a0 := a9) rfl hc); rw [Nat.zero_add] at h; exact h) K
theorem ws_aNst_11 (X : CX p s m args meth c G A cc own nL ret) {a0 a1 a2 a3 a4 a5 a6 a7 a8 a9 a10 b : Option MV} {tl : List (Option MV)} (hc : c1 a10 = true) (hdg : DC cc pc (.astore 11) 2 nxt) (hn : 11 < nL) (K : WS p l e R s m args below meth c G A nL cells slots Q nxt (a0 :: a1 :: a2 :: a3 :: a4 :: a5 :: a6 :: a7 :: a8 :: a9 :: a10 :: some (.inl .null) :: tl) st S) : WS p l e R s m args below meth c G A nL cells slots Q pc (a0 :: a1 :: a2 :: a3 :: a4 :: a5 :: a6 :: a7 :: a8 :: a9 :: a10 :: b :: tl) (.inl .null :: st) S := ws_aNstore (i := 11) X hdg hn (by have h := lst_put1 (.inl .null) 11 0 (a0 :: a1 :: a2 :: a3 :: a4 :: a5 :: a6 :: a7 :: a8 :: a9 :: a10 :: b :: tl) (c1_get (j := 10) (a0 := a10) rfl hc); rw [Nat.zero_add] at h; exact h) K
theorem ws_aNst_12 (X : CX p s m args meth c G A cc own nL ret) {a0 a1 a2 a3 a4 a5 a6 a7 a8 a9 a10 a11 b : Option MV} {tl : List (Option MV)} (hc : c1 a11 = true) (hdg : DC cc pc (.astore 12) 2 nxt) (hn : 12 < nL) (K : WS p l e R s m args below meth c G A nL cells slots Q nxt (a0 :: a1 :: a2 :: a3 :: a4 :: a5 :: a6 :: a7 :: a8 :: a9 :: a10 :: a11 :: some (.inl .null) :: tl) st S) : WS p l e R s m args below meth c G A nL cells slots Q pc (a0 :: a1 :: a2 :: a3 :: a4 :: a5 :: a6 :: a7 :: a8 :: a9 :: a10 :: a11 :: b :: tl) (.inl .null :: st) S := ws_aNstore (i := 12) X hdg hn (by have h := lst_put1 (.inl .null) 12 0 (a0 :: a1 :: a2 :: a3 :: a4 :: a5 :: a6 :: a7 :: a8 :: a9 :: a10 :: a11 :: b :: tl) (c1_get (j := 11) (a0 := a11) rfl hc); rw [Nat.zero_add] at h; exact h) K
theorem ws_aNst_13 (X : CX p s m args meth c G A cc own nL ret) {a0 a1 a2 a3 a4 a5 a6 a7 a8 a9 a10 a11 a12 b : Option MV} {tl : List (Option MV)} (hc : c1 a12 = true) (hdg : DC cc pc (.astore 13) 2 nxt) (hn : 13 < nL) (K : WS p l e R s m args below meth c G A nL cells slots Q nxt (a0 :: a1 :: a2 :: a3 :: a4 :: a5 :: a6 :: a7 :: a8 :: a9 :: a10 :: a11 :: a12 :: some (.inl .null) :: tl) st S) : WS p l e R s m args below meth c G A nL cells slots Q pc (a0 :: a1 :: a2 :: a3 :: a4 :: a5 :: a6 :: a7 :: a8 :: a9 :: a10 :: a11 :: a12 :: b :: tl) (.inl .null :: st) S := ws_aNstore (i := 13) X hdg hn (by have h := lst_put1 (.inl .null) 13 0 (a0 :: a1 :: a2 :: a3 :: a4 :: a5 :: a6 :: a7 :: a8 :: a9 :: a10 :: a11 :: a12 :: b :: tl) (c1_get (j := 12) (a0 := a12) rfl hc); rw [Nat.zero_add] at h; exact h) K
theorem ws_aNst_14 (X : CX p s m args meth c G A cc own nL ret) {a0 a1 a2 a3 a4 a5 a6 a7 a8 a9 a10 a11 a12 a13 b : Option MV} {tl : List (Option MV)} (hc : c1 a13 = true) (hdg : DC cc pc (.astore 14) 2 nxt) (hn : 14 < nL) (K : WS p l e R s m args below meth c G A nL cells slots Q nxt (a0 :: a1 :: a2 :: a3 :: a4 :: a5 :: a6 :: a7 :: a8 :: a9 :: a10 :: a11 :: a12 :: a13 :: some (.inl .null) :: tl) st S) : WS p l e R s m args below meth c G A nL cells slots Q pc (a0 :: a1 :: a2 :: a3 :: a4 :: a5 :: a6 :: a7 :: a8 :: a9 :: a10 :: a11 :: a12 :: a13 :: b :: tl) (.inl .null :: st) S := ws_aNstore (i := 14) X hdg hn (by have h := lst_put1 (.inl .null) 14 0 (a0 :: a1 :: a2 :: a3 :: a4 :: a5 :: a6 :: a7 :: a8 :: a9 :: a10 :: a11 :: a12 :: a13 :: b :: tl) (c1_get (j := 13) (a0 := a13) rfl hc); rw [Nat.zero_add] at h; exact h) K
theorem ws_aNst_15 (X : CX p s m args meth c G A cc own nL ret) {a0 a1 a2 a3 a4 a5 a6 a7 a8 a9 a10 a11 a12 a13 a14 b : Option MV} {tl : List (Option MV)} (hc : c1 a14 = true) (hdg : DC cc pc (.astore 15) 2 nxt) (hn : 15 < nL) (K : WS p l e R s m args below meth c G A nL cells slots Q nxt (a0 :: a1 :: a2 :: a3 :: a4 :: a5 :: a6 :: a7 :: a8 :: a9 :: a10 :: a11 :: a12 :: a13 :: a14 :: some (.inl .null) :: tl) st S) : WS p l e R s m args below meth c G A nL cells slots Q pc (a0 :: a1 :: a2 :: a3 :: a4 :: a5 :: a6 :: a7 :: a8 :: a9 :: a10 :: a11 :: a12 :: a13 :: a14 :: b :: tl) (.inl .null :: st) S := ws_aNstore (i := 15) X hdg hn (by have h := lst_put1 (.inl .null) 15 0 (a0 :: a1 :: a2 :: a3 :: a4 :: a5 :: a6 :: a7 :: a8 :: a9 :: a10 :: a11 :: a12 :: a13 :: a14 :: b :: tl) (c1_get (j := 14) (a0 := a14) rfl hc); rw [Nat.zero_add] at h; exact h) K
theorem ws_iinc_0 (X : CX p s m args meth c G A cc own nL ret) {x v : Int32} {n : Int} {tl : List (Option MV)} (hdg : DC cc pc (.iinc 0 n) 3 nxt) (hv : x + Int32.ofInt n = v) (hn : 0 < nL) (K : WS p l e R s m args below meth c G A nL cells slots Q nxt (some (.inl (.int v)) :: tl) st S) : WS p l e R s m args below meth c G A nL cells slots Q pc (some (.inl (.int x)) :: tl) st S := ws_iinc (i := 0) X hdg rfl hv hn (by have h := lst_put1 (.inl (.int v)) 0 0 (some (.inl (.int x)) :: tl) (fun k hk => by omega); rw [Nat.zero_add] at h; exact h) K
theorem ws_iinc_1 (X : CX p s m args meth c G A cc own nL ret) {x v : Int32} {n : Int} {a0 : Option MV} {tl : List (Option MV)} (hc : c1 a0 = true) (hdg : DC cc pc (.iinc 1 n) 3 nxt) (hv : x + Int32.ofInt n = v) (hn : 1 < nL) (K : WS p l e R s m args below meth c G A nL cells slots Q nxt (a0 :: some (.inl (.int v)) :: tl) st S) : WS p l e R s m args below meth c G A nL cells slots Q pc (a0 :: some (.inl (.int x)) :: tl) st S := ws_iinc (i := 1) X hdg rfl hv hn (by have h := lst_put1 (.inl (.int v)) 1 0 (a0 :: some (.inl (.int x)) :: tl) (c1_get (j := 0) (a0 := a0) rfl hc); rw [Nat.zero_add] at h; exact h) K
theorem ws_iinc_2 (X : CX p s m args meth c G A cc own nL ret) {x v : Int32} {n : Int} {a0 a1 : Option MV} {tl : List (Option MV)} (hc : c1 a1 = true) (hdg : DC cc pc (.iinc 2 n) 3 nxt) (hv : x + Int32.ofInt n = v) (hn : 2 < nL) (K : WS p l e R s m args below meth c G A nL cells slots Q nxt (a0 :: a1 :: some (.inl (.int v)) :: tl) st S) : WS p l e R s m args below meth c G A nL cells slots Q pc (a0 :: a1 :: some (.inl (.int x)) :: tl) st S := ws_iinc (i := 2) X hdg rfl hv hn (by have h := lst_put1 (.inl (.int v)) 2 0 (a0 :: a1 :: some (.inl (.int x)) :: tl) (c1_get (j := 1) (a0 := a1) rfl hc); rw [Nat.zero_add] at h; exact h) K
theorem ws_iinc_3 (X : CX p s m args meth c G A cc own nL ret) {x v : Int32} {n : Int} {a0 a1 a2 : Option MV} {tl : List (Option MV)} (hc : c1 a2 = true) (hdg : DC cc pc (.iinc 3 n) 3 nxt) (hv : x + Int32.ofInt n = v) (hn : 3 < nL) (K : WS p l e R s m args below meth c G A nL cells slots Q nxt (a0 :: a1 :: a2 :: some (.inl (.int v)) :: tl) st S) : WS p l e R s m args below meth c G A nL cells slots Q pc (a0 :: a1 :: a2 :: some (.inl (.int x)) :: tl) st S := ws_iinc (i := 3) X hdg rfl hv hn (by have h := lst_put1 (.inl (.int v)) 3 0 (a0 :: a1 :: a2 :: some (.inl (.int x)) :: tl) (c1_get (j := 2) (a0 := a2) rfl hc); rw [Nat.zero_add] at h; exact h) K
theorem ws_iinc_4 (X : CX p s m args meth c G A cc own nL ret) {x v : Int32} {n : Int} {a0 a1 a2 a3 : Option MV} {tl : List (Option MV)} (hc : c1 a3 = true) (hdg : DC cc pc (.iinc 4 n) 3 nxt) (hv : x + Int32.ofInt n = v) (hn : 4 < nL) (K : WS p l e R s m args below meth c G A nL cells slots Q nxt (a0 :: a1 :: a2 :: a3 :: some (.inl (.int v)) :: tl) st S) : WS p l e R s m args below meth c G A nL cells slots Q pc (a0 :: a1 :: a2 :: a3 :: some (.inl (.int x)) :: tl) st S := ws_iinc (i := 4) X hdg rfl hv hn (by have h := lst_put1 (.inl (.int v)) 4 0 (a0 :: a1 :: a2 :: a3 :: some (.inl (.int x)) :: tl) (c1_get (j := 3) (a0 := a3) rfl hc); rw [Nat.zero_add] at h; exact h) K
theorem ws_iinc_5 (X : CX p s m args meth c G A cc own nL ret) {x v : Int32} {n : Int} {a0 a1 a2 a3 a4 : Option MV} {tl : List (Option MV)} (hc : c1 a4 = true) (hdg : DC cc pc (.iinc 5 n) 3 nxt) (hv : x + Int32.ofInt n = v) (hn : 5 < nL) (K : WS p l e R s m args below meth c G A nL cells slots Q nxt (a0 :: a1 :: a2 :: a3 :: a4 :: some (.inl (.int v)) :: tl) st S) : WS p l e R s m args below meth c G A nL cells slots Q pc (a0 :: a1 :: a2 :: a3 :: a4 :: some (.inl (.int x)) :: tl) st S := ws_iinc (i := 5) X hdg rfl hv hn (by have h := lst_put1 (.inl (.int v)) 5 0 (a0 :: a1 :: a2 :: a3 :: a4 :: some (.inl (.int x)) :: tl) (c1_get (j := 4) (a0 := a4) rfl hc); rw [Nat.zero_add] at h; exact h) K
theorem ws_iinc_6 (X : CX p s m args meth c G A cc own nL ret) {x v : Int32} {n : Int} {a0 a1 a2 a3 a4 a5 : Option MV} {tl : List (Option MV)} (hc : c1 a5 = true) (hdg : DC cc pc (.iinc 6 n) 3 nxt) (hv : x + Int32.ofInt n = v) (hn : 6 < nL) (K : WS p l e R s m args below meth c G A nL cells slots Q nxt (a0 :: a1 :: a2 :: a3 :: a4 :: a5 :: some (.inl (.int v)) :: tl) st S) : WS p l e R s m args below meth c G A nL cells slots Q pc (a0 :: a1 :: a2 :: a3 :: a4 :: a5 :: some (.inl (.int x)) :: tl) st S := ws_iinc (i := 6) X hdg rfl hv hn (by have h := lst_put1 (.inl (.int v)) 6 0 (a0 :: a1 :: a2 :: a3 :: a4 :: a5 :: some (.inl (.int x)) :: tl) (c1_get (j := 5) (a0 := a5) rfl hc); rw [Nat.zero_add] at h; exact h) K
theorem ws_iinc_7 (X : CX p s m args meth c G A cc own nL ret) {x v : Int32} {n : Int} {a0 a1 a2 a3 a4 a5 a6 : Option MV} {tl : List (Option MV)} (hc : c1 a6 = true) (hdg : DC cc pc (.iinc 7 n) 3 nxt) (hv : x + Int32.ofInt n = v) (hn : 7 < nL) (K : WS p l e R s m args below meth c G A nL cells slots Q nxt (a0 :: a1 :: a2 :: a3 :: a4 :: a5 :: a6 :: some (.inl (.int v)) :: tl) st S) : WS p l e R s m args below meth c G A nL cells slots Q pc (a0 :: a1 :: a2 :: a3 :: a4 :: a5 :: a6 :: some (.inl (.int x)) :: tl) st S := ws_iinc (i := 7) X hdg rfl hv hn (by have h := lst_put1 (.inl (.int v)) 7 0 (a0 :: a1 :: a2 :: a3 :: a4 :: a5 :: a6 :: some (.inl (.int x)) :: tl) (c1_get (j := 6) (a0 := a6) rfl hc); rw [Nat.zero_add] at h; exact h) K
theorem ws_iinc_8 (X : CX p s m args meth c G A cc own nL ret) {x v : Int32} {n : Int} {a0 a1 a2 a3 a4 a5 a6 a7 : Option MV} {tl : List (Option MV)} (hc : c1 a7 = true) (hdg : DC cc pc (.iinc 8 n) 3 nxt) (hv : x + Int32.ofInt n = v) (hn : 8 < nL) (K : WS p l e R s m args below meth c G A nL cells slots Q nxt (a0 :: a1 :: a2 :: a3 :: a4 :: a5 :: a6 :: a7 :: some (.inl (.int v)) :: tl) st S) : WS p l e R s m args below meth c G A nL cells slots Q pc (a0 :: a1 :: a2 :: a3 :: a4 :: a5 :: a6 :: a7 :: some (.inl (.int x)) :: tl) st S := ws_iinc (i := 8) X hdg rfl hv hn (by have h := lst_put1 (.inl (.int v)) 8 0 (a0 :: a1 :: a2 :: a3 :: a4 :: a5 :: a6 :: a7 :: some (.inl (.int x)) :: tl) (c1_get (j := 7) (a0 := a7) rfl hc); rw [Nat.zero_add] at h; exact h) K
theorem ws_iinc_9 (X : CX p s m args meth c G A cc own nL ret) {x v : Int32} {n : Int} {a0 a1 a2 a3 a4 a5 a6 a7 a8 : Option MV} {tl : List (Option MV)} (hc : c1 a8 = true) (hdg : DC cc pc (.iinc 9 n) 3 nxt) (hv : x + Int32.ofInt n = v) (hn : 9 < nL) (K : WS p l e R s m args below meth c G A nL cells slots Q nxt (a0 :: a1 :: a2 :: a3 :: a4 :: a5 :: a6 :: a7 :: a8 :: some (.inl (.int v)) :: tl) st S) : WS p l e R s m args below meth c G A nL cells slots Q pc (a0 :: a1 :: a2 :: a3 :: a4 :: a5 :: a6 :: a7 :: a8 :: some (.inl (.int x)) :: tl) st S := ws_iinc (i := 9) X hdg rfl hv hn (by have h := lst_put1 (.inl (.int v)) 9 0 (a0 :: a1 :: a2 :: a3 :: a4 :: a5 :: a6 :: a7 :: a8 :: some (.inl (.int x)) :: tl) (c1_get (j := 8) (a0 := a8) rfl hc); rw [Nat.zero_add] at h; exact h) K
theorem ws_iinc_10 (X : CX p s m args meth c G A cc own nL ret) {x v : Int32} {n : Int} {a0 a1 a2 a3 a4 a5 a6 a7 a8 a9 : Option MV} {tl : List (Option MV)} (hc : c1 a9 = true) (hdg : DC cc pc (.iinc 10 n) 3 nxt) (hv : x + Int32.ofInt n = v) (hn : 10 < nL) (K : WS p l e R s m args below meth c G A nL cells slots Q nxt (a0 :: a1 :: a2 :: a3 :: a4 :: a5 :: a6 :: a7 :: a8 :: a9 :: some (.inl (.int v)) :: tl) st S) : WS p l e R s m args below meth c G A nL cells slots Q pc (a0 :: a1 :: a2 :: a3 :: a4 :: a5 :: a6 :: a7 :: a8 :: a9 :: some (.inl (.int x)) :: tl) st S := ws_iinc (i := 10) X hdg rfl hv hn (by have h := lst_put1 (.inl (.int v)) 10 0 (a0 :: a1 :: a2 :: a3 :: a4 :: a5 :: a6 :: a7 :: a8 :: a9 :: some (.inl (.int x)) :: tl) (c1_get (j := 9) (a0 := a9) rfl hc); rw [Nat.zero_add] at h; exact h) K
theorem ws_iinc_11 (X : CX p s m args meth c G A cc own nL ret) {x v : Int32} {n : Int} {a0 a1 a2 a3 a4 a5 a6 a7 a8 a9 a10 : Option MV} {tl : List (Option MV)} (hc : c1 a10 = true) (hdg : DC cc pc (.iinc 11 n) 3 nxt) (hv : x + Int32.ofInt n = v) (hn : 11 < nL) (K : WS p l e R s m args below meth c G A nL cells slots Q nxt (a0 :: a1 :: a2 :: a3 :: a4 :: a5 :: a6 :: a7 :: a8 :: a9 :: a10 :: some (.inl (.int v)) :: tl) st S) : WS p l e R s m args below meth c G A nL cells slots Q pc (a0 :: a1 :: a2 :: a3 :: a4 :: a5 :: a6 :: a7 :: a8 :: a9 :: a10 :: some (.inl (.int x)) :: tl) st S := ws_iinc (i := 11) X hdg rfl hv hn (by have h := lst_put1 (.inl (.int v)) 11 0 (a0 :: a1 :: a2 :: a3 :: a4 :: a5 :: a6 :: a7 :: a8 :: a9 :: a10 :: some (.inl (.int x)) :: tl) (c1_get (j := 10) (a0 := a10) rfl hc); rw [Nat.zero_add] at h; exact h) K
theorem ws_iinc_12 (X : CX p s m args meth c G A cc own nL ret) {x v : Int32} {n : Int} {a0 a1 a2 a3 a4 a5 a6 a7 a8 a9 a10 a11 : Option MV} {tl : List (Option MV)} (hc : c1 a11 = true) (hdg : DC cc pc (.iinc 12 n) 3 nxt) (hv : x + Int32.ofInt n = v) (hn : 12 < nL) (K : WS p l e R s m args below meth c G A nL cells slots Q nxt (a0 :: a1 :: a2 :: a3 :: a4 :: a5 :: a6 :: a7 :: a8 :: a9 :: a10 :: a11 :: some (.inl (.int v)) :: tl) st S) : WS p l e R s m args below meth c G A nL cells slots Q pc (a0 :: a1 :: a2 :: a3 :: a4 :: a5 :: a6 :: a7 :: a8 :: a9 :: a10 :: a11 :: some (.inl (.int x)) :: tl) st S := ws_iinc (i := 12) X hdg rfl hv hn (by have h := lst_put1 (.inl (.int v)) 12 0 (a0 :: a1 :: a2 :: a3 :: a4 :: a5 :: a6 :: a7 :: a8 :: a9 :: a10 :: a11 :: some (.inl (.int x)) :: tl) (c1_get (j := 11) (a0 := a11) rfl hc); rw [Nat.zero_add] at h; exact h) K
theorem ws_iinc_13 (X : CX p s m args meth c G A cc own nL ret) {x v : Int32} {n : Int} {a0 a1 a2 a3 a4 a5 a6 a7 a8 a9 a10 a11 a12 : Option MV} {tl : List (Option MV)} (hc : c1 a12 = true) (hdg : DC cc pc (.iinc 13 n) 3 nxt) (hv : x + Int32.ofInt n = v) (hn : 13 < nL) (K : WS p l e R s m args below meth c G A nL cells slots Q nxt (a0 :: a1 :: a2 :: a3 :: a4 :: a5 :: a6 :: a7 :: a8 :: a9 :: a10 :: a11 :: a12 :: some (.inl (.int v)) :: tl) st S) : WS p l e R s m args below meth c G A nL cells slots Q pc (a0 :: a1 :: a2 :: a3 :: a4 :: a5 :: a6 :: a7 :: a8 :: a9 :: a10 :: a11 :: a12 :: some (.inl (.int x)) :: tl) st S := ws_iinc (i := 13) X hdg rfl hv hn (by have h := lst_put1 (.inl (.int v)) 13 0 (a0 :: a1 :: a2 :: a3 :: a4 :: a5 :: a6 :: a7 :: a8 :: a9 :: a10 :: a11 :: a12 :: some (.inl (.int x)) :: tl) (c1_get (j := 12) (a0 := a12) rfl hc); rw [Nat.zero_add] at h; exact h) K
theorem ws_iinc_14 (X : CX p s m args meth c G A cc own nL ret) {x v : Int32} {n : Int} {a0 a1 a2 a3 a4 a5 a6 a7 a8 a9 a10 a11 a12 a13 : Option MV} {tl : List (Option MV)} (hc : c1 a13 = true) (hdg : DC cc pc (.iinc 14 n) 3 nxt) (hv : x + Int32.ofInt n = v) (hn : 14 < nL) (K : WS p l e R s m args below meth c G A nL cells slots Q nxt (a0 :: a1 :: a2 :: a3 :: a4 :: a5 :: a6 :: a7 :: a8 :: a9 :: a10 :: a11 :: a12 :: a13 :: some (.inl (.int v)) :: tl) st S) : WS p l e R s m args below meth c G A nL cells slots Q pc (a0 :: a1 :: a2 :: a3 :: a4 :: a5 :: a6 :: a7 :: a8 :: a9 :: a10 :: a11 :: a12 :: a13 :: some (.inl (.int x)) :: tl) st S := ws_iinc (i := 14) X hdg rfl hv hn (by have h := lst_put1 (.inl (.int v)) 14 0 (a0 :: a1 :: a2 :: a3 :: a4 :: a5 :: a6 :: a7 :: a8 :: a9 :: a10 :: a11 :: a12 :: a13 :: some (.inl (.int x)) :: tl) (c1_get (j := 13) (a0 := a13) rfl hc); rw [Nat.zero_add] at h; exact h) K
theorem ws_iinc_15 (X : CX p s m args meth c G A cc own nL ret) {x v : Int32} {n : Int} {a0 a1 a2 a3 a4 a5 a6 a7 a8 a9 a10 a11 a12 a13 a14 : Option MV} {tl : List (Option MV)} (hc : c1 a14 = true) (hdg : DC cc pc (.iinc 15 n) 3 nxt) (hv : x + Int32.ofInt n = v) (hn : 15 < nL) (K : WS p l e R s m args below meth c G A nL cells slots Q nxt (a0 :: a1 :: a2 :: a3 :: a4 :: a5 :: a6 :: a7 :: a8 :: a9 :: a10 :: a11 :: a12 :: a13 :: a14 :: some (.inl (.int v)) :: tl) st S) : WS p l e R s m args below meth c G A nL cells slots Q pc (a0 :: a1 :: a2 :: a3 :: a4 :: a5 :: a6 :: a7 :: a8 :: a9 :: a10 :: a11 :: a12 :: a13 :: a14 :: some (.inl (.int x)) :: tl) st S := ws_iinc (i := 15) X hdg rfl hv hn (by have h := lst_put1 (.inl (.int v)) 15 0 (a0 :: a1 :: a2 :: a3 :: a4 :: a5 :: a6 :: a7 :: a8 :: a9 :: a10 :: a11 :: a12 :: a13 :: a14 :: some (.inl (.int x)) :: tl) (c1_get (j := 14) (a0 := a14) rfl hc); rw [Nat.zero_add] at h; exact h) K
def bI (b : Bool) : Int32 := if b then 1 else 0
theorem bI_z (b : Bool) : bI b = 0 ↔ b = false := by cases b <;> simp [bI]
theorem nbI (b : Bool) : narrow .boolean (.int (bI b)) = .int (bI b) := by cases b <;> rfl
theorem fbI (b : Bool) : fits .boolean (.int (bI b)) = true := by cases b <;> rfl
theorem vbI (b : Bool) : vp_nar .boolean (bI b) = bI b := by cases b <;> rfl
theorem ws_ifB_eq (X : CX p s m args meth c G A cc own nL ret) {b : Bool} (hdg : DB cc pc (.ifCond .eq off) off nxt tgt) (Kt : b = false → WS p l e R s m args below meth c G A nL cells slots Q tgt lv st S) (Kf : b = true → WS p l e R s m args below meth c G A nL cells slots Q nxt lv st S) : WS p l e R s m args below meth c G A nL cells slots Q pc lv (.inl (.int (bI b)) :: st) S := ws_if_eq X hdg (fun h => Kt ((bI_z b).mp h)) (fun h => Kf (by cases b; exact absurd ((bI_z false).mpr rfl) h; rfl))
theorem ws_ifB_ne (X : CX p s m args meth c G A cc own nL ret) {b : Bool} (hdg : DB cc pc (.ifCond .ne off) off nxt tgt) (Kt : b = true → WS p l e R s m args below meth c G A nL cells slots Q tgt lv st S) (Kf : b = false → WS p l e R s m args below meth c G A nL cells slots Q nxt lv st S) : WS p l e R s m args below meth c G A nL cells slots Q pc lv (.inl (.int (bI b)) :: st) S := ws_if_ne X hdg (fun h => Kt (by cases b; exact absurd ((bI_z false).mpr rfl) h; rfl)) (fun h => Kf ((bI_z b).mp h))
end WSR
end
section
/-! fields, arrays, static rows, calls, ends: over the world as one value -/
/-- field number idx of the class own's file is slot sl of kind k: its tag, target, type, whether it is final -/
def FLk (own : String) (idx k sl tg tk : Nat) (ty : FieldType) (fin : Bool) : Prop := ∃ (C : String) (T : u_T) (N : Nat) (ty0 : Nat → FieldType), clsL[k]? = some (C, T, N) ∧ sl < N ∧ N = nF k ∧ fTy k sl = (tg, tk) ∧ parseFieldDescriptor (T sl).2.2.1 = some ty ∧ (T sl).2.2.2 = fin ∧ (∀ j, j < N → parseFieldDescriptor (T j).2.2.1 = some (ty0 j)) ∧ (∀ a, a < N → ∀ b, b < N → a ≠ b → (T a).2.1 ≠ (T b).2.1) ∧ (Cond.fieldLink own idx (T sl).1 (T sl).2.1 (T sl).2.2.1 ∈ lw_gd ∨ ∃ h : String, Cond.fieldLinkNest own idx (T sl).1 (T sl).2.1 (T sl).2.2.1 h ∈ lw_ns)
theorem cls_lt {k : Nat} {q : vw_C} (h : clsL[k]? = some q) : k < 9 := (List.getElem?_eq_some_iff.mp h).1
theorem cel_obj {G : GG} {S : MS} {k i : Nat} (h : k < 9) : cel G S k i = .inr (k, (List.range (nF k)).map (fv G S k i)) := if_pos h
theorem cel_arr {G : GG} {S : MS} {k i : Nat} (h : ¬ k < 9) : cel G S k i = .inl (G.1 k i, acel G S k i) := if_neg h
theorem set_map_range {f g : Nat → Value} {n sl : Nat} {v : Value} (hg : g sl = v) (ho : ∀ j, j ≠ sl → g j = f j) : ((List.range n).map f).set sl v = (List.range n).map g := by
  apply List.ext_getElem?
  intro j
  by_cases hj : j = sl
  · subst hj
    by_cases hn : j < n
    · rw [List.getElem?_set_self (by simpa using hn), List.getElem?_map, List.getElem?_range hn, Option.map_some, hg]
    · rw [List.getElem?_eq_none (by simp; omega), List.getElem?_eq_none (by simp; omega)]
  · rw [List.getElem?_set_ne (Ne.symm hj), List.getElem?_map, List.getElem?_map]
    cases hr : (List.range n)[j]? with
    | none => rfl
    | some z =>
      have : z = j := by
        obtain ⟨h1, h2⟩ := List.getElem?_eq_some_iff.mp hr
        simpa using h2.symm
      subst this
      show some (f z) = some (g z)
      rw [ho z hj]
/-- two contents that tell the same of a cell -/
theorem cel_same {G : GG} {S S' : MS} {k i : Nat} (h1 : S'.1 k i = S.1 k i) (h2 : S'.2.1 k i = S.2.1 k i) (h3 : S'.2.2 k i = S.2.2 k i) : cel G S' k i = cel G S k i := by
  have e1 : fv G S' k i = fv G S k i := by
    funext s
    unfold fv
    rw [h1, h2]
  have e2 : acel G S' k i = acel G S k i := by
    unfold acel
    rw [h1, h2, h3]
  unfold cel
  rw [e1, e2]
theorem ne_pair {a b k i : Nat} (h : (a, b) ≠ (k, i)) : ¬ (a = k ∧ b = i) := fun z => h (by rw [z.1, z.2])
theorem wI_off {S : MS} {k i j a b : Nat} {v : Int32} (h : (a, b) ≠ (k, i)) : (wI S k i j v).1 a b = S.1 a b := by
  funext c
  show (if a = k ∧ b = i ∧ c = j then v else S.1 a b c) = S.1 a b c
  rw [if_neg (fun z => ne_pair h ⟨z.1, z.2.1⟩)]
theorem wL_off {S : MS} {k i j a b : Nat} {v : Int64} (h : (a, b) ≠ (k, i)) : (wL S k i j v).2.1 a b = S.2.1 a b := by
  funext c
  show (if a = k ∧ b = i ∧ c = j then v else S.2.1 a b c) = S.2.1 a b c
  rw [if_neg (fun z => ne_pair h ⟨z.1, z.2.1⟩)]
theorem wD_off {S : MS} {k i j a b : Nat} {v : UInt64} (h : (a, b) ≠ (k, i)) : (wD S k i j v).2.2 a b = S.2.2 a b := by
  funext c
  show (if a = k ∧ b = i ∧ c = j then v else S.2.2 a b c) = S.2.2 a b c
  rw [if_neg (fun z => ne_pair h ⟨z.1, z.2.1⟩)]
theorem wI_at (S : MS) (k i j : Nat) (v : Int32) (c : Nat) : (wI S k i j v).1 k i c = if c = j then v else S.1 k i c := by
  show (if k = k ∧ i = i ∧ c = j then v else S.1 k i c) = _
  simp
theorem wL_at (S : MS) (k i j : Nat) (v : Int64) (c : Nat) : (wL S k i j v).2.1 k i c = if c = j then v else S.2.1 k i c := by
  show (if k = k ∧ i = i ∧ c = j then v else S.2.1 k i c) = _
  simp
theorem wD_at (S : MS) (k i j : Nat) (v : UInt64) (c : Nat) : (wD S k i j v).2.2 k i c = if c = j then v else S.2.2 k i c := by
  show (if k = k ∧ i = i ∧ c = j then v else S.2.2 k i c) = _
  simp
theorem set_objI {G : GG} {S : MS} {q k i sl : Nat} {x : Int32} (hq : objs[q]? = some (k, i)) (hk : k < 9) (hT : (fTy k sl).1 = 0 ∨ (fTy k sl).1 = 3) : (wld G S).set q (G.2.1 k i, .inr (k, ((List.range (nF k)).map (fv G S k i)).set sl (.int x))) = wld G (wI S k i sl x) := by
  refine wld_set hq ?_ (fun a b h => cel_same (wI_off h) rfl rfl)
  rw [cel_obj hk, set_map_range (g := fv G (wI S k i sl x) k i)]
  · unfold fv
    rcases hT with h | h <;> simp only [h, wI_at, if_true]
  · intro j hj
    unfold fv
    simp only [wI_at, if_neg hj]
    rfl
theorem set_objL {G : GG} {S : MS} {q k i sl : Nat} {x : Int64} (hq : objs[q]? = some (k, i)) (hk : k < 9) (hT : (fTy k sl).1 = 1) : (wld G S).set q (G.2.1 k i, .inr (k, ((List.range (nF k)).map (fv G S k i)).set sl (.long x))) = wld G (wL S k i sl x) := by
  refine wld_set hq ?_ (fun a b h => cel_same rfl (wL_off h) rfl)
  rw [cel_obj hk, set_map_range (g := fv G (wL S k i sl x) k i)]
  · unfold fv
    simp only [hT, wL_at, if_true]
  · intro j hj
    unfold fv
    simp only [wL_at, if_neg hj]
    rfl
theorem set_arrI {G : GG} {S : MS} {q k i n j : Nat} {x : Int32} (hq : objs[q]? = some (k, i)) (hk : ¬ k < 9) (hT : aTy k = (0, n) ∨ aTy k = (1, n)) : (wld G S).set q (G.2.1 k i, .inl (G.1 k i, n, .inl (upd (S.1 k i) j x))) = wld G (wI S k i j x) := by
  refine wld_set hq ?_ (fun a b h => cel_same (wI_off h) rfl rfl)
  have e : (wI S k i j x).1 k i = upd (S.1 k i) j x := by
    funext c
    rw [wI_at]; rfl
  rw [cel_arr hk, acel, e]
  rcases hT with h | h <;> simp only [h]
theorem set_arrL {G : GG} {S : MS} {q k i n j : Nat} {x : Int64} (hq : objs[q]? = some (k, i)) (hk : ¬ k < 9) (hT : aTy k = (2, n)) : (wld G S).set q (G.2.1 k i, .inl (G.1 k i, n, .inr (.inl (vp_updL (S.2.1 k i) j x)))) = wld G (wL S k i j x) := by
  refine wld_set hq ?_ (fun a b h => cel_same rfl (wL_off h) rfl)
  have e : (wL S k i j x).2.1 k i = vp_updL (S.2.1 k i) j x := by
    funext c
    rw [wL_at]; rfl
  rw [cel_arr hk, acel, e]
  simp only [hT]
theorem set_arrD {G : GG} {S : MS} {q k i n j : Nat} {x : UInt64} (hq : objs[q]? = some (k, i)) (hk : ¬ k < 9) (hT : aTy k = (3, n)) : (wld G S).set q (G.2.1 k i, .inl (G.1 k i, n, .inr (.inr (.inr (.inl (vf_upd (S.2.2 k i) j x)))))) = wld G (wD S k i j x) := by
  refine wld_set hq ?_ (fun a b h => cel_same rfl rfl (wD_off h))
  have e : (wD S k i j x).2.2 k i = vf_upd (S.2.2 k i) j x := by
    funext c
    rw [wD_at]; rfl
  rw [cel_arr hk, acel, e]
  simp only [hT]
theorem fs_at {G : GG} {S : MS} {k i sl : Nat} (h : sl < nF k) : ((List.range (nF k)).map (fv G S k i))[sl]? = some (fv G S k i sl) := by
  rw [List.getElem?_map, List.getElem?_range h]; rfl
section WSH
variable {p : Program} {l : Launch} {e : Env} {R : Room} {s : State} {m : MethodId} {args : Array Value} {below : List Frame} {meth : Method} {c : Code} {G : GG} {A : Nat → Prop} {cells slots : Nat} {Q : State → Prop} {cc : ByteArray} {own : String} {nL : Nat} {ret : Option FieldType}
variable {pc nxt tgt : Nat} {lv : List (Option MV)} {st : List MV} {S : MS} {off : Int} {k i sl tg tk idx : Nat} {ty : FieldType} {fin : Bool}
theorem ws_get0 (X : CX p s m args meth c G A cc own nL ret) {v : MV} (hF : FLk own idx k sl tg tk ty fin) (ho : (k, i) ∈ objs) (hdg : DC cc pc (.getfield idx) 3 nxt) (hv : ∀ G' : GG, fv G' S k i sl = tr G' v) (K : WS p l e R s m args below meth c G A nL cells slots Q nxt lv (v :: st) S) : WS p l e R s m args below meth c G A nL cells slots Q pc lv (.inr (k, i) :: st) S := by
  obtain ⟨h1, rfl⟩ := hdg
  obtain ⟨C, T, N, ty0, hc, hs, hN, hT, hd, hfin, hty, hnm, hlk⟩ := hF
  obtain ⟨q, hq⟩ := wld_has ho
  intro H locs ls hP hD hS hl
  have he : (wld G S)[q]? = some (G.2.1 k i, .inr (k, (List.range (nF k)).map (fv G S k i))) := by rw [wld_get hq, cel_obj (cls_lt hc)]
  have hin : ∀ w ∈ u_ws C T N, w ∈ lw_gd := cls_in (C, T, N) (List.mem_of_getElem? hc)
  have hvv : ((List.range (nF k)).map (fv G S k i))[sl]? = some (tr G v) := by rw [fs_at (by omega), hv G]
  rcases hlk with hlk | ⟨h, hlk⟩
  · exact va_get X.1 X.2.1 X.2.2.2.2.1 hin X.2.2.2.1 X.2.2.2.2.2.1 hP q he hc sl hs (X.2.2.2.2.1 _ hlk) (fun _ z => z) hvv h1 (K H locs ls hP hD hS hl)
  · exact va_getN X.1 X.2.1 X.2.2.2.2.1 hin X.2.2.2.1 X.2.2.2.2.2.1 hP q he hc sl hs (va_Nw.use rfl (X.2.2.2.2.2.2.2.1.2 _ hlk)) (fun _ z => z) hvv h1 (K H locs ls hP hD hS hl)
theorem ws_getI (X : CX p s m args meth c G A cc own nL ret) (hF : FLk own idx k sl 0 0 ty fin) (ho : (k, i) ∈ objs) (hdg : DC cc pc (.getfield idx) 3 nxt) (K : WS p l e R s m args below meth c G A nL cells slots Q nxt lv (.inl (.int (S.1 k i sl)) :: st) S) : WS p l e R s m args below meth c G A nL cells slots Q pc lv (.inr (k, i) :: st) S := by
  refine ws_get0 X hF ho hdg (fun G' => ?_) K
  obtain ⟨C, T, N, ty0, hc, hs, hN, hT, -⟩ := hF
  simp only [fv, hT]; rfl
theorem ws_getZ (X : CX p s m args meth c G A cc own nL ret) (hF : FLk own idx k sl 3 0 ty fin) (ho : (k, i) ∈ objs) (hdg : DC cc pc (.getfield idx) 3 nxt) (K : WS p l e R s m args below meth c G A nL cells slots Q nxt lv (.inl (.int (S.1 k i sl)) :: st) S) : WS p l e R s m args below meth c G A nL cells slots Q pc lv (.inr (k, i) :: st) S := by
  refine ws_get0 X hF ho hdg (fun G' => ?_) K
  obtain ⟨C, T, N, ty0, hc, hs, hN, hT, -⟩ := hF
  simp only [fv, hT]; rfl
theorem ws_getL (X : CX p s m args meth c G A cc own nL ret) (hF : FLk own idx k sl 1 0 ty fin) (ho : (k, i) ∈ objs) (hdg : DC cc pc (.getfield idx) 3 nxt) (K : WS p l e R s m args below meth c G A nL cells slots Q nxt lv (.inl (.long (S.2.1 k i sl)) :: st) S) : WS p l e R s m args below meth c G A nL cells slots Q pc lv (.inr (k, i) :: st) S := by
  refine ws_get0 X hF ho hdg (fun G' => ?_) K
  obtain ⟨C, T, N, ty0, hc, hs, hN, hT, -⟩ := hF
  simp only [fv, hT]; rfl
theorem ws_getR (X : CX p s m args meth c G A cc own nL ret) (hF : FLk own idx k sl 2 tk ty fin) (ho : (k, i) ∈ objs) (hdg : DC cc pc (.getfield idx) 3 nxt) (K : WS p l e R s m args below meth c G A nL cells slots Q nxt lv (.inr (tk, i) :: st) S) : WS p l e R s m args below meth c G A nL cells slots Q pc lv (.inr (k, i) :: st) S := by
  refine ws_get0 X hF ho hdg (fun G' => ?_) K
  obtain ⟨C, T, N, ty0, hc, hs, hN, hT, -⟩ := hF
  simp only [fv, hT]; rfl
theorem ws_put0 (X : CX p s m args meth c G A cc own nL ret) {v : MV} {S' : MS} (hF : FLk own idx k sl tg tk ty false) (ho : (k, i) ∈ objs) (hdg : DC cc pc (.putfield idx) 3 nxt) (hn : narrow ty (tr G v) = tr G v) (hfit : fits ty (tr G v) = true) (hset : ∀ q, objs[q]? = some (k, i) → (wld G S).set q (G.2.1 k i, .inr (k, ((List.range (nF k)).map (fv G S k i)).set sl (tr G v))) = wld G S') (K : WS p l e R s m args below meth c G A nL cells slots Q nxt lv st S') : WS p l e R s m args below meth c G A nL cells slots Q pc lv (v :: .inr (k, i) :: st) S := by
  obtain ⟨h1, rfl⟩ := hdg
  obtain ⟨C, T, N, ty0, hc, hs, hN, hT, hd, hfin, hty, hnm, hlk⟩ := hF
  obtain ⟨q, hq⟩ := wld_has ho
  intro H locs ls hP hD hS hl
  have he : (wld G S)[q]? = some (G.2.1 k i, .inr (k, (List.range (nF k)).map (fv G S k i))) := by rw [wld_get hq, cel_obj (cls_lt hc)]
  have hin : ∀ w ∈ u_ws C T N, w ∈ lw_gd := cls_in (C, T, N) (List.mem_of_getElem? hc)
  have hlen : sl < ((List.range (nF k)).map (fv G S k i)).length := by simp; omega
  rcases hlk with hlk | ⟨h, hlk⟩
  · exact va_put X.1 X.2.1 X.2.2.2.2.1 hin ty0 hty hnm X.2.2.2.1 X.2.2.2.2.2.1 hP hD hS q he hc sl hs (X.2.2.2.2.1 _ hlk) (fun _ z => z) hfin hd hn hfit hlen h1 (fun H1 locs1 hP1 hD1 hS1 => by rw [hset q hq] at hP1 hD1; exact K H1 locs1 ls hP1 hD1 hS1 hl)
  · exact va_putN X.1 X.2.1 X.2.2.2.2.1 hin ty0 hty hnm X.2.2.2.1 X.2.2.2.2.2.1 hP hD hS q he hc sl hs (va_Nw.use rfl (X.2.2.2.2.2.2.2.1.2 _ hlk)) (fun _ z => z) hfin hd hn hfit hlen h1 (fun H1 locs1 hP1 hD1 hS1 => by rw [hset q hq] at hP1 hD1; exact K H1 locs1 ls hP1 hD1 hS1 hl)
theorem FLk.lt {own : String} {idx k sl tg tk : Nat} {ty : FieldType} {fin : Bool} (h : FLk own idx k sl tg tk ty fin) : k < 9 := by
  obtain ⟨C, T, N, ty0, hc, -⟩ := h
  exact cls_lt hc
theorem FLk.fT {own : String} {idx k sl tg tk : Nat} {ty : FieldType} {fin : Bool} (h : FLk own idx k sl tg tk ty fin) : fTy k sl = (tg, tk) := by
  obtain ⟨C, T, N, ty0, hc, hs, hN, hT, -⟩ := h
  exact hT
theorem ws_putI (X : CX p s m args meth c G A cc own nL ret) {x : Int32} (hF : FLk own idx k sl 0 0 .int false) (ho : (k, i) ∈ objs) (hdg : DC cc pc (.putfield idx) 3 nxt) (K : WS p l e R s m args below meth c G A nL cells slots Q nxt lv st (wI S k i sl x)) : WS p l e R s m args below meth c G A nL cells slots Q pc lv (.inl (.int x) :: .inr (k, i) :: st) S :=
  ws_put0 X hF ho hdg rfl rfl (fun q hq => set_objI hq hF.lt (Or.inl (by rw [hF.fT]))) K
theorem ws_putZ (X : CX p s m args meth c G A cc own nL ret) {x : Int32} (hx : narrow .boolean (.int x) = .int x ∧ fits .boolean (.int x) = true) (hF : FLk own idx k sl 3 0 .boolean false) (ho : (k, i) ∈ objs) (hdg : DC cc pc (.putfield idx) 3 nxt) (K : WS p l e R s m args below meth c G A nL cells slots Q nxt lv st (wI S k i sl x)) : WS p l e R s m args below meth c G A nL cells slots Q pc lv (.inl (.int x) :: .inr (k, i) :: st) S :=
  ws_put0 X hF ho hdg hx.1 hx.2 (fun q hq => set_objI hq hF.lt (Or.inr (by rw [hF.fT]))) K
theorem ws_putL (X : CX p s m args meth c G A cc own nL ret) {x : Int64} (hF : FLk own idx k sl 1 0 .long false) (ho : (k, i) ∈ objs) (hdg : DC cc pc (.putfield idx) 3 nxt) (K : WS p l e R s m args below meth c G A nL cells slots Q nxt lv st (wL S k i sl x)) : WS p l e R s m args below meth c G A nL cells slots Q pc lv (.inl (.long x) :: .inr (k, i) :: st) S :=
  ws_put0 X hF ho hdg rfl rfl (fun q hq => set_objL hq hF.lt (by rw [hF.fT])) K
/-! arrays -/
def AKk (k tg n : Nat) : Prop := ¬ k < 9 ∧ aTy k = (tg, n)
theorem AKk.ft {k tg n : Nat} (h : AKk k tg n) {G : GG} (ho : (k, i) ∈ objs) : ∃ t0 : Nat, (tyl G)[t0]? = some (G.1 k i, aFT k) := tyl_get ho h.1
theorem ws_iald (X : CX p s m args meth c G A cc own nL ret) {j : Int32} {n : Nat} (hk : AKk k 0 n) (ho : (k, i) ∈ objs) (hin : vp_in j n) (hdg : DC cc pc .iaload 1 nxt) (K : WS p l e R s m args below meth c G A nL cells slots Q nxt lv (.inl (.int (S.1 k i j.toNatClampNeg)) :: st) S) : WS p l e R s m args below meth c G A nL cells slots Q pc lv (.inl (.int j) :: .inr (k, i) :: st) S := by
  obtain ⟨h1, rfl⟩ := hdg
  obtain ⟨q, hq⟩ := wld_has ho
  obtain ⟨t0, ht0⟩ := hk.ft (G := G) ho
  intro H locs ls hP hD hS hl
  have ha : (wld G S)[q]? = some (G.2.1 k i, .inl (G.1 k i, n, .inl (S.1 k i))) := by
    rw [wld_get hq, cel_arr hk.1, acel]; simp only [hk.2]
  have ht : (tyl G)[t0]? = some (G.1 k i, .int) := by
    rw [ht0, aFT]; simp only [hk.2]
  exact va_iald X.1 X.2.1 X.2.2.2.2.2.1 hP q t0 (f := S.1 k i) ha ht hin h1 (K H locs ls hP hD hS hl)
theorem ws_zald (X : CX p s m args meth c G A cc own nL ret) {j : Int32} {n : Nat} (hk : AKk k 1 n) (ho : (k, i) ∈ objs) (hin : vp_in j n) (hdg : DC cc pc .baload 1 nxt) (K : WS p l e R s m args below meth c G A nL cells slots Q nxt lv (.inl (.int (S.1 k i j.toNatClampNeg)) :: st) S) : WS p l e R s m args below meth c G A nL cells slots Q pc lv (.inl (.int j) :: .inr (k, i) :: st) S := by
  obtain ⟨h1, rfl⟩ := hdg
  obtain ⟨q, hq⟩ := wld_has ho
  obtain ⟨t0, ht0⟩ := hk.ft (G := G) ho
  intro H locs ls hP hD hS hl
  have ha : (wld G S)[q]? = some (G.2.1 k i, .inl (G.1 k i, n, .inl (S.1 k i))) := by
    rw [wld_get hq, cel_arr hk.1, acel]; simp only [hk.2]
  have ht : (tyl G)[t0]? = some (G.1 k i, .boolean) := by
    rw [ht0, aFT]; simp only [hk.2]
  exact va_zald X.1 X.2.1 X.2.2.2.2.2.1 hP q t0 (f := S.1 k i) ha ht hin h1 (K H locs ls hP hD hS hl)
theorem ws_lald (X : CX p s m args meth c G A cc own nL ret) {j : Int32} {n : Nat} (hk : AKk k 2 n) (ho : (k, i) ∈ objs) (hin : vp_in j n) (hdg : DC cc pc .laload 1 nxt) (K : WS p l e R s m args below meth c G A nL cells slots Q nxt lv (.inl (.long (S.2.1 k i j.toNatClampNeg)) :: st) S) : WS p l e R s m args below meth c G A nL cells slots Q pc lv (.inl (.int j) :: .inr (k, i) :: st) S := by
  obtain ⟨h1, rfl⟩ := hdg
  obtain ⟨q, hq⟩ := wld_has ho
  obtain ⟨t0, ht0⟩ := hk.ft (G := G) ho
  intro H locs ls hP hD hS hl
  have ha : (wld G S)[q]? = some (G.2.1 k i, .inl (G.1 k i, n, .inr (.inl (S.2.1 k i)))) := by
    rw [wld_get hq, cel_arr hk.1, acel]; simp only [hk.2]
  have ht : (tyl G)[t0]? = some (G.1 k i, .long) := by
    rw [ht0, aFT]; simp only [hk.2]
  exact va_lald X.1 X.2.1 X.2.2.2.2.2.1 hP q t0 (f := S.2.1 k i) ha ht hin h1 (K H locs ls hP hD hS hl)
theorem ws_dald (X : CX p s m args meth c G A cc own nL ret) {j : Int32} {n : Nat} (hk : AKk k 3 n) (ho : (k, i) ∈ objs) (hin : vp_in j n) (hdg : DC cc pc .daload 1 nxt) (K : WS p l e R s m args below meth c G A nL cells slots Q nxt lv (.inl (.double (S.2.2 k i j.toNatClampNeg)) :: st) S) : WS p l e R s m args below meth c G A nL cells slots Q pc lv (.inl (.int j) :: .inr (k, i) :: st) S := by
  obtain ⟨h1, rfl⟩ := hdg
  obtain ⟨q, hq⟩ := wld_has ho
  obtain ⟨t0, ht0⟩ := hk.ft (G := G) ho
  intro H locs ls hP hD hS hl
  have ha : (wld G S)[q]? = some (G.2.1 k i, .inl (G.1 k i, n, .inr (.inr (.inr (.inl (S.2.2 k i)))))) := by
    rw [wld_get hq, cel_arr hk.1, acel]; simp only [hk.2]
  have ht : (tyl G)[t0]? = some (G.1 k i, .double) := by
    rw [ht0, aFT]; simp only [hk.2]
  exact va_dald X.1 X.2.1 X.2.2.2.2.2.1 hP q t0 (f := S.2.2 k i) ha ht hin h1 (K H locs ls hP hD hS hl)
theorem ws_aald (X : CX p s m args meth c G A cc own nL ret) {j : Int32} {n : Nat} (hk : AKk k 4 n) (ho : (k, i) ∈ objs) (hin : vp_in j n) (hdg : DC cc pc .aaload 1 nxt) (K : WS p l e R s m args below meth c G A nL cells slots Q nxt lv (.inr (4, j.toNatClampNeg) :: st) S) : WS p l e R s m args below meth c G A nL cells slots Q pc lv (.inl (.int j) :: .inr (k, i) :: st) S := by
  obtain ⟨h1, rfl⟩ := hdg
  obtain ⟨q, hq⟩ := wld_has ho
  obtain ⟨t0, ht0⟩ := hk.ft (G := G) ho
  intro H locs ls hP hD hS hl
  have ha : (wld G S)[q]? = some (G.2.1 k i, .inl (G.1 k i, n, .inr (.inr (.inr (.inr (fun j => some (G.2.1 4 j))))))) := by
    rw [wld_get hq, cel_arr hk.1, acel]; simp only [hk.2]
  have ht : (tyl G)[t0]? = some (G.1 k i, .object "InstrumentFiles$Method") := by
    rw [ht0, aFT]; simp only [hk.2]
  exact va_aldq X.1 X.2.1 X.2.2.2.2.2.1 hP q t0 (f := fun j => some (G.2.1 4 j)) (C := "InstrumentFiles$Method") ha ht hin h1 (K H locs ls hP hD hS hl)
theorem ws_iast (X : CX p s m args meth c G A cc own nL ret) {j x : Int32} {n : Nat} (hk : AKk k 0 n) (ho : (k, i) ∈ objs) (hin : vp_in j n) (hdg : DC cc pc .iastore 1 nxt) (K : WS p l e R s m args below meth c G A nL cells slots Q nxt lv st (wI S k i j.toNatClampNeg x)) : WS p l e R s m args below meth c G A nL cells slots Q pc lv (.inl (.int x) :: .inl (.int j) :: .inr (k, i) :: st) S := by
  obtain ⟨h1, rfl⟩ := hdg
  obtain ⟨q, hq⟩ := wld_has ho
  obtain ⟨t0, ht0⟩ := hk.ft (G := G) ho
  intro H locs ls hP hD hS hl
  have ha : (wld G S)[q]? = some (G.2.1 k i, .inl (G.1 k i, n, .inl (S.1 k i))) := by
    rw [wld_get hq, cel_arr hk.1, acel]; simp only [hk.2]
  have ht : (tyl G)[t0]? = some (G.1 k i, .int) := by
    rw [ht0, aFT]; simp only [hk.2]
  exact va_iast X.1 X.2.1 X.2.2.2.2.2.1 hP hD hS q t0 (f := S.1 k i) (n := n) ha ht hin h1 (fun H1 locs1 hP1 hD1 hS1 => by rw [set_arrI hq hk.1 (Or.inl hk.2)] at hP1 hD1; exact K H1 locs1 ls hP1 hD1 hS1 hl)
theorem ws_zast (X : CX p s m args meth c G A cc own nL ret) {j x : Int32} {n : Nat} (hx : vp_nar .boolean x = x) (hk : AKk k 1 n) (ho : (k, i) ∈ objs) (hin : vp_in j n) (hdg : DC cc pc .bastore 1 nxt) (K : WS p l e R s m args below meth c G A nL cells slots Q nxt lv st (wI S k i j.toNatClampNeg x)) : WS p l e R s m args below meth c G A nL cells slots Q pc lv (.inl (.int x) :: .inl (.int j) :: .inr (k, i) :: st) S := by
  obtain ⟨h1, rfl⟩ := hdg
  obtain ⟨q, hq⟩ := wld_has ho
  obtain ⟨t0, ht0⟩ := hk.ft (G := G) ho
  intro H locs ls hP hD hS hl
  have ha : (wld G S)[q]? = some (G.2.1 k i, .inl (G.1 k i, n, .inl (S.1 k i))) := by
    rw [wld_get hq, cel_arr hk.1, acel]; simp only [hk.2]
  have ht : (tyl G)[t0]? = some (G.1 k i, .boolean) := by
    rw [ht0, aFT]; simp only [hk.2]
  exact va_zast X.1 X.2.1 X.2.2.2.2.2.1 hP hD hS q t0 (f := S.1 k i) (n := n) ha ht hin h1 (fun H1 locs1 hP1 hD1 hS1 => by rw [hx, set_arrI hq hk.1 (Or.inr hk.2)] at hP1 hD1; exact K H1 locs1 ls hP1 hD1 hS1 hl)
theorem ws_last (X : CX p s m args meth c G A cc own nL ret) {j : Int32} {x : Int64} {n : Nat} (hk : AKk k 2 n) (ho : (k, i) ∈ objs) (hin : vp_in j n) (hdg : DC cc pc .lastore 1 nxt) (K : WS p l e R s m args below meth c G A nL cells slots Q nxt lv st (wL S k i j.toNatClampNeg x)) : WS p l e R s m args below meth c G A nL cells slots Q pc lv (.inl (.long x) :: .inl (.int j) :: .inr (k, i) :: st) S := by
  obtain ⟨h1, rfl⟩ := hdg
  obtain ⟨q, hq⟩ := wld_has ho
  obtain ⟨t0, ht0⟩ := hk.ft (G := G) ho
  intro H locs ls hP hD hS hl
  have ha : (wld G S)[q]? = some (G.2.1 k i, .inl (G.1 k i, n, .inr (.inl (S.2.1 k i)))) := by
    rw [wld_get hq, cel_arr hk.1, acel]; simp only [hk.2]
  have ht : (tyl G)[t0]? = some (G.1 k i, .long) := by
    rw [ht0, aFT]; simp only [hk.2]
  exact va_last X.1 X.2.1 X.2.2.2.2.2.1 hP hD hS q t0 (f := S.2.1 k i) (n := n) ha ht hin h1 (fun H1 locs1 hP1 hD1 hS1 => by rw [set_arrL hq hk.1 hk.2] at hP1 hD1; exact K H1 locs1 ls hP1 hD1 hS1 hl)
theorem ws_dast (X : CX p s m args meth c G A cc own nL ret) {j : Int32} {x : UInt64} {n : Nat} (hk : AKk k 3 n) (ho : (k, i) ∈ objs) (hin : vp_in j n) (hdg : DC cc pc .dastore 1 nxt) (K : WS p l e R s m args below meth c G A nL cells slots Q nxt lv st (wD S k i j.toNatClampNeg x)) : WS p l e R s m args below meth c G A nL cells slots Q pc lv (.inl (.double x) :: .inl (.int j) :: .inr (k, i) :: st) S := by
  obtain ⟨h1, rfl⟩ := hdg
  obtain ⟨q, hq⟩ := wld_has ho
  obtain ⟨t0, ht0⟩ := hk.ft (G := G) ho
  intro H locs ls hP hD hS hl
  have ha : (wld G S)[q]? = some (G.2.1 k i, .inl (G.1 k i, n, .inr (.inr (.inr (.inl (S.2.2 k i)))))) := by
    rw [wld_get hq, cel_arr hk.1, acel]; simp only [hk.2]
  have ht : (tyl G)[t0]? = some (G.1 k i, .double) := by
    rw [ht0, aFT]; simp only [hk.2]
  exact va_dast X.1 X.2.1 X.2.2.2.2.2.1 hP hD hS q t0 (f := S.2.2 k i) (n := n) ha ht hin h1 (fun H1 locs1 hP1 hD1 hS1 => by rw [set_arrD hq hk.1 hk.2] at hP1 hD1; exact K H1 locs1 ls hP1 hD1 hS1 hl)
theorem acel_len {G : GG} {S : MS} {k i tg n : Nat} (h : aTy k = (tg, n)) : (acel G S k i).1 = n := by
  unfold acel
  rw [h]
  match tg with
  | 0 => rfl
  | 1 => rfl
  | 2 => rfl
  | 3 => rfl
  | _ + 4 => rfl
theorem ws_alen (X : CX p s m args meth c G A cc own nL ret) {n tg : Nat} {v : Int32} (hk : AKk k tg n) (ho : (k, i) ∈ objs) (hv : Int32.ofNat n = v) (hdg : DC cc pc .arraylength 1 nxt) (K : WS p l e R s m args below meth c G A nL cells slots Q nxt lv (.inl (.int v) :: st) S) : WS p l e R s m args below meth c G A nL cells slots Q pc lv (.inr (k, i) :: st) S := by
  obtain ⟨h1, rfl⟩ := hdg
  obtain ⟨q, hq⟩ := wld_has ho
  obtain ⟨t0, ht0⟩ := hk.ft (G := G) ho
  intro H locs ls hP hD hS hl
  exact va_alen X.1 X.2.1 X.2.2.2.2.2.1 hP q t0 (x := acel G S k i) (by rw [wld_get hq, cel_arr hk.1]) ht0 (by rw [acel_len hk.2]; exact hv) h1 (K H locs ls hP hD hS hl)
/-! the static rows -/
theorem ws_gets (X : CX p s m args meth c G A cc own nL ret) (k : Nat) (hk : k < 3) (hlk : Cond.fieldLink own idx "InstrumentFiles$Ops" (stn k) "[I" ∈ lw_gd) (hdg : DC cc pc (.getstatic idx) 3 nxt) (K : WS p l e R s m args below meth c G A nL cells slots Q nxt lv (.inl (.ref (G.2.2.2 k)) :: st) S) : WS p l e R s m args below meth c G A nL cells slots Q pc lv st S := by
  obtain ⟨h1, rfl⟩ := hdg
  intro H locs ls hP hD hS hl
  exact va_gets X.1 X.2.1 (X.2.2.2.2.2.2.2.1.1 k hk).1 hS X.2.2.2.1 (X.2.2.2.2.1 _ hlk) (fun _ z => z) h1 (K H locs ls hP hD hS hl)
theorem ws_tlen (X : CX p s m args meth c G A cc own nL ret) (k : Nat) (hk : k < 3) (hdg : DC cc pc .arraylength 1 nxt) (K : WS p l e R s m args below meth c G A nL cells slots Q nxt lv (.inl (.int 25) :: st) S) : WS p l e R s m args below meth c G A nL cells slots Q pc lv (.inl (.ref (G.2.2.2 k)) :: st) S := by
  obtain ⟨h1, rfl⟩ := hdg
  intro H locs ls hP hD hS hl
  exact va_tlen X.1 X.2.1 (X.2.2.2.2.2.2.2.1.1 k hk).2 hS rfl h1 (K H locs ls hP hD hS hl)
theorem ws_tald (X : CX p s m args meth c G A cc own nL ret) (k : Nat) (hk : k < 3) {j : Int32} (hin : vp_in j 25) (hdg : DC cc pc .iaload 1 nxt) (K : WS p l e R s m args below meth c G A nL cells slots Q nxt lv (.inl (.int ((stv k).getD j.toNatClampNeg 0)) :: st) S) : WS p l e R s m args below meth c G A nL cells slots Q pc lv (.inl (.int j) :: .inl (.ref (G.2.2.2 k)) :: st) S := by
  obtain ⟨h1, rfl⟩ := hdg
  intro H locs ls hP hD hS hl
  exact va_ti X.1 X.2.1 (X.2.2.2.2.2.2.2.1.1 k hk).2 hS hin rfl h1 (K H locs ls hP hD hS hl)
/-! the law's script -/
theorem ws_slen (X : CX p s m args meth c G A cc own nL ret) {b L : Nat} {xs : Nat → Int32} (hX : va_X b L xs s s.heap) (hbl : b < s.heap.size) (hbA : ¬ A b) (hdg : DC cc pc .arraylength 1 nxt) (K : WS p l e R s m args below meth c G A nL cells slots Q nxt lv (.inl (.int (Int32.ofNat L)) :: st) S) : WS p l e R s m args below meth c G A nL cells slots Q pc lv (.inl (.ref b) :: st) S := by
  obtain ⟨h1, rfl⟩ := hdg
  intro H locs ls hP hD hS hl
  exact va_slen X.1 X.2.1 hX hbl hbA hS h1 (K H locs ls hP hD hS hl)
theorem ws_sld (X : CX p s m args meth c G A cc own nL ret) {b L : Nat} {xs : Nat → Int32} (hX : va_X b L xs s s.heap) (hbl : b < s.heap.size) (hbA : ¬ A b) {j : Int32} (hin : vp_in j L) (hdg : DC cc pc .iaload 1 nxt) (K : WS p l e R s m args below meth c G A nL cells slots Q nxt lv (.inl (.int (xs j.toNatClampNeg)) :: st) S) : WS p l e R s m args below meth c G A nL cells slots Q pc lv (.inl (.int j) :: .inl (.ref b) :: st) S := by
  obtain ⟨h1, rfl⟩ := hdg
  intro H locs ls hP hD hS hl
  exact va_sld X.1 X.2.1 hX hbl hbA hS hin h1 (K H locs ls hP hD hS hl)
end WSH
end
section
/-! ends, entries and calls, over the world as one value -/
theorem goodIn_gd {ws : List Cond} (h : ∀ w ∈ ws, w ∈ lw_gd) : GoodIn lw_gd ws := fun w hw => ⟨h w hw, gd_good (h w hw)⟩
theorem wsS0_in {y : MethodName} {cc : ByteArray} {nL : Nat} {ret : Option FieldType} (h : Cond.code y cc nL ret ∈ lw_gd) : ∀ w ∈ wsS0 y cc nL ret, w ∈ lw_gd := fun w hw => by
  rcases List.mem_cons.mp hw with rfl | h2
  · exact h
  · exact h2
/-- the first locals of a method -/
def elv : List MV → List (Option MV)
  | [] => []
  | v :: t => if mcat v = 2 then some v :: none :: elv t else some v :: elv t
theorem asl_none {G : GG} : ∀ (k n : Nat), asl G n (List.replicate k none) = []
  | 0, _ => rfl
  | k + 1, n => by
    rw [List.replicate_succ]
    exact asl_none k (n + 1)
theorem asl_app {G : GG} : ∀ (a b : List (Option MV)) (n : Nat), asl G n (a ++ b) = asl G n a ++ asl G (n + a.length) b
  | [], b, n => rfl
  | none :: t, b, n => by
    show asl G (n + 1) (t ++ b) = asl G (n + 1) t ++ _
    rw [asl_app t b (n + 1), List.length_cons, show n + 1 + t.length = n + (t.length + 1) by omega]
  | some v :: t, b, n => by
    show _ :: asl G (n + 1) (t ++ b) = _ :: asl G (n + 1) t ++ _
    rw [asl_app t b (n + 1), List.length_cons, show n + 1 + t.length = n + (t.length + 1) by omega]; rfl
theorem asl_elv {G : GG} : ∀ (av : List MV) (n : Nat), asl G n (elv av) = lv_args n (av.map (tr G))
  | [], _ => rfl
  | v :: t, n => by
    have hc := tr_cat G v
    show asl G n (if mcat v = 2 then some v :: none :: elv t else some v :: elv t) = (n, tr G v) :: lv_args (if (tr G v).category = 2 then n + 2 else n + 1) (t.map (tr G))
    rw [hc]
    by_cases h : mcat v = 2
    · rw [if_pos h, if_pos h]
      show _ :: asl G (n + 1 + 1) (elv t) = _
      rw [asl_elv t (n + 1 + 1)]
    · rw [if_neg h, if_neg h]
      show _ :: asl G (n + 1) (elv t) = _
      rw [asl_elv t (n + 1)]
theorem elv_len {G : GG} : ∀ (av : List MV), (lg_sl (av.map (tr G))).length = (elv av).length
  | [] => rfl
  | v :: t => by
    have hc := tr_cat G v
    have h2 := elv_len (G := G) t
    show (lg_sl (tr G v :: t.map (tr G))).length = (if mcat v = 2 then some v :: none :: elv t else some v :: elv t).length
    rw [show lg_sl (tr G v :: t.map (tr G)) = (if (tr G v).category = 2 then [Slot.val (tr G v), .second] else [.val (tr G v)]) ++ lg_sl (t.map (tr G)) from rfl, hc]
    by_cases h : mcat v = 2
    · rw [if_pos h, if_pos h, List.length_append, h2]
      simp only [List.length_cons, List.length_nil]; omega
    · rw [if_neg h, if_neg h, List.length_append, h2]
      simp only [List.length_cons, List.length_nil]; omega
section WSK
variable {p : Program} {l : Launch} {e : Env} {R : Room} {s : State} {m : MethodId} {args : Array Value} {below : List Frame} {meth : Method} {c : Code} {G : GG} {A : Nat → Prop} {cells slots : Nat} {Q : State → Prop} {cc : ByteArray} {own : String} {nL : Nat} {ret : Option FieldType}
variable {pc nxt tgt : Nat} {lv : List (Option MV)} {st : List MV} {S : MS} {off : Int} {k i sl tg tk idx : Nat} {ty : FieldType} {fin : Bool}
/-- a method's contract out of its walk -/
theorem MetS.of {y : MethodName} {fr lo : Nat} {av : List MV} {lv0 : List (Option MV)} {Fin : Option MV → MS → Prop} (hy : plainName y.cls = true) (hlv : elv av ++ List.replicate (nL - (elv av).length) none = lv0) (hn : (elv av).length ≤ nL)
    (body : ∀ (p : Program) (l : Launch) (e : Env) (s : State) (m : MethodId) (args : Array Value) (below : List Frame) (meth : Method) (c : Code) (G : GG), CX p s m args meth c G (AD G) cc y.cls nL ret → WS p l e (rmS fr lo) s m args below meth c G (AD G) nL 0 0 (MQ below (QcS G Fin) args s 0 0 (AD G)) 0 lv0 [] S) : MetS y cc nL ret fr lo av S Fin := by
  intro l G
  refine Met.ofW (cc := cc) (maxL := nL) (ret := ret) hy rfl ?_
  intro p e s m args below meth c s₁ B hml hv
  obtain ⟨rfl, hP, hK, hD, hT, hN⟩ := hv
  have hts := atoms_spec (ws := wsS0 y cc nL ret) B.pre
  have hX : CX p s m (av.map (tr G)).toArray meth c G (AD G) cc y.cls nL ret := ⟨B.exec, B.bytes, hml, findClass_of_methodNamed B.named, fun w hw => hts w (List.mem_cons_of_mem _ hw), hK, fun _ h => h, ⟨hT, hN⟩, B.returns, B.notSynchronized⟩
  have hlen : (lg_sl (av.map (tr G))).length ≤ nL := by rw [elv_len]; exact hn
  have hl := lv_entry (av.map (tr G)) hlen
  rw [lg_entry_eq]
  generalize (lg_sl (av.map (tr G)) ++ List.replicate (nL - (lg_sl (av.map (tr G))).length) Slot.unset).toArray = ls at hl ⊢
  subst hlv
  refine body p l e s m _ below meth c G hX s.heap [] ls hP hD va_S.rf ?_
  rw [asl_app, asl_none, List.append_nil, asl_elv]
  exact hl
theorem pre_end {t : State} {H : Heap} {locs : List Loc} (X : CX p s m args meth c G (AD G) cc own nL ret) (hP : va_P G.2.2.1 clsL (wld G S) H) (hD : va_D (AD G) (wld G S)) (hS : va_S (AD G) s.heap H locs) (ht : t.heap = H) (hW : s.WarmedH t.vm) : PRE G S t :=
  ⟨by rw [ht]; exact hP, va_K.moved hW.alike X.2.2.2.2.2.1, hD, by rw [ht]; exact (X.2.2.2.2.2.2.2.1.1.kept (fun q h1 h2 => hS.2.1 q h1 h2)).moved hW.alike, X.2.2.2.2.2.2.2.1.2.warm hW⟩
theorem qc_end {t : State} {H : Heap} {locs : List Loc} {Fin : Option MV → MS → Prop} {v : Option MV} {a : Array Value} (X : CX p s m args meth c G (AD G) cc own nL ret) (hP : va_P G.2.2.1 clsL (wld G S) H) (hD : va_D (AD G) (wld G S)) (hS : va_S (AD G) s.heap H locs) (ht : t.heap = H) (hW : s.WarmedH t.vm) (hF : Fin v S) : QcS G Fin a s (.returned (v.map (tr G))) t :=
  ⟨⟨v, S, rfl, hF, pre_end X hP hD hS ht hW⟩, by rw [ht]; exact hS.1, fun q h1 h2 => by rw [ht]; exact hS.2.1 q h1 h2⟩
theorem ws_iret {Fin : Option MV → MS → Prop} {x : Int32} (X : CX p s m args meth c G (AD G) cc own nL (some .int)) (hdg : DC cc pc .ireturn 1 nxt) (hF : Fin (some (.inl (.int x))) S) : WS p l e R s m args below meth c G (AD G) nL cells slots (MQ below (QcS G Fin) args s cells slots (AD G)) pc lv [.inl (.int x)] S :=
  fun H locs ls hP hD hS hl => W.iret (v := x) X.1 X.2.1 X.2.2.2.2.2.2.2.2.1 (fun t ht hW => qc_end (v := some (.inl (.int x))) X hP hD hS ht hW hF) hS.2.2 hdg.1 (hlocks := X.2.2.2.2.2.2.2.2.2)
theorem ws_zret {Fin : Option MV → MS → Prop} {x : Int32} (X : CX p s m args meth c G (AD G) cc own nL (some .boolean)) (hn : narrow .boolean (.int x) = .int x) (hdg : DC cc pc .ireturn 1 nxt) (hF : Fin (some (.inl (.int x))) S) : WS p l e R s m args below meth c G (AD G) nL cells slots (MQ below (QcS G Fin) args s cells slots (AD G)) pc lv [.inl (.int x)] S :=
  fun H locs ls hP hD hS hl => W.zret (v := x) X.1 X.2.1 X.2.2.2.2.2.2.2.2.1 hn (fun t ht hW => qc_end (v := some (.inl (.int x))) X hP hD hS ht hW hF) hS.2.2 hdg.1 (hlocks := X.2.2.2.2.2.2.2.2.2)
theorem ws_lret {Fin : Option MV → MS → Prop} {x : Int64} (X : CX p s m args meth c G (AD G) cc own nL (some .long)) (hdg : DC cc pc .lreturn 1 nxt) (hF : Fin (some (.inl (.long x))) S) : WS p l e R s m args below meth c G (AD G) nL cells slots (MQ below (QcS G Fin) args s cells slots (AD G)) pc lv [.inl (.long x)] S :=
  fun H locs ls hP hD hS hl => W.lret (v := x) X.1 X.2.1 X.2.2.2.2.2.2.2.2.1 (fun t ht hW => qc_end (v := some (.inl (.long x))) X hP hD hS ht hW hF) hS.2.2 hdg.1 (hlocks := X.2.2.2.2.2.2.2.2.2)
theorem ws_dret {Fin : Option MV → MS → Prop} {x : UInt64} (X : CX p s m args meth c G (AD G) cc own nL (some .double)) (hdg : DC cc pc .dreturn 1 nxt) (hF : Fin (some (.inl (.double x))) S) : WS p l e R s m args below meth c G (AD G) nL cells slots (MQ below (QcS G Fin) args s cells slots (AD G)) pc lv [.inl (.double x)] S :=
  fun H locs ls hP hD hS hl => W.dret (v := x) X.1 X.2.1 X.2.2.2.2.2.2.2.2.1 (fun t ht hW => qc_end (v := some (.inl (.double x))) X hP hD hS ht hW hF) hS.2.2 hdg.1 (hlocks := X.2.2.2.2.2.2.2.2.2)
theorem ws_vret {Fin : Option MV → MS → Prop} (X : CX p s m args meth c G (AD G) cc own nL none) (hdg : DC cc pc .return_ 1 nxt) (hF : Fin none S) : WS p l e R s m args below meth c G (AD G) nL cells slots (MQ below (QcS G Fin) args s cells slots (AD G)) pc lv [] S :=
  fun H locs ls hP hD hS hl => W.vret X.1 X.2.1 X.2.2.2.2.2.2.2.2.1 (fun t ht hW => qc_end (v := none) X hP hD hS ht hW hF) hS.2.2 hdg.1 (hlocks := X.2.2.2.2.2.2.2.2.2)
theorem ws_aret {Fin : Option MV → MS → Prop} {v : MV} {rt : String} (X : CX p s m args meth c G (AD G) cc own nL (some (.object rt))) (hv : v = .inl .null ∨ ∃ q, v = .inr q) (hdg : DC cc pc .areturn 1 nxt) (hF : Fin (some v) S) : WS p l e R s m args below meth c G (AD G) nL cells slots (MQ below (QcS G Fin) args s cells slots (AD G)) pc lv [v] S :=
  fun H locs ls hP hD hS hl => W.aret (v := tr G v) X.1 X.2.1 X.2.2.2.2.2.2.2.2.1 (Or.inl ⟨rt, rfl⟩) (by rcases hv with rfl | ⟨q, rfl⟩; exact Or.inl rfl; exact Or.inr ⟨_, rfl⟩) (fun t ht hW => qc_end (v := some v) X hP hD hS ht hW hF) hS.2.2 hdg.1 (hlocks := X.2.2.2.2.2.2.2.2.2)
/-- what a call leaves -/
theorem ws_back {mc ms : Nat} {g0 : List MV} {a : Array Value} {Fin : Option MV → MS → Prop} {H : Heap} {locs : List Loc} {ls : Array Slot} (X : CX p s m args meth c G A cc own nL ret) (hS : va_S A s.heap H locs) (hD : va_D A (wld G S)) (hl : lv_has ls nL (asl G 0 lv)) (hr : va_Run p l e R s m args below meth c H locs cells slots 0 0 (F0 m pc ls (g0.map (tr G))) (st.map (tr G)) (QcS G Fin a) (AD G))
    (K : ∀ (v : Option MV) (S' : MS), Fin v S' → WS p l e R s m args below meth c G A nL cells slots Q (pc + 3) lv (v.toList ++ st) S') : W p l e R s m args below meth c H locs cells slots Q (F0 m pc ls (g0.map (tr G))) := by
  intro T hT Xs
  obtain ⟨v, st₀, t, T', L, h0, X', hL, e1, e2, ⟨⟨v2, S', hv, hF, hPRE⟩, hz, hk⟩, stp⟩ := hr T hT Xs
  have hv2 : v = v2.map (tr G) := by cases hv; rfl
  subst hv2
  rw [h0] at hz hk
  have hP1 : va_P G.2.2.1 clsL (wld G S') T'.heap := by rw [e1]; exact hPRE.1
  have hS1 : va_S A s.heap T'.heap (locs ++ L) := ⟨Nat.le_trans hS.1 (by rw [e1]; exact hz), fun q h1 h2 => by
    rw [e1, hk q (Nat.lt_of_lt_of_le h1 hS.1) (fun z => h2 (X.2.2.2.2.2.2.1 q z))]; exact hS.2.1 q h1 h2, fun q hq => by
    rcases List.mem_append.mp hq with h | h
    · exact hS.2.2 q h
    · exact X.2.2.2.2.2.2.1 _ (hL q h)⟩
  obtain ⟨t2, a1, b1⟩ := K v2 S' hF T'.heap (locs ++ L) ls hP1 (va_D_AD hD) hS1 hl T' rfl X'
  refine ⟨t2, stp t2 ?_, b1⟩
  cases v2 <;> exact a1
theorem blind {av : List Value} : FrameBlind (va_Pc av (PRE G S)) := fun a U g mk q => ⟨q.1, PRE.at (u := U) (U := U.calling g mk a) rfl rfl q.2⟩
theorem pre_call {av : List Value} {H : Heap} {locs : List Loc} (X : CX p s m args meth c G A cc own nL ret) (hP : va_P G.2.2.1 clsL (wld G S) H) (hD : va_D A (wld G S)) (hS : va_S A s.heap H locs) : ∀ U : State, U.heap = H → s.WarmedH U.vm → va_Pc av (PRE G S) av.toArray U := fun U hU hW =>
  ⟨rfl, by rw [hU]; exact hP, va_K.moved hW.alike X.2.2.2.2.2.1, va_D_self hD, by rw [hU]; exact ((X.2.2.2.2.2.2.2.1.1.kept (fun q h1 h2 => hS.2.1 q h1 h2)).moved hW.alike).narrow X.2.2.2.2.2.2.1, X.2.2.2.2.2.2.2.1.2.warm hW⟩
/-- what is known of a method that is called by its object's class -/
def CVm (y : MethodName) (cc : ByteArray) (nL : Nat) (ret : Option FieldType) (n k : Nat) : Prop := (∃ (T : u_T) (N : Nat), clsL[k]? = some (y.cls, T, N)) ∧ Cond.instanceMethod y ∈ lw_gd ∧ Cond.selects y.cls y y ∈ lw_gd ∧ Cond.initialized y.cls ∈ lw_gd ∧ Cond.code y cc nL ret ∈ lw_gd ∧ (y.cls ≠ "java/lang/invoke/MethodHandle" ∧ y.cls ≠ "java/lang/invoke/VarHandle" ∧ (parseMethodDescriptor y.desc).map (fun d => d.parameters.length) = some n)
def CSm (y : MethodName) (cc : ByteArray) (nL : Nat) (ret : Option FieldType) (n : Nat) : Prop := Cond.static y ∈ lw_gd ∧ Cond.initialized y.cls ∈ lw_gd ∧ Cond.code y cc nL ret ∈ lw_gd ∧ (y.cls ≠ "java/lang/invoke/MethodHandle" ∧ y.cls ≠ "java/lang/invoke/VarHandle" ∧ (parseMethodDescriptor y.desc).map (fun d => d.parameters.length) = some n)
def mcs : List MV → Nat
  | [] => 0
  | v :: t => mcat v + mcs t
theorem mcs_tr : ∀ (st : List MV), ((st.map (tr G)).map fun v => v.category).sum = mcs st
  | [] => rfl
  | v :: t => by
    show (tr G v).category + ((t.map (tr G)).map fun v => v.category).sum = mcat v + mcs t
    rw [tr_cat, mcs_tr t]
theorem ws_callV (X : CX p s m args meth c G A cc own nL ret) {y : MethodName} {ccy : ByteArray} {nLy n fr lo : Nat} {rety : Option FieldType} {av st0 : List MV} {Fin : Option MV → MS → Prop} (hM : MetS y ccy nLy rety fr lo (.inr (k, i) :: av) S Fin) (hy : CVm y ccy nLy rety n k) (hlk : Cond.methodLink own idx y ∈ lw_gd) (ho : (k, i) ∈ objs) (hst : av.reverse ++ .inr (k, i) :: st = st0) (hn : av.length = n) (hW : mcs st ≤ 8) (hR : fr + 1 ≤ R.frames ∧ 8 + (nLy + 11) + lo ≤ R.locals) (hf : cells ≤ R.cells ∧ slots ≤ R.slots) (hdg : DC cc pc (.invokevirtual idx) 3 nxt)
    (K : ∀ (v : Option MV) (S' : MS), Fin v S' → WS p l e R s m args below meth c G A nL cells slots Q nxt lv (v.toList ++ st) S') : WS p l e R s m args below meth c G A nL cells slots Q pc lv st0 S := by
  obtain ⟨h1, rfl⟩ := hdg
  obtain ⟨⟨T, N, hcl⟩, hin, hse, hini, hcode, hd⟩ := hy
  obtain ⟨q, hq⟩ := wld_has ho
  subst hst
  intro H locs ls hP hD hS hl
  have hK := X.2.2.2.2.2.1
  have he : (wld G S)[q]? = some (G.2.1 k i, .inr (k, (List.range (nF k)).map (fv G S k i))) := by rw [wld_get hq, cel_obj (cls_lt hcl)]
  have hG : GoodIn lw_gd (wsV own idx y.cls y (wsS0 y ccy nLy rety)) := goodIn_gd (fun w hw => by
    rcases List.mem_append.mp hw with h | h
    · simp only [List.mem_cons, List.not_mem_nil, or_false] at h
      rcases h with rfl | rfl | rfl | rfl
      · exact hlk
      · exact hin
      · exact hse
      · exact hini
    · exact wsS0_in hcode w h)
  have hr : va_Run p l e R s m args below meth c H locs cells slots 0 0 (F0 m pc ls ((av.reverse ++ .inr (k, i) :: st).map (tr G))) (st.map (tr G)) (QcS G Fin (Value.ref (G.2.1 k i) :: av.map (tr G)).toArray) (AD G) := va_runV (As := av.map (tr G)) (rest := st.map (tr G)) (b := G.2.1 k i) (g := F0 m pc ls ((av.reverse ++ .inr (k, i) :: st).map (tr G))) ⟨X.1, X.2.1, X.2.2.1, X.2.2.2.1, X.2.2.2.2.1⟩ (hM l G) (cwV n X.2.2.2.2.1 hG rfl rfl rfl ⟨rfl, hd⟩ hR) ⟨blind, va_recv hK hP hcl he, pre_call X hP hD hS⟩ rfl (by rw [List.length_map]; exact hn) hl.1 (by show List.map (tr G) _ = _; rw [List.map_append, List.map_reverse]; rfl) (lv_room (by rw [mcs_tr]; exact hW)) h1 ⟨hf.1, hf.2⟩
  exact ws_back (mc := 0) (ms := 0) X hS hD hl hr K
theorem ws_callS (X : CX p s m args meth c G A cc own nL ret) {y : MethodName} {ccy : ByteArray} {nLy n fr lo : Nat} {rety : Option FieldType} {av st0 : List MV} {Fin : Option MV → MS → Prop} (hM : MetS y ccy nLy rety fr lo av S Fin) (hy : CSm y ccy nLy rety n) (hlk : Cond.methodLink own idx y ∈ lw_gd) (hst : av.reverse ++ st = st0) (hn : av.length = n) (hW : mcs st ≤ 8) (hR : fr + 1 ≤ R.frames ∧ 8 + (nLy + 11) + lo ≤ R.locals) (hf : cells ≤ R.cells ∧ slots ≤ R.slots) (hdg : DC cc pc (.invokestatic idx) 3 nxt)
    (K : ∀ (v : Option MV) (S' : MS), Fin v S' → WS p l e R s m args below meth c G A nL cells slots Q nxt lv (v.toList ++ st) S') : WS p l e R s m args below meth c G A nL cells slots Q pc lv st0 S := by
  obtain ⟨h1, rfl⟩ := hdg
  obtain ⟨hin, hini, hcode, hd⟩ := hy
  subst hst
  intro H locs ls hP hD hS hl
  have hG : GoodIn lw_gd (va_wsS own idx y (wsS0 y ccy nLy rety)) := goodIn_gd (fun w hw => by
    rcases List.mem_append.mp hw with h | h
    · simp only [List.mem_cons, List.not_mem_nil, or_false] at h
      rcases h with rfl | rfl | rfl
      · exact hlk
      · exact hin
      · exact hini
    · exact wsS0_in hcode w h)
  have hr : va_Run p l e R s m args below meth c H locs cells slots 0 0 (F0 m pc ls ((av.reverse ++ st).map (tr G))) (st.map (tr G)) (QcS G Fin (av.map (tr G)).toArray) (AD G) := va_runS (As := av.map (tr G)) (rest := st.map (tr G)) (g := F0 m pc ls ((av.reverse ++ st).map (tr G))) ⟨X.1, X.2.1, X.2.2.1, X.2.2.2.1, X.2.2.2.2.1⟩ (hM l G) (va_cwS n X.2.2.2.2.1 hG rfl rfl rfl hd hR) ⟨blind, pre_call X hP hD hS⟩ rfl (by rw [List.length_map]; exact hn) hl.1 (by show List.map (tr G) _ = _; rw [List.map_append, List.map_reverse]) (lv_room (by rw [mcs_tr]; exact hW)) h1 ⟨hf.1, hf.2⟩
  exact ws_back (mc := 0) (ms := 0) X hS hD hl hr K
/-- a contract with one answer and one new world -/
abbrev MetE (y : MethodName) (cc : ByteArray) (nL : Nat) (ret : Option FieldType) (fr lo : Nat) (av : List MV) (S : MS) (v : Option MV) (S' : MS) : Prop := MetS y cc nL ret fr lo av S (fun v1 S1 => v1 = v ∧ S1 = S')
theorem ws_callV1 (X : CX p s m args meth c G A cc own nL ret) {y : MethodName} {ccy : ByteArray} {nLy n fr lo : Nat} {rety : Option FieldType} {av st0 : List MV} {v : MV} {S' : MS} (hM : MetE y ccy nLy rety fr lo (.inr (k, i) :: av) S (some v) S') (hy : CVm y ccy nLy rety n k) (hlk : Cond.methodLink own idx y ∈ lw_gd) (ho : (k, i) ∈ objs) (hst : av.reverse ++ .inr (k, i) :: st = st0) (hn : av.length = n) (hW : mcs st ≤ 8) (hR : fr + 1 ≤ R.frames ∧ 8 + (nLy + 11) + lo ≤ R.locals) (hf : cells ≤ R.cells ∧ slots ≤ R.slots) (hdg : DC cc pc (.invokevirtual idx) 3 nxt)
    (K : WS p l e R s m args below meth c G A nL cells slots Q nxt lv (v :: st) S') : WS p l e R s m args below meth c G A nL cells slots Q pc lv st0 S :=
  ws_callV X hM hy hlk ho hst hn hW hR hf hdg (fun v1 S1 h => by obtain ⟨rfl, rfl⟩ := h; exact K)
theorem ws_callV0 (X : CX p s m args meth c G A cc own nL ret) {y : MethodName} {ccy : ByteArray} {nLy n fr lo : Nat} {rety : Option FieldType} {av st0 : List MV} {S' : MS} (hM : MetE y ccy nLy rety fr lo (.inr (k, i) :: av) S none S') (hy : CVm y ccy nLy rety n k) (hlk : Cond.methodLink own idx y ∈ lw_gd) (ho : (k, i) ∈ objs) (hst : av.reverse ++ .inr (k, i) :: st = st0) (hn : av.length = n) (hW : mcs st ≤ 8) (hR : fr + 1 ≤ R.frames ∧ 8 + (nLy + 11) + lo ≤ R.locals) (hf : cells ≤ R.cells ∧ slots ≤ R.slots) (hdg : DC cc pc (.invokevirtual idx) 3 nxt)
    (K : WS p l e R s m args below meth c G A nL cells slots Q nxt lv st S') : WS p l e R s m args below meth c G A nL cells slots Q pc lv st0 S :=
  ws_callV X hM hy hlk ho hst hn hW hR hf hdg (fun v1 S1 h => by obtain ⟨rfl, rfl⟩ := h; exact K)
theorem ws_callS1 (X : CX p s m args meth c G A cc own nL ret) {y : MethodName} {ccy : ByteArray} {nLy n fr lo : Nat} {rety : Option FieldType} {av st0 : List MV} {v : MV} {S' : MS} (hM : MetE y ccy nLy rety fr lo av S (some v) S') (hy : CSm y ccy nLy rety n) (hlk : Cond.methodLink own idx y ∈ lw_gd) (hst : av.reverse ++ st = st0) (hn : av.length = n) (hW : mcs st ≤ 8) (hR : fr + 1 ≤ R.frames ∧ 8 + (nLy + 11) + lo ≤ R.locals) (hf : cells ≤ R.cells ∧ slots ≤ R.slots) (hdg : DC cc pc (.invokestatic idx) 3 nxt)
    (K : WS p l e R s m args below meth c G A nL cells slots Q nxt lv (v :: st) S') : WS p l e R s m args below meth c G A nL cells slots Q pc lv st0 S :=
  ws_callS X hM hy hlk hst hn hW hR hf hdg (fun v1 S1 h => by obtain ⟨rfl, rfl⟩ := h; exact K)
theorem ws_callS0 (X : CX p s m args meth c G A cc own nL ret) {y : MethodName} {ccy : ByteArray} {nLy n fr lo : Nat} {rety : Option FieldType} {av st0 : List MV} {S' : MS} (hM : MetE y ccy nLy rety fr lo av S none S') (hy : CSm y ccy nLy rety n) (hlk : Cond.methodLink own idx y ∈ lw_gd) (hst : av.reverse ++ st = st0) (hn : av.length = n) (hW : mcs st ≤ 8) (hR : fr + 1 ≤ R.frames ∧ 8 + (nLy + 11) + lo ≤ R.locals) (hf : cells ≤ R.cells ∧ slots ≤ R.slots) (hdg : DC cc pc (.invokestatic idx) 3 nxt)
    (K : WS p l e R s m args below meth c G A nL cells slots Q nxt lv st S') : WS p l e R s m args below meth c G A nL cells slots Q pc lv st0 S :=
  ws_callS X hM hy hlk hst hn hW hR hf hdg (fun v1 S1 h => by obtain ⟨rfl, rfl⟩ := h; exact K)
/-! switches: a goal for each written value, one for all others -/
def FA (x : Int32) (P : Nat → Prop) : List (Int × Nat) → Prop
  | [] => True
  | (v, t) :: r => (x = Int32.ofInt v → P t) ∧ FA x P r
theorem FA_get {x : Int32} {P : Nat → Prop} : ∀ {ts : List (Int × Nat)}, FA x P ts → ∀ v t, (v, t) ∈ ts → x = Int32.ofInt v → P t
  | (_, _) :: _, h, v, t, hm, hx => by
    rcases List.mem_cons.mp hm with e | e
    · cases e; exact h.1 hx
    · exact FA_get h.2 v t e hx
theorem ofInt_toInt (x : Int32) : Int32.ofInt x.toInt = x := Int32.ofInt_toInt x
theorem ws_tsw (X : CX p s m args meth c G A cc own nL ret) {dflt lo hi : Int} {offs : Array Int} {len : Nat} {x : Int32} (ts : List (Int × Nat)) (hdg : decode cc pc = .ok (.tableswitch dflt lo hi offs, len)) (hts : ∀ (j : Nat), lo + j ≤ hi → ∃ off t, offs[j]? = some off ∧ (pc : Int) + off = (t : Nat) ∧ (lo + j, t) ∈ ts) (htd : (pc : Int) + dflt = (tgt : Int)) (Ks : FA x (fun t => WS p l e R s m args below meth c G A nL cells slots Q t lv st S) ts) (Kd : (x.toInt < lo ∨ hi < x.toInt) → WS p l e R s m args below meth c G A nL cells slots Q tgt lv st S) : WS p l e R s m args below meth c G A nL cells slots Q pc lv (.inl (.int x) :: st) S := by
  intro H locs ls hP hD hS hl
  by_cases h : x.toInt < lo ∨ hi < x.toInt
  · exact lv_tableOut X.1 X.2.1 hdg h htd (Kd h H locs ls hP hD hS hl)
  · have h1 : ¬ x.toInt < lo := fun z => h (Or.inl z)
    have h2 : ¬ hi < x.toInt := fun z => h (Or.inr z)
    obtain ⟨off, t, h3, h4, h5⟩ := hts (x.toInt - lo).toNat (by omega)
    have e : lo + ((x.toInt - lo).toNat : Int) = x.toInt := by omega
    rw [e] at h5
    exact lv_tableIn X.1 X.2.1 hdg h1 h2 h3 h4 (FA_get Ks _ t h5 (ofInt_toInt x).symm H locs ls hP hD hS hl)
theorem ws_lsw (X : CX p s m args meth c G A cc own nL ret) {dflt : Int} {ps : Array (Int × Int)} {len : Nat} {x : Int32} (ts : List (Int × Nat)) (hdg : decode cc pc = .ok (.lookupswitch dflt ps, len)) (hp : (ps.toList.zip (ps.toList.drop 1)).all (fun (a, next) => a.1 < next.1) = true) (hts : ∀ v off, (v, off) ∈ ps.toList → ∃ t : Nat, (pc : Int) + off = (t : Int) ∧ (v, t) ∈ ts) (htd : (pc : Int) + dflt = (tgt : Int)) (Ks : FA x (fun t => WS p l e R s m args below meth c G A nL cells slots Q t lv st S) ts) (Kd : (∀ v off, (v, off) ∈ ps.toList → ¬ x.toInt = v) → WS p l e R s m args below meth c G A nL cells slots Q tgt lv st S) : WS p l e R s m args below meth c G A nL cells slots Q pc lv (.inl (.int x) :: st) S := by
  intro H locs ls hP hD hS hl
  have key : ∀ (r : List (Int × Int)), (∃ v off, (v, off) ∈ r ∧ x.toInt = v ∧ Op.lookupswitch.offset r dflt x.toInt = off) ∨ ((∀ v off, (v, off) ∈ r → ¬ x.toInt = v) ∧ Op.lookupswitch.offset r dflt x.toInt = dflt) := by
    intro r
    induction r with
    | nil => exact Or.inr ⟨fun _ _ h => (by cases h), rfl⟩
    | cons q r ih =>
      obtain ⟨a, o⟩ := q
      by_cases ha : x.toInt = a
      · exact Or.inl ⟨a, o, List.mem_cons_self, ha, by simp [Op.lookupswitch.offset, ha]⟩
      · have e : Op.lookupswitch.offset ((a, o) :: r) dflt x.toInt = Op.lookupswitch.offset r dflt x.toInt := by
          simp only [Op.lookupswitch.offset]
          rw [if_neg]
          simpa [eq_comm] using ha
        rcases ih with ⟨v, off, h1, h2, h3⟩ | ⟨h1, h2⟩
        · exact Or.inl ⟨v, off, List.mem_cons_of_mem _ h1, h2, by rw [e]; exact h3⟩
        · refine Or.inr ⟨fun v off hm => ?_, by rw [e]; exact h2⟩
          rcases List.mem_cons.mp hm with z | z
          · cases z; exact ha
          · exact h1 v off z
  rcases key ps.toList with ⟨v, off, h1, h2, h3⟩ | ⟨h1, h2⟩
  · obtain ⟨t, h4, h5⟩ := hts v off h1
    exact lv_lookup X.1 X.2.1 hdg hp h3 h4 (FA_get Ks v t h5 (by rw [← h2]; exact (ofInt_toInt x).symm) H locs ls hP hD hS hl)
  · exact lv_lookup X.1 X.2.1 hdg hp h2 htd (Kd h1 H locs ls hP hD hS hl)
/-! the JDK's natives on bits -/
def y_d2r : MethodName := ⟨"java/lang/Double", "doubleToRawLongBits", "(D)J"⟩
def y_l2r : MethodName := ⟨"java/lang/Double", "longBitsToDouble", "(J)D"⟩
theorem ws_d2r (X : CX p s m args meth c G A cc own nL ret) {b : UInt64} (hlk : Cond.methodLink own idx y_d2r ∈ lw_gd) (hn : Cond.native y_d2r ∈ lw_gd) (hs : Cond.static y_d2r ∈ lw_gd) (hi : Cond.initialized "java/lang/Double" ∈ lw_gd) (hR : 1 ≤ R.frames ∧ mcs st + 15 ≤ R.locals) (hdg : DC cc pc (.invokestatic idx) 3 nxt) (K : WS p l e R s m args below meth c G A nL cells slots Q nxt lv (.inl (.long b.toInt64) :: st) S) : WS p l e R s m args below meth c G A nL cells slots Q pc lv (.inl (.double b) :: st) S := by
  obtain ⟨h1, rfl⟩ := hdg
  intro H locs ls hP hD hS hl
  exact vn_d2l X.1 X.2.1 (X.2.2.1.trans hl.1.symm) X.2.2.2.1 (X.2.2.2.2.1 _ hlk) (X.2.2.2.2.1 _ hn) (X.2.2.2.2.1 _ hs) (X.2.2.2.2.1 _ hi) hR.1 (by rw [mcs_tr]; exact hR.2) h1 (K H locs ls hP hD hS hl)
theorem ws_l2r (X : CX p s m args meth c G A cc own nL ret) {b : Int64} (hv : vn_snl2d b = false) (hlk : Cond.methodLink own idx y_l2r ∈ lw_gd) (hn : Cond.native y_l2r ∈ lw_gd) (hs : Cond.static y_l2r ∈ lw_gd) (hi : Cond.initialized "java/lang/Double" ∈ lw_gd) (hR : 1 ≤ R.frames ∧ mcs st + 15 ≤ R.locals) (hdg : DC cc pc (.invokestatic idx) 3 nxt) (K : WS p l e R s m args below meth c G A nL cells slots Q nxt lv (.inl (.double b.toUInt64) :: st) S) : WS p l e R s m args below meth c G A nL cells slots Q pc lv (.inl (.long b) :: st) S := by
  obtain ⟨h1, rfl⟩ := hdg
  intro H locs ls hP hD hS hl
  exact vn_l2d X.1 X.2.1 (X.2.2.1.trans hl.1.symm) X.2.2.2.1 (X.2.2.2.2.1 _ hlk) (X.2.2.2.2.1 _ hn) (X.2.2.2.2.1 _ hs) (X.2.2.2.2.1 _ hi) hv hR.1 (by rw [mcs_tr]; exact hR.2) h1 (K H locs ls hP hD hS hl)
end WSK
end
