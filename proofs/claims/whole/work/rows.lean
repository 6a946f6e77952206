section
-- ===== PART A: goes FIRST, ahead of the names: the tables' words, and 'selects' of the private methods out of them =====
/-- a private method of a class that the tables say can be made, by its rows of tables_1 -/
def lw_okq (q : MethodName × Nat) : Prop := (q.1.cls ≠ "java/lang/invoke/MethodHandle" ∧ q.1.cls ≠ "java/lang/invoke/VarHandle") ∧ Cond.instantiable q.1.cls q.2 ∈ tables_1 ∧ Cond.privateMethod q.1 ∈ tables_1 ∧ Cond.instanceMethod q.1 ∈ tables_1
theorem lw_p0 : lw_okq (⟨"InstrumentFiles$Reader", "take", "(LInstrumentFiles$Tape;III)I"⟩, 2) := ⟨⟨by decide +kernel, by decide +kernel⟩, List.mem_of_getElem? (i := 156) (by decide +kernel), List.mem_of_getElem? (i := 321) (by decide +kernel), List.mem_of_getElem? (i := 322) (by decide +kernel)⟩
theorem lw_p1 : lw_okq (⟨"InstrumentFiles$Reader", "readPool", "(LInstrumentFiles$Tape;LInstrumentFiles$Pool;)V"⟩, 2) := ⟨⟨by decide +kernel, by decide +kernel⟩, List.mem_of_getElem? (i := 156) (by decide +kernel), List.mem_of_getElem? (i := 326) (by decide +kernel), List.mem_of_getElem? (i := 327) (by decide +kernel)⟩
theorem lw_p2 : lw_okq (⟨"InstrumentFiles$Reader", "takeMany", "(LInstrumentFiles$Tape;III)J"⟩, 2) := ⟨⟨by decide +kernel, by decide +kernel⟩, List.mem_of_getElem? (i := 156) (by decide +kernel), List.mem_of_getElem? (i := 330) (by decide +kernel), List.mem_of_getElem? (i := 331) (by decide +kernel)⟩
theorem lw_p3 : lw_okq (⟨"InstrumentFiles$Reader", "readMethods", "(LInstrumentFiles$Tape;LInstrumentFiles$Program;)V"⟩, 2) := ⟨⟨by decide +kernel, by decide +kernel⟩, List.mem_of_getElem? (i := 156) (by decide +kernel), List.mem_of_getElem? (i := 347) (by decide +kernel), List.mem_of_getElem? (i := 348) (by decide +kernel)⟩
theorem lw_p4 : lw_okq (⟨"InstrumentFiles$Reader", "takeName", "(LInstrumentFiles$Tape;LInstrumentFiles$Program;)I"⟩, 2) := ⟨⟨by decide +kernel, by decide +kernel⟩, List.mem_of_getElem? (i := 156) (by decide +kernel), List.mem_of_getElem? (i := 355) (by decide +kernel), List.mem_of_getElem? (i := 356) (by decide +kernel)⟩
theorem lw_p5 : lw_okq (⟨"InstrumentFiles$Reader", "readHead", "(LInstrumentFiles$Tape;LInstrumentFiles$Method;)V"⟩, 2) := ⟨⟨by decide +kernel, by decide +kernel⟩, List.mem_of_getElem? (i := 156) (by decide +kernel), List.mem_of_getElem? (i := 379) (by decide +kernel), List.mem_of_getElem? (i := 380) (by decide +kernel)⟩
theorem lw_p6 : lw_okq (⟨"InstrumentFiles$Reader", "readCode", "(LInstrumentFiles$Tape;LInstrumentFiles$Method;)V"⟩, 2) := ⟨⟨by decide +kernel, by decide +kernel⟩, List.mem_of_getElem? (i := 156) (by decide +kernel), List.mem_of_getElem? (i := 386) (by decide +kernel), List.mem_of_getElem? (i := 387) (by decide +kernel)⟩
theorem lw_p7 : lw_okq (⟨"InstrumentFiles$Reader", "readMaps", "(LInstrumentFiles$Tape;LInstrumentFiles$Method;)V"⟩, 2) := ⟨⟨by decide +kernel, by decide +kernel⟩, List.mem_of_getElem? (i := 156) (by decide +kernel), List.mem_of_getElem? (i := 394) (by decide +kernel), List.mem_of_getElem? (i := 395) (by decide +kernel)⟩
theorem lw_p8 : lw_okq (⟨"InstrumentFiles$Reader", "takeMapKinds", "(LInstrumentFiles$Tape;LInstrumentFiles$Method;)I"⟩, 2) := ⟨⟨by decide +kernel, by decide +kernel⟩, List.mem_of_getElem? (i := 156) (by decide +kernel), List.mem_of_getElem? (i := 398) (by decide +kernel), List.mem_of_getElem? (i := 399) (by decide +kernel)⟩
theorem lw_p9 : lw_okq (⟨"InstrumentFiles$Judge", "judgeOp", "(LInstrumentFiles$Program;LInstrumentFiles$Method;)I"⟩, 3) := ⟨⟨by decide +kernel, by decide +kernel⟩, List.mem_of_getElem? (i := 171) (by decide +kernel), List.mem_of_getElem? (i := 424) (by decide +kernel), List.mem_of_getElem? (i := 425) (by decide +kernel)⟩
theorem lw_p10 : lw_okq (⟨"InstrumentFiles$Judge", "meetsMap", "(LInstrumentFiles$Method;)Z"⟩, 3) := ⟨⟨by decide +kernel, by decide +kernel⟩, List.mem_of_getElem? (i := 171) (by decide +kernel), List.mem_of_getElem? (i := 428) (by decide +kernel), List.mem_of_getElem? (i := 429) (by decide +kernel)⟩
theorem lw_p11 : lw_okq (⟨"InstrumentFiles$Judge", "hasEntry", "(LInstrumentFiles$Program;LInstrumentFiles$Method;II)Z"⟩, 3) := ⟨⟨by decide +kernel, by decide +kernel⟩, List.mem_of_getElem? (i := 171) (by decide +kernel), List.mem_of_getElem? (i := 463) (by decide +kernel), List.mem_of_getElem? (i := 464) (by decide +kernel)⟩
theorem lw_p12 : lw_okq (⟨"InstrumentFiles$Judge", "judgeCall", "(LInstrumentFiles$Method;LInstrumentFiles$Method;)I"⟩, 3) := ⟨⟨by decide +kernel, by decide +kernel⟩, List.mem_of_getElem? (i := 171) (by decide +kernel), List.mem_of_getElem? (i := 478) (by decide +kernel), List.mem_of_getElem? (i := 479) (by decide +kernel)⟩
theorem lw_p13 : lw_okq (⟨"InstrumentFiles$Judge", "popped", "()I"⟩, 3) := ⟨⟨by decide +kernel, by decide +kernel⟩, List.mem_of_getElem? (i := 171) (by decide +kernel), List.mem_of_getElem? (i := 483) (by decide +kernel), List.mem_of_getElem? (i := 484) (by decide +kernel)⟩
theorem lw_p14 : lw_okq (⟨"InstrumentFiles$Judge", "push", "(LInstrumentFiles$Method;I)I"⟩, 3) := ⟨⟨by decide +kernel, by decide +kernel⟩, List.mem_of_getElem? (i := 171) (by decide +kernel), List.mem_of_getElem? (i := 498) (by decide +kernel), List.mem_of_getElem? (i := 499) (by decide +kernel)⟩
theorem lw_p15 : lw_okq (⟨"InstrumentFiles$Judge", "judgeStack", "(LInstrumentFiles$Method;II)I"⟩, 3) := ⟨⟨by decide +kernel, by decide +kernel⟩, List.mem_of_getElem? (i := 171) (by decide +kernel), List.mem_of_getElem? (i := 503) (by decide +kernel), List.mem_of_getElem? (i := 504) (by decide +kernel)⟩
def lw_privs_1 : List (MethodName × Nat) := [(⟨"InstrumentFiles$Reader", "take", "(LInstrumentFiles$Tape;III)I"⟩, 2), (⟨"InstrumentFiles$Reader", "readPool", "(LInstrumentFiles$Tape;LInstrumentFiles$Pool;)V"⟩, 2), (⟨"InstrumentFiles$Reader", "takeMany", "(LInstrumentFiles$Tape;III)J"⟩, 2), (⟨"InstrumentFiles$Reader", "readMethods", "(LInstrumentFiles$Tape;LInstrumentFiles$Program;)V"⟩, 2), (⟨"InstrumentFiles$Reader", "takeName", "(LInstrumentFiles$Tape;LInstrumentFiles$Program;)I"⟩, 2), (⟨"InstrumentFiles$Reader", "readHead", "(LInstrumentFiles$Tape;LInstrumentFiles$Method;)V"⟩, 2), (⟨"InstrumentFiles$Reader", "readCode", "(LInstrumentFiles$Tape;LInstrumentFiles$Method;)V"⟩, 2), (⟨"InstrumentFiles$Reader", "readMaps", "(LInstrumentFiles$Tape;LInstrumentFiles$Method;)V"⟩, 2), (⟨"InstrumentFiles$Reader", "takeMapKinds", "(LInstrumentFiles$Tape;LInstrumentFiles$Method;)I"⟩, 2), (⟨"InstrumentFiles$Judge", "judgeOp", "(LInstrumentFiles$Program;LInstrumentFiles$Method;)I"⟩, 3), (⟨"InstrumentFiles$Judge", "meetsMap", "(LInstrumentFiles$Method;)Z"⟩, 3), (⟨"InstrumentFiles$Judge", "hasEntry", "(LInstrumentFiles$Program;LInstrumentFiles$Method;II)Z"⟩, 3), (⟨"InstrumentFiles$Judge", "judgeCall", "(LInstrumentFiles$Method;LInstrumentFiles$Method;)I"⟩, 3), (⟨"InstrumentFiles$Judge", "popped", "()I"⟩, 3), (⟨"InstrumentFiles$Judge", "push", "(LInstrumentFiles$Method;I)I"⟩, 3), (⟨"InstrumentFiles$Judge", "judgeStack", "(LInstrumentFiles$Method;II)I"⟩, 3)]
theorem lw_r1 : ∀ q ∈ lw_privs_1, lw_okq q := List.forall_mem_cons.mpr ⟨lw_p0, List.forall_mem_cons.mpr ⟨lw_p1, List.forall_mem_cons.mpr ⟨lw_p2, List.forall_mem_cons.mpr ⟨lw_p3, List.forall_mem_cons.mpr ⟨lw_p4, List.forall_mem_cons.mpr ⟨lw_p5, List.forall_mem_cons.mpr ⟨lw_p6, List.forall_mem_cons.mpr ⟨lw_p7, List.forall_mem_cons.mpr ⟨lw_p8, List.forall_mem_cons.mpr ⟨lw_p9, List.forall_mem_cons.mpr ⟨lw_p10, List.forall_mem_cons.mpr ⟨lw_p11, List.forall_mem_cons.mpr ⟨lw_p12, List.forall_mem_cons.mpr ⟨lw_p13, List.forall_mem_cons.mpr ⟨lw_p14, List.forall_mem_cons.mpr ⟨lw_p15, fun _ h => absurd h List.not_mem_nil⟩⟩⟩⟩⟩⟩⟩⟩⟩⟩⟩⟩⟩⟩⟩⟩
theorem lw_p16 : lw_okq (⟨"InstrumentFiles$Judge", "reaches", "(LInstrumentFiles$Method;I)Z"⟩, 3) := ⟨⟨by decide +kernel, by decide +kernel⟩, List.mem_of_getElem? (i := 171) (by decide +kernel), List.mem_of_getElem? (i := 527) (by decide +kernel), List.mem_of_getElem? (i := 528) (by decide +kernel)⟩
theorem lw_p17 : lw_okq (⟨"InstrumentFiles$Judge", "judgeMapPlaces", "(LInstrumentFiles$Method;)I"⟩, 3) := ⟨⟨by decide +kernel, by decide +kernel⟩, List.mem_of_getElem? (i := 171) (by decide +kernel), List.mem_of_getElem? (i := 532) (by decide +kernel), List.mem_of_getElem? (i := 533) (by decide +kernel)⟩
theorem lw_p18 : lw_okq (⟨"InstrumentFiles$Machine", "enter", "(I)V"⟩, 15) := ⟨⟨by decide +kernel, by decide +kernel⟩, List.mem_of_getElem? (i := 188) (by decide +kernel), List.mem_of_getElem? (i := 599) (by decide +kernel), List.mem_of_getElem? (i := 600) (by decide +kernel)⟩
theorem lw_p19 : lw_okq (⟨"InstrumentFiles$Machine", "setLocal", "(IJ)V"⟩, 15) := ⟨⟨by decide +kernel, by decide +kernel⟩, List.mem_of_getElem? (i := 188) (by decide +kernel), List.mem_of_getElem? (i := 612) (by decide +kernel), List.mem_of_getElem? (i := 613) (by decide +kernel)⟩
theorem lw_p20 : lw_okq (⟨"InstrumentFiles$Machine", "runOp", "(LInstrumentFiles$Program;)V"⟩, 15) := ⟨⟨by decide +kernel, by decide +kernel⟩, List.mem_of_getElem? (i := 188) (by decide +kernel), List.mem_of_getElem? (i := 620) (by decide +kernel), List.mem_of_getElem? (i := 621) (by decide +kernel)⟩
theorem lw_p21 : lw_okq (⟨"InstrumentFiles$Machine", "openMethod", "(LInstrumentFiles$Program;)LInstrumentFiles$Method;"⟩, 15) := ⟨⟨by decide +kernel, by decide +kernel⟩, List.mem_of_getElem? (i := 188) (by decide +kernel), List.mem_of_getElem? (i := 624) (by decide +kernel), List.mem_of_getElem? (i := 625) (by decide +kernel)⟩
theorem lw_p22 : lw_okq (⟨"InstrumentFiles$Machine", "nextPlace", "()I"⟩, 15) := ⟨⟨by decide +kernel, by decide +kernel⟩, List.mem_of_getElem? (i := 188) (by decide +kernel), List.mem_of_getElem? (i := 629) (by decide +kernel), List.mem_of_getElem? (i := 630) (by decide +kernel)⟩
theorem lw_p23 : lw_okq (⟨"InstrumentFiles$Machine", "goTo", "(I)V"⟩, 15) := ⟨⟨by decide +kernel, by decide +kernel⟩, List.mem_of_getElem? (i := 188) (by decide +kernel), List.mem_of_getElem? (i := 635) (by decide +kernel), List.mem_of_getElem? (i := 636) (by decide +kernel)⟩
theorem lw_p24 : lw_okq (⟨"InstrumentFiles$Machine", "runMove", "(LInstrumentFiles$Pool;II)V"⟩, 15) := ⟨⟨by decide +kernel, by decide +kernel⟩, List.mem_of_getElem? (i := 188) (by decide +kernel), List.mem_of_getElem? (i := 639) (by decide +kernel), List.mem_of_getElem? (i := 640) (by decide +kernel)⟩
theorem lw_p25 : lw_okq (⟨"InstrumentFiles$Machine", "push", "(J)V"⟩, 15) := ⟨⟨by decide +kernel, by decide +kernel⟩, List.mem_of_getElem? (i := 188) (by decide +kernel), List.mem_of_getElem? (i := 644) (by decide +kernel), List.mem_of_getElem? (i := 645) (by decide +kernel)⟩
theorem lw_p26 : lw_okq (⟨"InstrumentFiles$Machine", "local", "(I)J"⟩, 15) := ⟨⟨by decide +kernel, by decide +kernel⟩, List.mem_of_getElem? (i := 188) (by decide +kernel), List.mem_of_getElem? (i := 648) (by decide +kernel), List.mem_of_getElem? (i := 649) (by decide +kernel)⟩
theorem lw_p27 : lw_okq (⟨"InstrumentFiles$Machine", "pop", "()J"⟩, 15) := ⟨⟨by decide +kernel, by decide +kernel⟩, List.mem_of_getElem? (i := 188) (by decide +kernel), List.mem_of_getElem? (i := 652) (by decide +kernel), List.mem_of_getElem? (i := 653) (by decide +kernel)⟩
theorem lw_p28 : lw_okq (⟨"InstrumentFiles$Machine", "runInts", "(I)V"⟩, 15) := ⟨⟨by decide +kernel, by decide +kernel⟩, List.mem_of_getElem? (i := 188) (by decide +kernel), List.mem_of_getElem? (i := 656) (by decide +kernel), List.mem_of_getElem? (i := 657) (by decide +kernel)⟩
theorem lw_p29 : lw_okq (⟨"InstrumentFiles$Machine", "fail", "(I)V"⟩, 15) := ⟨⟨by decide +kernel, by decide +kernel⟩, List.mem_of_getElem? (i := 188) (by decide +kernel), List.mem_of_getElem? (i := 660) (by decide +kernel), List.mem_of_getElem? (i := 661) (by decide +kernel)⟩
theorem lw_p30 : lw_okq (⟨"InstrumentFiles$Machine", "runDoubles", "(I)V"⟩, 15) := ⟨⟨by decide +kernel, by decide +kernel⟩, List.mem_of_getElem? (i := 188) (by decide +kernel), List.mem_of_getElem? (i := 664) (by decide +kernel), List.mem_of_getElem? (i := 665) (by decide +kernel)⟩
theorem lw_p31 : lw_okq (⟨"InstrumentFiles$Machine", "runChange", "(I)V"⟩, 15) := ⟨⟨by decide +kernel, by decide +kernel⟩, List.mem_of_getElem? (i := 188) (by decide +kernel), List.mem_of_getElem? (i := 715) (by decide +kernel), List.mem_of_getElem? (i := 716) (by decide +kernel)⟩
def lw_privs_2 : List (MethodName × Nat) := [(⟨"InstrumentFiles$Judge", "reaches", "(LInstrumentFiles$Method;I)Z"⟩, 3), (⟨"InstrumentFiles$Judge", "judgeMapPlaces", "(LInstrumentFiles$Method;)I"⟩, 3), (⟨"InstrumentFiles$Machine", "enter", "(I)V"⟩, 15), (⟨"InstrumentFiles$Machine", "setLocal", "(IJ)V"⟩, 15), (⟨"InstrumentFiles$Machine", "runOp", "(LInstrumentFiles$Program;)V"⟩, 15), (⟨"InstrumentFiles$Machine", "openMethod", "(LInstrumentFiles$Program;)LInstrumentFiles$Method;"⟩, 15), (⟨"InstrumentFiles$Machine", "nextPlace", "()I"⟩, 15), (⟨"InstrumentFiles$Machine", "goTo", "(I)V"⟩, 15), (⟨"InstrumentFiles$Machine", "runMove", "(LInstrumentFiles$Pool;II)V"⟩, 15), (⟨"InstrumentFiles$Machine", "push", "(J)V"⟩, 15), (⟨"InstrumentFiles$Machine", "local", "(I)J"⟩, 15), (⟨"InstrumentFiles$Machine", "pop", "()J"⟩, 15), (⟨"InstrumentFiles$Machine", "runInts", "(I)V"⟩, 15), (⟨"InstrumentFiles$Machine", "fail", "(I)V"⟩, 15), (⟨"InstrumentFiles$Machine", "runDoubles", "(I)V"⟩, 15), (⟨"InstrumentFiles$Machine", "runChange", "(I)V"⟩, 15)]
theorem lw_r2 : ∀ q ∈ lw_privs_2, lw_okq q := List.forall_mem_cons.mpr ⟨lw_p16, List.forall_mem_cons.mpr ⟨lw_p17, List.forall_mem_cons.mpr ⟨lw_p18, List.forall_mem_cons.mpr ⟨lw_p19, List.forall_mem_cons.mpr ⟨lw_p20, List.forall_mem_cons.mpr ⟨lw_p21, List.forall_mem_cons.mpr ⟨lw_p22, List.forall_mem_cons.mpr ⟨lw_p23, List.forall_mem_cons.mpr ⟨lw_p24, List.forall_mem_cons.mpr ⟨lw_p25, List.forall_mem_cons.mpr ⟨lw_p26, List.forall_mem_cons.mpr ⟨lw_p27, List.forall_mem_cons.mpr ⟨lw_p28, List.forall_mem_cons.mpr ⟨lw_p29, List.forall_mem_cons.mpr ⟨lw_p30, List.forall_mem_cons.mpr ⟨lw_p31, fun _ h => absurd h List.not_mem_nil⟩⟩⟩⟩⟩⟩⟩⟩⟩⟩⟩⟩⟩⟩⟩⟩
theorem lw_p32 : lw_okq (⟨"InstrumentFiles$Machine", "runListed", "(J)V"⟩, 15) := ⟨⟨by decide +kernel, by decide +kernel⟩, List.mem_of_getElem? (i := 188) (by decide +kernel), List.mem_of_getElem? (i := 733) (by decide +kernel), List.mem_of_getElem? (i := 734) (by decide +kernel)⟩
theorem lw_p33 : lw_okq (⟨"InstrumentFiles$Machine", "runRest", "(LInstrumentFiles$Program;II)V"⟩, 15) := ⟨⟨by decide +kernel, by decide +kernel⟩, List.mem_of_getElem? (i := 188) (by decide +kernel), List.mem_of_getElem? (i := 757) (by decide +kernel), List.mem_of_getElem? (i := 758) (by decide +kernel)⟩
theorem lw_p34 : lw_okq (⟨"InstrumentFiles$Machine", "callInside", "(LInstrumentFiles$Method;I)V"⟩, 15) := ⟨⟨by decide +kernel, by decide +kernel⟩, List.mem_of_getElem? (i := 188) (by decide +kernel), List.mem_of_getElem? (i := 761) (by decide +kernel), List.mem_of_getElem? (i := 762) (by decide +kernel)⟩
theorem lw_p35 : lw_okq (⟨"InstrumentFiles$Machine", "leave", "()V"⟩, 15) := ⟨⟨by decide +kernel, by decide +kernel⟩, List.mem_of_getElem? (i := 188) (by decide +kernel), List.mem_of_getElem? (i := 765) (by decide +kernel), List.mem_of_getElem? (i := 766) (by decide +kernel)⟩
theorem lw_p36 : lw_okq (⟨"InstrumentFiles$Machine", "pushFromTable", "(J)V"⟩, 15) := ⟨⟨by decide +kernel, by decide +kernel⟩, List.mem_of_getElem? (i := 188) (by decide +kernel), List.mem_of_getElem? (i := 769) (by decide +kernel), List.mem_of_getElem? (i := 770) (by decide +kernel)⟩
theorem lw_p37 : lw_okq (⟨"InstrumentFilesModel", "sumAhead", "(I)I"⟩, 49) := ⟨⟨by decide +kernel, by decide +kernel⟩, List.mem_of_getElem? (i := 786) (by decide +kernel), List.mem_of_getElem? (i := 965) (by decide +kernel), List.mem_of_getElem? (i := 966) (by decide +kernel)⟩
theorem lw_p38 : lw_okq (⟨"InstrumentFilesModel", "readFile", "()V"⟩, 49) := ⟨⟨by decide +kernel, by decide +kernel⟩, List.mem_of_getElem? (i := 786) (by decide +kernel), List.mem_of_getElem? (i := 973) (by decide +kernel), List.mem_of_getElem? (i := 974) (by decide +kernel)⟩
theorem lw_p39 : lw_okq (⟨"InstrumentFilesModel", "taken", "(III)I"⟩, 49) := ⟨⟨by decide +kernel, by decide +kernel⟩, List.mem_of_getElem? (i := 786) (by decide +kernel), List.mem_of_getElem? (i := 977) (by decide +kernel), List.mem_of_getElem? (i := 978) (by decide +kernel)⟩
theorem lw_p40 : lw_okq (⟨"InstrumentFilesModel", "take", "()I"⟩, 49) := ⟨⟨by decide +kernel, by decide +kernel⟩, List.mem_of_getElem? (i := 786) (by decide +kernel), List.mem_of_getElem? (i := 981) (by decide +kernel), List.mem_of_getElem? (i := 982) (by decide +kernel)⟩
theorem lw_p41 : lw_okq (⟨"InstrumentFilesModel", "faults", "(II)V"⟩, 49) := ⟨⟨by decide +kernel, by decide +kernel⟩, List.mem_of_getElem? (i := 786) (by decide +kernel), List.mem_of_getElem? (i := 985) (by decide +kernel), List.mem_of_getElem? (i := 986) (by decide +kernel)⟩
theorem lw_p42 : lw_okq (⟨"InstrumentFilesModel", "readPool", "()V"⟩, 49) := ⟨⟨by decide +kernel, by decide +kernel⟩, List.mem_of_getElem? (i := 786) (by decide +kernel), List.mem_of_getElem? (i := 989) (by decide +kernel), List.mem_of_getElem? (i := 990) (by decide +kernel)⟩
theorem lw_p43 : lw_okq (⟨"InstrumentFilesModel", "takeLong", "(I)J"⟩, 49) := ⟨⟨by decide +kernel, by decide +kernel⟩, List.mem_of_getElem? (i := 786) (by decide +kernel), List.mem_of_getElem? (i := 993) (by decide +kernel), List.mem_of_getElem? (i := 994) (by decide +kernel)⟩
theorem lw_p44 : lw_okq (⟨"InstrumentFilesModel", "readMethod", "(I)V"⟩, 49) := ⟨⟨by decide +kernel, by decide +kernel⟩, List.mem_of_getElem? (i := 786) (by decide +kernel), List.mem_of_getElem? (i := 997) (by decide +kernel), List.mem_of_getElem? (i := 998) (by decide +kernel)⟩
theorem lw_p45 : lw_okq (⟨"InstrumentFilesModel", "readName", "(I)V"⟩, 49) := ⟨⟨by decide +kernel, by decide +kernel⟩, List.mem_of_getElem? (i := 786) (by decide +kernel), List.mem_of_getElem? (i := 1001) (by decide +kernel), List.mem_of_getElem? (i := 1002) (by decide +kernel)⟩
theorem lw_p46 : lw_okq (⟨"InstrumentFilesModel", "isSameWord", "(II)Z"⟩, 49) := ⟨⟨by decide +kernel, by decide +kernel⟩, List.mem_of_getElem? (i := 786) (by decide +kernel), List.mem_of_getElem? (i := 1005) (by decide +kernel), List.mem_of_getElem? (i := 1006) (by decide +kernel)⟩
theorem lw_p47 : lw_okq (⟨"InstrumentFilesModel", "readMap", "(II)V"⟩, 49) := ⟨⟨by decide +kernel, by decide +kernel⟩, List.mem_of_getElem? (i := 786) (by decide +kernel), List.mem_of_getElem? (i := 1009) (by decide +kernel), List.mem_of_getElem? (i := 1010) (by decide +kernel)⟩
def lw_privs_3 : List (MethodName × Nat) := [(⟨"InstrumentFiles$Machine", "runListed", "(J)V"⟩, 15), (⟨"InstrumentFiles$Machine", "runRest", "(LInstrumentFiles$Program;II)V"⟩, 15), (⟨"InstrumentFiles$Machine", "callInside", "(LInstrumentFiles$Method;I)V"⟩, 15), (⟨"InstrumentFiles$Machine", "leave", "()V"⟩, 15), (⟨"InstrumentFiles$Machine", "pushFromTable", "(J)V"⟩, 15), (⟨"InstrumentFilesModel", "sumAhead", "(I)I"⟩, 49), (⟨"InstrumentFilesModel", "readFile", "()V"⟩, 49), (⟨"InstrumentFilesModel", "taken", "(III)I"⟩, 49), (⟨"InstrumentFilesModel", "take", "()I"⟩, 49), (⟨"InstrumentFilesModel", "faults", "(II)V"⟩, 49), (⟨"InstrumentFilesModel", "readPool", "()V"⟩, 49), (⟨"InstrumentFilesModel", "takeLong", "(I)J"⟩, 49), (⟨"InstrumentFilesModel", "readMethod", "(I)V"⟩, 49), (⟨"InstrumentFilesModel", "readName", "(I)V"⟩, 49), (⟨"InstrumentFilesModel", "isSameWord", "(II)Z"⟩, 49), (⟨"InstrumentFilesModel", "readMap", "(II)V"⟩, 49)]
theorem lw_r3 : ∀ q ∈ lw_privs_3, lw_okq q := List.forall_mem_cons.mpr ⟨lw_p32, List.forall_mem_cons.mpr ⟨lw_p33, List.forall_mem_cons.mpr ⟨lw_p34, List.forall_mem_cons.mpr ⟨lw_p35, List.forall_mem_cons.mpr ⟨lw_p36, List.forall_mem_cons.mpr ⟨lw_p37, List.forall_mem_cons.mpr ⟨lw_p38, List.forall_mem_cons.mpr ⟨lw_p39, List.forall_mem_cons.mpr ⟨lw_p40, List.forall_mem_cons.mpr ⟨lw_p41, List.forall_mem_cons.mpr ⟨lw_p42, List.forall_mem_cons.mpr ⟨lw_p43, List.forall_mem_cons.mpr ⟨lw_p44, List.forall_mem_cons.mpr ⟨lw_p45, List.forall_mem_cons.mpr ⟨lw_p46, List.forall_mem_cons.mpr ⟨lw_p47, fun _ h => absurd h List.not_mem_nil⟩⟩⟩⟩⟩⟩⟩⟩⟩⟩⟩⟩⟩⟩⟩⟩
theorem lw_p48 : lw_okq (⟨"InstrumentFilesModel", "judge", "(I)V"⟩, 49) := ⟨⟨by decide +kernel, by decide +kernel⟩, List.mem_of_getElem? (i := 786) (by decide +kernel), List.mem_of_getElem? (i := 1013) (by decide +kernel), List.mem_of_getElem? (i := 1014) (by decide +kernel)⟩
theorem lw_p49 : lw_okq (⟨"InstrumentFilesModel", "judgeOp", "(III)V"⟩, 49) := ⟨⟨by decide +kernel, by decide +kernel⟩, List.mem_of_getElem? (i := 786) (by decide +kernel), List.mem_of_getElem? (i := 1017) (by decide +kernel), List.mem_of_getElem? (i := 1018) (by decide +kernel)⟩
theorem lw_p50 : lw_okq (⟨"InstrumentFilesModel", "mapAt", "(II)I"⟩, 49) := ⟨⟨by decide +kernel, by decide +kernel⟩, List.mem_of_getElem? (i := 786) (by decide +kernel), List.mem_of_getElem? (i := 1021) (by decide +kernel), List.mem_of_getElem? (i := 1022) (by decide +kernel)⟩
theorem lw_p51 : lw_okq (⟨"InstrumentFilesModel", "fits", "(II)Z"⟩, 49) := ⟨⟨by decide +kernel, by decide +kernel⟩, List.mem_of_getElem? (i := 786) (by decide +kernel), List.mem_of_getElem? (i := 1025) (by decide +kernel), List.mem_of_getElem? (i := 1026) (by decide +kernel)⟩
theorem lw_p52 : lw_okq (⟨"InstrumentFilesModel", "becomes", "(II)V"⟩, 49) := ⟨⟨by decide +kernel, by decide +kernel⟩, List.mem_of_getElem? (i := 786) (by decide +kernel), List.mem_of_getElem? (i := 1029) (by decide +kernel), List.mem_of_getElem? (i := 1030) (by decide +kernel)⟩
theorem lw_p53 : lw_okq (⟨"InstrumentFilesModel", "isEntry", "(III)Z"⟩, 49) := ⟨⟨by decide +kernel, by decide +kernel⟩, List.mem_of_getElem? (i := 786) (by decide +kernel), List.mem_of_getElem? (i := 1036) (by decide +kernel), List.mem_of_getElem? (i := 1037) (by decide +kernel)⟩
theorem lw_p54 : lw_okq (⟨"InstrumentFilesModel", "isListed", "(I)Z"⟩, 49) := ⟨⟨by decide +kernel, by decide +kernel⟩, List.mem_of_getElem? (i := 786) (by decide +kernel), List.mem_of_getElem? (i := 1040) (by decide +kernel), List.mem_of_getElem? (i := 1041) (by decide +kernel)⟩
theorem lw_p55 : lw_okq (⟨"InstrumentFilesModel", "isWord", "(IIIIII)Z"⟩, 49) := ⟨⟨by decide +kernel, by decide +kernel⟩, List.mem_of_getElem? (i := 786) (by decide +kernel), List.mem_of_getElem? (i := 1044) (by decide +kernel), List.mem_of_getElem? (i := 1045) (by decide +kernel)⟩
theorem lw_p56 : lw_okq (⟨"InstrumentFilesModel", "judgeKinds", "(IIII)V"⟩, 49) := ⟨⟨by decide +kernel, by decide +kernel⟩, List.mem_of_getElem? (i := 786) (by decide +kernel), List.mem_of_getElem? (i := 1048) (by decide +kernel), List.mem_of_getElem? (i := 1049) (by decide +kernel)⟩
theorem lw_p57 : lw_okq (⟨"InstrumentFilesModel", "pops", "(II)I"⟩, 49) := ⟨⟨by decide +kernel, by decide +kernel⟩, List.mem_of_getElem? (i := 786) (by decide +kernel), List.mem_of_getElem? (i := 1052) (by decide +kernel), List.mem_of_getElem? (i := 1053) (by decide +kernel)⟩
theorem lw_p58 : lw_okq (⟨"InstrumentFilesModel", "wants", "(IIII)I"⟩, 49) := ⟨⟨by decide +kernel, by decide +kernel⟩, List.mem_of_getElem? (i := 786) (by decide +kernel), List.mem_of_getElem? (i := 1056) (by decide +kernel), List.mem_of_getElem? (i := 1057) (by decide +kernel)⟩
theorem lw_p59 : lw_okq (⟨"InstrumentFilesModel", "pushes", "(III)I"⟩, 49) := ⟨⟨by decide +kernel, by decide +kernel⟩, List.mem_of_getElem? (i := 786) (by decide +kernel), List.mem_of_getElem? (i := 1060) (by decide +kernel), List.mem_of_getElem? (i := 1061) (by decide +kernel)⟩
theorem lw_p60 : lw_okq (⟨"InstrumentFilesModel", "isMethod", "(I)Z"⟩, 49) := ⟨⟨by decide +kernel, by decide +kernel⟩, List.mem_of_getElem? (i := 786) (by decide +kernel), List.mem_of_getElem? (i := 1085) (by decide +kernel), List.mem_of_getElem? (i := 1086) (by decide +kernel)⟩
theorem lw_p61 : lw_okq (⟨"InstrumentFilesModel", "enter", "(I)V"⟩, 49) := ⟨⟨by decide +kernel, by decide +kernel⟩, List.mem_of_getElem? (i := 786) (by decide +kernel), List.mem_of_getElem? (i := 1113) (by decide +kernel), List.mem_of_getElem? (i := 1114) (by decide +kernel)⟩
theorem lw_p62 : lw_okq (⟨"InstrumentFilesModel", "give", "(IIJ)V"⟩, 49) := ⟨⟨by decide +kernel, by decide +kernel⟩, List.mem_of_getElem? (i := 786) (by decide +kernel), List.mem_of_getElem? (i := 1117) (by decide +kernel), List.mem_of_getElem? (i := 1118) (by decide +kernel)⟩
theorem lw_p63 : lw_okq (⟨"InstrumentFilesModel", "fails", "(I)V"⟩, 49) := ⟨⟨by decide +kernel, by decide +kernel⟩, List.mem_of_getElem? (i := 786) (by decide +kernel), List.mem_of_getElem? (i := 1121) (by decide +kernel), List.mem_of_getElem? (i := 1122) (by decide +kernel)⟩
def lw_privs_4 : List (MethodName × Nat) := [(⟨"InstrumentFilesModel", "judge", "(I)V"⟩, 49), (⟨"InstrumentFilesModel", "judgeOp", "(III)V"⟩, 49), (⟨"InstrumentFilesModel", "mapAt", "(II)I"⟩, 49), (⟨"InstrumentFilesModel", "fits", "(II)Z"⟩, 49), (⟨"InstrumentFilesModel", "becomes", "(II)V"⟩, 49), (⟨"InstrumentFilesModel", "isEntry", "(III)Z"⟩, 49), (⟨"InstrumentFilesModel", "isListed", "(I)Z"⟩, 49), (⟨"InstrumentFilesModel", "isWord", "(IIIIII)Z"⟩, 49), (⟨"InstrumentFilesModel", "judgeKinds", "(IIII)V"⟩, 49), (⟨"InstrumentFilesModel", "pops", "(II)I"⟩, 49), (⟨"InstrumentFilesModel", "wants", "(IIII)I"⟩, 49), (⟨"InstrumentFilesModel", "pushes", "(III)I"⟩, 49), (⟨"InstrumentFilesModel", "isMethod", "(I)Z"⟩, 49), (⟨"InstrumentFilesModel", "enter", "(I)V"⟩, 49), (⟨"InstrumentFilesModel", "give", "(IIJ)V"⟩, 49), (⟨"InstrumentFilesModel", "fails", "(I)V"⟩, 49)]
theorem lw_r4 : ∀ q ∈ lw_privs_4, lw_okq q := List.forall_mem_cons.mpr ⟨lw_p48, List.forall_mem_cons.mpr ⟨lw_p49, List.forall_mem_cons.mpr ⟨lw_p50, List.forall_mem_cons.mpr ⟨lw_p51, List.forall_mem_cons.mpr ⟨lw_p52, List.forall_mem_cons.mpr ⟨lw_p53, List.forall_mem_cons.mpr ⟨lw_p54, List.forall_mem_cons.mpr ⟨lw_p55, List.forall_mem_cons.mpr ⟨lw_p56, List.forall_mem_cons.mpr ⟨lw_p57, List.forall_mem_cons.mpr ⟨lw_p58, List.forall_mem_cons.mpr ⟨lw_p59, List.forall_mem_cons.mpr ⟨lw_p60, List.forall_mem_cons.mpr ⟨lw_p61, List.forall_mem_cons.mpr ⟨lw_p62, List.forall_mem_cons.mpr ⟨lw_p63, fun _ h => absurd h List.not_mem_nil⟩⟩⟩⟩⟩⟩⟩⟩⟩⟩⟩⟩⟩⟩⟩⟩
theorem lw_p64 : lw_okq (⟨"InstrumentFilesModel", "step", "()V"⟩, 49) := ⟨⟨by decide +kernel, by decide +kernel⟩, List.mem_of_getElem? (i := 786) (by decide +kernel), List.mem_of_getElem? (i := 1125) (by decide +kernel), List.mem_of_getElem? (i := 1126) (by decide +kernel)⟩
theorem lw_p65 : lw_okq (⟨"InstrumentFilesModel", "calls", "(II)V"⟩, 49) := ⟨⟨by decide +kernel, by decide +kernel⟩, List.mem_of_getElem? (i := 786) (by decide +kernel), List.mem_of_getElem? (i := 1129) (by decide +kernel), List.mem_of_getElem? (i := 1130) (by decide +kernel)⟩
theorem lw_p66 : lw_okq (⟨"InstrumentFilesModel", "gives", "(II)V"⟩, 49) := ⟨⟨by decide +kernel, by decide +kernel⟩, List.mem_of_getElem? (i := 786) (by decide +kernel), List.mem_of_getElem? (i := 1133) (by decide +kernel), List.mem_of_getElem? (i := 1134) (by decide +kernel)⟩
theorem lw_p67 : lw_okq (⟨"InstrumentFilesModel", "pop", "()I"⟩, 49) := ⟨⟨by decide +kernel, by decide +kernel⟩, List.mem_of_getElem? (i := 786) (by decide +kernel), List.mem_of_getElem? (i := 1137) (by decide +kernel), List.mem_of_getElem? (i := 1138) (by decide +kernel)⟩
theorem lw_p68 : lw_okq (⟨"InstrumentFilesModel", "push", "(ID)V"⟩, 49) := ⟨⟨by decide +kernel, by decide +kernel⟩, List.mem_of_getElem? (i := 786) (by decide +kernel), List.mem_of_getElem? (i := 1141) (by decide +kernel), List.mem_of_getElem? (i := 1142) (by decide +kernel)⟩
theorem lw_p69 : lw_okq (⟨"InstrumentFilesModel", "moves", "(III)V"⟩, 49) := ⟨⟨by decide +kernel, by decide +kernel⟩, List.mem_of_getElem? (i := 786) (by decide +kernel), List.mem_of_getElem? (i := 1145) (by decide +kernel), List.mem_of_getElem? (i := 1146) (by decide +kernel)⟩
theorem lw_p70 : lw_okq (⟨"InstrumentFilesModel", "joinsInts", "(I)V"⟩, 49) := ⟨⟨by decide +kernel, by decide +kernel⟩, List.mem_of_getElem? (i := 786) (by decide +kernel), List.mem_of_getElem? (i := 1149) (by decide +kernel), List.mem_of_getElem? (i := 1150) (by decide +kernel)⟩
theorem lw_p71 : lw_okq (⟨"InstrumentFilesModel", "joinsDoubles", "(I)V"⟩, 49) := ⟨⟨by decide +kernel, by decide +kernel⟩, List.mem_of_getElem? (i := 786) (by decide +kernel), List.mem_of_getElem? (i := 1153) (by decide +kernel), List.mem_of_getElem? (i := 1154) (by decide +kernel)⟩
theorem lw_p72 : lw_okq (⟨"InstrumentFilesModel", "turns", "(II)V"⟩, 49) := ⟨⟨by decide +kernel, by decide +kernel⟩, List.mem_of_getElem? (i := 786) (by decide +kernel), List.mem_of_getElem? (i := 1174) (by decide +kernel), List.mem_of_getElem? (i := 1175) (by decide +kernel)⟩
theorem lw_p73 : lw_okq (⟨"InstrumentFilesModel", "listed", "(ID)D"⟩, 49) := ⟨⟨by decide +kernel, by decide +kernel⟩, List.mem_of_getElem? (i := 786) (by decide +kernel), List.mem_of_getElem? (i := 1178) (by decide +kernel), List.mem_of_getElem? (i := 1179) (by decide +kernel)⟩
def lw_privs_5 : List (MethodName × Nat) := [(⟨"InstrumentFilesModel", "step", "()V"⟩, 49), (⟨"InstrumentFilesModel", "calls", "(II)V"⟩, 49), (⟨"InstrumentFilesModel", "gives", "(II)V"⟩, 49), (⟨"InstrumentFilesModel", "pop", "()I"⟩, 49), (⟨"InstrumentFilesModel", "push", "(ID)V"⟩, 49), (⟨"InstrumentFilesModel", "moves", "(III)V"⟩, 49), (⟨"InstrumentFilesModel", "joinsInts", "(I)V"⟩, 49), (⟨"InstrumentFilesModel", "joinsDoubles", "(I)V"⟩, 49), (⟨"InstrumentFilesModel", "turns", "(II)V"⟩, 49), (⟨"InstrumentFilesModel", "listed", "(ID)D"⟩, 49)]
theorem lw_r5 : ∀ q ∈ lw_privs_5, lw_okq q := List.forall_mem_cons.mpr ⟨lw_p64, List.forall_mem_cons.mpr ⟨lw_p65, List.forall_mem_cons.mpr ⟨lw_p66, List.forall_mem_cons.mpr ⟨lw_p67, List.forall_mem_cons.mpr ⟨lw_p68, List.forall_mem_cons.mpr ⟨lw_p69, List.forall_mem_cons.mpr ⟨lw_p70, List.forall_mem_cons.mpr ⟨lw_p71, List.forall_mem_cons.mpr ⟨lw_p72, List.forall_mem_cons.mpr ⟨lw_p73, fun _ h => absurd h List.not_mem_nil⟩⟩⟩⟩⟩⟩⟩⟩⟩⟩
def lw_privs : List (MethodName × Nat) := lw_privs_1 ++ (lw_privs_2 ++ (lw_privs_3 ++ (lw_privs_4 ++ (lw_privs_5))))
def lw_tbl : List Cond := k2_sels lw_privs ++ tables_1
theorem lw_privs_ok : ∀ q ∈ lw_privs, lw_okq q := by
  show ∀ q ∈ lw_privs_1 ++ (lw_privs_2 ++ (lw_privs_3 ++ (lw_privs_4 ++ (lw_privs_5)))), lw_okq q
  exact List.forall_mem_append.mpr ⟨lw_r1, List.forall_mem_append.mpr ⟨lw_r2, List.forall_mem_append.mpr ⟨lw_r3, List.forall_mem_append.mpr ⟨lw_r4, lw_r5⟩⟩⟩⟩
/-- the streams that the claim lets the run draw from -/
abbrev lw_cs : List Choice := [Jvm.Choice.named "NaN.bits", Jvm.Choice.named "NaN.copy"]
theorem lw_bits : nanBits ∈ lw_cs := by first | decide | exact List.mem_cons_self | simp [lw_cs, nanBits]
end
section
/-! names and layout: classes, their fields in the order of the slots, arrays by kind -/
def TF0 : u_T := fun k => match k with
  | 0 => ("InstrumentFiles", "tape", "LInstrumentFiles$Tape;", true)
  | 1 => ("InstrumentFiles", "program", "LInstrumentFiles$Program;", true)
  | 2 => ("InstrumentFiles", "reader", "LInstrumentFiles$Reader;", true)
  | 3 => ("InstrumentFiles", "judge", "LInstrumentFiles$Judge;", true)
  | 4 => ("InstrumentFiles", "machine", "LInstrumentFiles$Machine;", true)
  | 5 => ("InstrumentFiles", "latestFault", "I", false)
  | _ => ("InstrumentFiles", "callsSinceRead", "I", false)
def tyF0 : Nat → FieldType := fun k => match k with
  | 0 => .object "InstrumentFiles$Tape"
  | 1 => .object "InstrumentFiles$Program"
  | 2 => .object "InstrumentFiles$Reader"
  | 3 => .object "InstrumentFiles$Judge"
  | 4 => .object "InstrumentFiles$Machine"
  | 5 => .int
  | _ => .int
def TF1 : u_T := fun k => match k with
  | 0 => ("InstrumentFiles$Tape", "bytes", "[I", true)
  | _ => ("InstrumentFiles$Tape", "length", "I", false)
def tyF1 : Nat → FieldType := fun k => match k with
  | 0 => .array .int
  | _ => .int
def TF2 : u_T := fun k => match k with
  | 0 => ("InstrumentFiles$Program", "pool", "LInstrumentFiles$Pool;", true)
  | 1 => ("InstrumentFiles$Program", "rows", "[LInstrumentFiles$Method;", true)
  | 2 => ("InstrumentFiles$Program", "version", "I", false)
  | _ => ("InstrumentFiles$Program", "methods", "I", false)
def tyF2 : Nat → FieldType := fun k => match k with
  | 0 => .object "InstrumentFiles$Pool"
  | 1 => .array (.object "InstrumentFiles$Method")
  | 2 => .int
  | _ => .int
def TF3 : u_T := fun k => match k with
  | 0 => ("InstrumentFiles$Pool", "tags", "[I", true)
  | 1 => ("InstrumentFiles$Pool", "sizes", "[I", true)
  | 2 => ("InstrumentFiles$Pool", "values", "[J", true)
  | _ => ("InstrumentFiles$Pool", "entries", "I", false)
def tyF3 : Nat → FieldType := fun k => match k with
  | 0 => .array .int
  | 1 => .array .int
  | 2 => .array .long
  | _ => .int
def TF4 : u_T := fun k => match k with
  | 0 => ("InstrumentFiles$Method", "name", "I", false)
  | 1 => ("InstrumentFiles$Method", "takes", "I", false)
  | 2 => ("InstrumentFiles$Method", "gives", "I", false)
  | 3 => ("InstrumentFiles$Method", "locals", "I", false)
  | 4 => ("InstrumentFiles$Method", "stack", "I", false)
  | 5 => ("InstrumentFiles$Method", "length", "I", false)
  | 6 => ("InstrumentFiles$Method", "maps", "I", false)
  | 7 => ("InstrumentFiles$Method", "failed", "I", false)
  | 8 => ("InstrumentFiles$Method", "firstKinds", "I", false)
  | 9 => ("InstrumentFiles$Method", "code", "[I", true)
  | 10 => ("InstrumentFiles$Method", "mapPlaces", "[I", true)
  | 11 => ("InstrumentFiles$Method", "mapKinds", "[I", true)
  | _ => ("InstrumentFiles$Method", "judgedKinds", "[I", true)
def tyF4 : Nat → FieldType := fun k => match k with
  | 0 => .int
  | 1 => .int
  | 2 => .int
  | 3 => .int
  | 4 => .int
  | 5 => .int
  | 6 => .int
  | 7 => .int
  | 8 => .int
  | 9 => .array .int
  | 10 => .array .int
  | 11 => .array .int
  | _ => .array .int
def TF5 : u_T := fun k => match k with
  | 0 => ("InstrumentFiles$Reader", "place", "I", false)
  | _ => ("InstrumentFiles$Reader", "wrong", "I", false)
def tyF5 : Nat → FieldType := fun k => match k with
  | 0 => .int
  | _ => .int
def TF6 : u_T := fun k => match k with
  | 0 => ("InstrumentFiles$Judge", "place", "I", false)
  | 1 => ("InstrumentFiles$Judge", "kinds", "I", false)
  | _ => ("InstrumentFiles$Judge", "atHand", "Z", false)
def tyF6 : Nat → FieldType := fun k => match k with
  | 0 => .int
  | 1 => .int
  | _ => .boolean
def TF7 : u_T := fun k => match k with
  | 0 => ("InstrumentFiles$Machine", "table", "[J", true)
  | 1 => ("InstrumentFiles$Machine", "stack", "[J", true)
  | 2 => ("InstrumentFiles$Machine", "locals", "[J", true)
  | 3 => ("InstrumentFiles$Machine", "methods", "[I", true)
  | 4 => ("InstrumentFiles$Machine", "places", "[I", true)
  | 5 => ("InstrumentFiles$Machine", "bases", "[I", true)
  | 6 => ("InstrumentFiles$Machine", "depth", "I", false)
  | 7 => ("InstrumentFiles$Machine", "top", "I", false)
  | 8 => ("InstrumentFiles$Machine", "opPlace", "I", false)
  | 9 => ("InstrumentFiles$Machine", "failure", "I", false)
  | 10 => ("InstrumentFiles$Machine", "steps", "I", false)
  | 11 => ("InstrumentFiles$Machine", "outermost", "I", false)
  | 12 => ("InstrumentFiles$Machine", "failedPlace", "I", false)
  | 13 => ("InstrumentFiles$Machine", "deepest", "I", false)
  | _ => ("InstrumentFiles$Machine", "given", "J", false)
def tyF7 : Nat → FieldType := fun k => match k with
  | 0 => .array .long
  | 1 => .array .long
  | 2 => .array .long
  | 3 => .array .int
  | 4 => .array .int
  | 5 => .array .int
  | 6 => .int
  | 7 => .int
  | 8 => .int
  | 9 => .int
  | 10 => .int
  | 11 => .int
  | 12 => .int
  | 13 => .int
  | _ => .long
def TF8 : u_T := fun k => match k with
  | 0 => ("InstrumentFilesModel", "tape", "[I", true)
  | 1 => ("InstrumentFilesModel", "size", "I", false)
  | 2 => ("InstrumentFilesModel", "table", "[D", true)
  | 3 => ("InstrumentFilesModel", "version", "I", false)
  | 4 => ("InstrumentFilesModel", "entries", "I", false)
  | 5 => ("InstrumentFilesModel", "tags", "[I", true)
  | 6 => ("InstrumentFilesModel", "numbers", "[J", true)
  | 7 => ("InstrumentFilesModel", "words", "[I", true)
  | 8 => ("InstrumentFilesModel", "letters", "[I", true)
  | 9 => ("InstrumentFilesModel", "methods", "I", false)
  | 10 => ("InstrumentFilesModel", "names", "[I", true)
  | 11 => ("InstrumentFilesModel", "takes", "[I", true)
  | 12 => ("InstrumentFilesModel", "taken", "[I", true)
  | 13 => ("InstrumentFilesModel", "gives", "[I", true)
  | 14 => ("InstrumentFilesModel", "locals", "[I", true)
  | 15 => ("InstrumentFilesModel", "stacks", "[I", true)
  | 16 => ("InstrumentFilesModel", "lengths", "[I", true)
  | 17 => ("InstrumentFilesModel", "code", "[I", true)
  | 18 => ("InstrumentFilesModel", "maps", "[I", true)
  | 19 => ("InstrumentFilesModel", "mapPlaces", "[I", true)
  | 20 => ("InstrumentFilesModel", "mapLocals", "[I", true)
  | 21 => ("InstrumentFilesModel", "mapDeep", "[I", true)
  | 22 => ("InstrumentFilesModel", "mapStack", "[I", true)
  | 23 => ("InstrumentFilesModel", "begins", "[Z", true)
  | 24 => ("InstrumentFilesModel", "judgedDeep", "[I", true)
  | 25 => ("InstrumentFilesModel", "judgedStack", "[I", true)
  | 26 => ("InstrumentFilesModel", "judgedLocals", "[I", true)
  | 27 => ("InstrumentFilesModel", "fell", "[I", true)
  | 28 => ("InstrumentFilesModel", "fault", "I", false)
  | 29 => ("InstrumentFilesModel", "faultAt", "I", false)
  | 30 => ("InstrumentFilesModel", "calls", "I", false)
  | 31 => ("InstrumentFilesModel", "pos", "I", false)
  | 32 => ("InstrumentFilesModel", "atHand", "Z", false)
  | 33 => ("InstrumentFilesModel", "deep", "I", false)
  | 34 => ("InstrumentFilesModel", "stack", "[I", true)
  | 35 => ("InstrumentFilesModel", "local", "[I", true)
  | 36 => ("InstrumentFilesModel", "frames", "I", false)
  | 37 => ("InstrumentFilesModel", "frameMethod", "[I", true)
  | 38 => ("InstrumentFilesModel", "framePlace", "[I", true)
  | 39 => ("InstrumentFilesModel", "frameDeep", "[I", true)
  | 40 => ("InstrumentFilesModel", "ints", "[I", true)
  | 41 => ("InstrumentFilesModel", "doubles", "[D", true)
  | 42 => ("InstrumentFilesModel", "called", "Z", false)
  | 43 => ("InstrumentFilesModel", "result", "J", false)
  | 44 => ("InstrumentFilesModel", "failed", "I", false)
  | 45 => ("InstrumentFilesModel", "steps", "I", false)
  | 46 => ("InstrumentFilesModel", "outer", "I", false)
  | 47 => ("InstrumentFilesModel", "failedAt", "I", false)
  | _ => ("InstrumentFilesModel", "deepest", "I", false)
def tyF8 : Nat → FieldType := fun k => match k with
  | 0 => .array .int
  | 1 => .int
  | 2 => .array .double
  | 3 => .int
  | 4 => .int
  | 5 => .array .int
  | 6 => .array .long
  | 7 => .array .int
  | 8 => .array .int
  | 9 => .int
  | 10 => .array .int
  | 11 => .array .int
  | 12 => .array .int
  | 13 => .array .int
  | 14 => .array .int
  | 15 => .array .int
  | 16 => .array .int
  | 17 => .array .int
  | 18 => .array .int
  | 19 => .array .int
  | 20 => .array .int
  | 21 => .array .int
  | 22 => .array .int
  | 23 => .array .boolean
  | 24 => .array .int
  | 25 => .array .int
  | 26 => .array .int
  | 27 => .array .int
  | 28 => .int
  | 29 => .int
  | 30 => .int
  | 31 => .int
  | 32 => .boolean
  | 33 => .int
  | 34 => .array .int
  | 35 => .array .int
  | 36 => .int
  | 37 => .array .int
  | 38 => .array .int
  | 39 => .array .int
  | 40 => .array .int
  | 41 => .array .double
  | 42 => .boolean
  | 43 => .long
  | 44 => .int
  | 45 => .int
  | 46 => .int
  | 47 => .int
  | _ => .int
abbrev clsL : List vw_C := [("InstrumentFiles", TF0, 7), ("InstrumentFiles$Tape", TF1, 2), ("InstrumentFiles$Program", TF2, 4), ("InstrumentFiles$Pool", TF3, 4), ("InstrumentFiles$Method", TF4, 13), ("InstrumentFiles$Reader", TF5, 2), ("InstrumentFiles$Judge", TF6, 3), ("InstrumentFiles$Machine", TF7, 15), ("InstrumentFilesModel", TF8, 49)]
def tyFs : List (Nat → FieldType) := [tyF0, tyF1, tyF2, tyF3, tyF4, tyF5, tyF6, tyF7, tyF8]
/-- of a class and a slot: 0 int, 1 long, 2 a reference and to which kind, 3 boolean -/
def fTab : List (List (Nat × Nat)) := [[(2, 1), (2, 2), (2, 5), (2, 6), (2, 7), (0, 0), (0, 0)], [(2, 9), (0, 0)], [(2, 3), (2, 10), (0, 0), (0, 0)], [(2, 11), (2, 12), (2, 13), (0, 0)], [(0, 0), (0, 0), (0, 0), (0, 0), (0, 0), (0, 0), (0, 0), (0, 0), (0, 0), (2, 14), (2, 15), (2, 16), (2, 17)], [(0, 0), (0, 0)], [(0, 0), (0, 0), (3, 0)], [(2, 18), (2, 19), (2, 20), (2, 21), (2, 22), (2, 23), (0, 0), (0, 0), (0, 0), (0, 0), (0, 0), (0, 0), (0, 0), (0, 0), (1, 0)], [(2, 24), (0, 0), (2, 25), (0, 0), (0, 0), (2, 26), (2, 27), (2, 28), (2, 29), (0, 0), (2, 30), (2, 31), (2, 32), (2, 33), (2, 34), (2, 35), (2, 36), (2, 37), (2, 38), (2, 39), (2, 40), (2, 41), (2, 42), (2, 43), (2, 44), (2, 45), (2, 46), (2, 47), (0, 0), (0, 0), (0, 0), (0, 0), (3, 0), (0, 0), (2, 48), (2, 49), (0, 0), (2, 50), (2, 51), (2, 52), (2, 53), (2, 54), (3, 0), (1, 0), (0, 0), (0, 0), (0, 0), (0, 0), (0, 0)]]
def fTy (k s : Nat) : Nat × Nat := (fTab.getD k []).getD s (0, 0)
def nF (k : Nat) : Nat := (fTab.getD k []).length
/-- of an array kind, from 9 on: 0 int, 1 boolean, 2 long, 3 double, 4 Method; its length -/
def aTab : List (Nat × Nat) := [(0, 500), (4, 5), (0, 16), (0, 16), (2, 16), (0, 48), (0, 8), (0, 8), (0, 48), (2, 8), (2, 48), (2, 48), (0, 8), (0, 8), (0, 8), (0, 500), (3, 8), (0, 16), (2, 16), (0, 16), (0, 128), (0, 5), (0, 5), (0, 15), (0, 5), (0, 5), (0, 5), (0, 5), (0, 240), (0, 5), (0, 40), (0, 240), (0, 40), (0, 240), (1, 240), (0, 240), (0, 1440), (0, 1440), (0, 5), (0, 8), (0, 6), (0, 8), (0, 8), (0, 8), (0, 96), (3, 96)]
def aTy (k : Nat) : Nat × Nat := aTab.getD (k - 9) (0, 0)
def objs : List (Nat × Nat) := [(0, 0), (1, 0), (2, 0), (3, 0), (4, 0), (4, 1), (4, 2), (4, 3), (4, 4), (5, 0), (6, 0), (7, 0), (8, 0), (9, 0), (10, 0), (11, 0), (12, 0), (13, 0), (14, 0), (14, 1), (14, 2), (14, 3), (14, 4), (15, 0), (15, 1), (15, 2), (15, 3), (15, 4), (16, 0), (16, 1), (16, 2), (16, 3), (16, 4), (17, 0), (17, 1), (17, 2), (17, 3), (17, 4), (18, 0), (19, 0), (20, 0), (21, 0), (22, 0), (23, 0), (24, 0), (25, 0), (26, 0), (27, 0), (28, 0), (29, 0), (30, 0), (31, 0), (32, 0), (33, 0), (34, 0), (35, 0), (36, 0), (37, 0), (38, 0), (39, 0), (40, 0), (41, 0), (42, 0), (43, 0), (44, 0), (45, 0), (46, 0), (47, 0), (48, 0), (49, 0), (50, 0), (51, 0), (52, 0), (53, 0), (54, 0)]
def arrs : List (Nat × Nat) := objs.filter (fun o => decide (9 ≤ o.1))
theorem objs_nd : objs.Nodup := by decide +kernel
theorem objs_lt : ∀ o ∈ objs, o.1 < 55 := by decide +kernel
def lw_gd : List Cond := lw_tbl.filter goodWord
theorem gd_tbl {w : Cond} (h : w ∈ lw_gd) : w ∈ lw_tbl := (List.mem_filter.mp h).1
theorem gd_good {w : Cond} (h : w ∈ lw_gd) : (w.onTables && w.keeps) = true ∨ ∃ ty, w = .arrayClass ty := good_of_word (List.mem_filter.mp h).2
def isFN (w : Cond) : Bool := match w with
  | .fieldLinkNest .. => true
  | _ => false
def lw_ns : List Cond := lw_tbl.filter isFN
theorem cls_in : ∀ q ∈ clsL, ∀ w ∈ u_ws q.1 q.2.1 q.2.2, w ∈ lw_gd := by decide +kernel
theorem nmF0 : ∀ a, a < 7 → ∀ b, b < 7 → a ≠ b → (TF0 a).2.1 ≠ (TF0 b).2.1 := by decide +kernel
theorem tyF0_ok : ∀ k, k < 7 → parseFieldDescriptor (TF0 k).2.2.1 = some (tyF0 k) := by decide +kernel
theorem nmF1 : ∀ a, a < 2 → ∀ b, b < 2 → a ≠ b → (TF1 a).2.1 ≠ (TF1 b).2.1 := by decide +kernel
theorem tyF1_ok : ∀ k, k < 2 → parseFieldDescriptor (TF1 k).2.2.1 = some (tyF1 k) := by decide +kernel
theorem nmF2 : ∀ a, a < 4 → ∀ b, b < 4 → a ≠ b → (TF2 a).2.1 ≠ (TF2 b).2.1 := by decide +kernel
theorem tyF2_ok : ∀ k, k < 4 → parseFieldDescriptor (TF2 k).2.2.1 = some (tyF2 k) := by decide +kernel
theorem nmF3 : ∀ a, a < 4 → ∀ b, b < 4 → a ≠ b → (TF3 a).2.1 ≠ (TF3 b).2.1 := by decide +kernel
theorem tyF3_ok : ∀ k, k < 4 → parseFieldDescriptor (TF3 k).2.2.1 = some (tyF3 k) := by decide +kernel
theorem nmF4 : ∀ a, a < 13 → ∀ b, b < 13 → a ≠ b → (TF4 a).2.1 ≠ (TF4 b).2.1 := by decide +kernel
theorem tyF4_ok : ∀ k, k < 13 → parseFieldDescriptor (TF4 k).2.2.1 = some (tyF4 k) := by decide +kernel
theorem nmF5 : ∀ a, a < 2 → ∀ b, b < 2 → a ≠ b → (TF5 a).2.1 ≠ (TF5 b).2.1 := by decide +kernel
theorem tyF5_ok : ∀ k, k < 2 → parseFieldDescriptor (TF5 k).2.2.1 = some (tyF5 k) := by decide +kernel
theorem nmF6 : ∀ a, a < 3 → ∀ b, b < 3 → a ≠ b → (TF6 a).2.1 ≠ (TF6 b).2.1 := by decide +kernel
theorem tyF6_ok : ∀ k, k < 3 → parseFieldDescriptor (TF6 k).2.2.1 = some (tyF6 k) := by decide +kernel
theorem nmF7 : ∀ a, a < 15 → ∀ b, b < 15 → a ≠ b → (TF7 a).2.1 ≠ (TF7 b).2.1 := by decide +kernel
theorem tyF7_ok : ∀ k, k < 15 → parseFieldDescriptor (TF7 k).2.2.1 = some (tyF7 k) := by decide +kernel
theorem nmF8 : ∀ a, a < 49 → ∀ b, b < 49 → a ≠ b → (TF8 a).2.1 ≠ (TF8 b).2.1 := by decide +kernel
theorem tyF8_ok : ∀ k, k < 49 → parseFieldDescriptor (TF8 k).2.2.1 = some (tyF8 k) := by decide +kernel
theorem mem_1 {w : Cond} (i : Nat) (h : tables_1_1[i]? = some w) (hg : goodWord w = true) : w ∈ lw_gd := List.mem_filter.mpr ⟨List.mem_append_right _ (List.mem_append_left _ (List.mem_of_getElem? h)), hg⟩
theorem men_1 {w : Cond} (i : Nat) (h : tables_1_1[i]? = some w) (hg : isFN w = true) : w ∈ lw_ns := List.mem_filter.mpr ⟨List.mem_append_right _ (List.mem_append_left _ (List.mem_of_getElem? h)), hg⟩
theorem mem_2 {w : Cond} (i : Nat) (h : tables_1_2[i]? = some w) (hg : goodWord w = true) : w ∈ lw_gd := List.mem_filter.mpr ⟨List.mem_append_right _ (List.mem_append_right _ (List.mem_append_left _ (List.mem_of_getElem? h))), hg⟩
theorem men_2 {w : Cond} (i : Nat) (h : tables_1_2[i]? = some w) (hg : isFN w = true) : w ∈ lw_ns := List.mem_filter.mpr ⟨List.mem_append_right _ (List.mem_append_right _ (List.mem_append_left _ (List.mem_of_getElem? h))), hg⟩
theorem mem_3 {w : Cond} (i : Nat) (h : tables_1_3[i]? = some w) (hg : goodWord w = true) : w ∈ lw_gd := List.mem_filter.mpr ⟨List.mem_append_right _ (List.mem_append_right _ (List.mem_append_right _ (List.mem_append_left _ (List.mem_of_getElem? h)))), hg⟩
theorem men_3 {w : Cond} (i : Nat) (h : tables_1_3[i]? = some w) (hg : isFN w = true) : w ∈ lw_ns := List.mem_filter.mpr ⟨List.mem_append_right _ (List.mem_append_right _ (List.mem_append_right _ (List.mem_append_left _ (List.mem_of_getElem? h)))), hg⟩
theorem mem_4 {w : Cond} (i : Nat) (h : tables_1_4[i]? = some w) (hg : goodWord w = true) : w ∈ lw_gd := List.mem_filter.mpr ⟨List.mem_append_right _ (List.mem_append_right _ (List.mem_append_right _ (List.mem_append_right _ (List.mem_append_left _ (List.mem_of_getElem? h))))), hg⟩
theorem men_4 {w : Cond} (i : Nat) (h : tables_1_4[i]? = some w) (hg : isFN w = true) : w ∈ lw_ns := List.mem_filter.mpr ⟨List.mem_append_right _ (List.mem_append_right _ (List.mem_append_right _ (List.mem_append_right _ (List.mem_append_left _ (List.mem_of_getElem? h))))), hg⟩
theorem mem_5 {w : Cond} (i : Nat) (h : tables_1_5[i]? = some w) (hg : goodWord w = true) : w ∈ lw_gd := List.mem_filter.mpr ⟨List.mem_append_right _ (List.mem_append_right _ (List.mem_append_right _ (List.mem_append_right _ (List.mem_append_right _ (List.mem_append_left _ (List.mem_of_getElem? h)))))), hg⟩
theorem men_5 {w : Cond} (i : Nat) (h : tables_1_5[i]? = some w) (hg : isFN w = true) : w ∈ lw_ns := List.mem_filter.mpr ⟨List.mem_append_right _ (List.mem_append_right _ (List.mem_append_right _ (List.mem_append_right _ (List.mem_append_right _ (List.mem_append_left _ (List.mem_of_getElem? h)))))), hg⟩
theorem mem_6 {w : Cond} (i : Nat) (h : tables_1_6[i]? = some w) (hg : goodWord w = true) : w ∈ lw_gd := List.mem_filter.mpr ⟨List.mem_append_right _ (List.mem_append_right _ (List.mem_append_right _ (List.mem_append_right _ (List.mem_append_right _ (List.mem_append_right _ (List.mem_of_getElem? h)))))), hg⟩
theorem men_6 {w : Cond} (i : Nat) (h : tables_1_6[i]? = some w) (hg : isFN w = true) : w ∈ lw_ns := List.mem_filter.mpr ⟨List.mem_append_right _ (List.mem_append_right _ (List.mem_append_right _ (List.mem_append_right _ (List.mem_append_right _ (List.mem_append_right _ (List.mem_of_getElem? h)))))), hg⟩
theorem mem_p {w : Cond} (i : Nat) (h : (k2_sels lw_privs)[i]? = some w) (hg : goodWord w = true) : w ∈ lw_gd := List.mem_filter.mpr ⟨List.mem_append_left _ (List.mem_of_getElem? h), hg⟩
abbrev c_Dbl_canonical : ByteArray := prog_2_method_2_code
def y_Dbl_canonical : MethodName := ⟨"InstrumentFiles$Doubles", "canonical", "(J)J"⟩
abbrev c_Dbl_isNan : ByteArray := prog_2_method_3_code
def y_Dbl_isNan : MethodName := ⟨"InstrumentFiles$Doubles", "isNan", "(J)Z"⟩
abbrev c_Dbl_absolute : ByteArray := prog_2_method_4_code
def y_Dbl_absolute : MethodName := ⟨"InstrumentFiles$Doubles", "absolute", "(J)J"⟩
abbrev c_Dbl_negate : ByteArray := prog_2_method_5_code
def y_Dbl_negate : MethodName := ⟨"InstrumentFiles$Doubles", "negate", "(J)J"⟩
abbrev c_Dbl_scaleOf : ByteArray := prog_2_method_6_code
def y_Dbl_scaleOf : MethodName := ⟨"InstrumentFiles$Doubles", "scaleOf", "(J)I"⟩
abbrev c_Dbl_digitsOf : ByteArray := prog_2_method_7_code
def y_Dbl_digitsOf : MethodName := ⟨"InstrumentFiles$Doubles", "digitsOf", "(J)J"⟩
abbrev c_Dbl_add : ByteArray := prog_2_method_8_code
def y_Dbl_add : MethodName := ⟨"InstrumentFiles$Doubles", "add", "(JJ)J"⟩
abbrev c_Dbl_multiply : ByteArray := prog_2_method_9_code
def y_Dbl_multiply : MethodName := ⟨"InstrumentFiles$Doubles", "multiply", "(JJ)J"⟩
abbrev c_Dbl_productAbove49 : ByteArray := prog_2_method_10_code
def y_Dbl_productAbove49 : MethodName := ⟨"InstrumentFiles$Doubles", "productAbove49", "(JJ)J"⟩
abbrev c_Dbl_divide : ByteArray := prog_2_method_11_code
def y_Dbl_divide : MethodName := ⟨"InstrumentFiles$Doubles", "divide", "(JJ)J"⟩
abbrev c_Dbl_quotientWith60 : ByteArray := prog_2_method_12_code
def y_Dbl_quotientWith60 : MethodName := ⟨"InstrumentFiles$Doubles", "quotientWith60", "(JJ)J"⟩
abbrev c_Dbl_root : ByteArray := prog_2_method_13_code
def y_Dbl_root : MethodName := ⟨"InstrumentFiles$Doubles", "root", "(J)J"⟩
abbrev c_Dbl_rootWith29 : ByteArray := prog_2_method_14_code
def y_Dbl_rootWith29 : MethodName := ⟨"InstrumentFiles$Doubles", "rootWith29", "(J)J"⟩
abbrev c_Dbl_floor : ByteArray := prog_2_method_15_code
def y_Dbl_floor : MethodName := ⟨"InstrumentFiles$Doubles", "floor", "(J)J"⟩
abbrev c_Dbl_sign : ByteArray := prog_2_method_16_code
def y_Dbl_sign : MethodName := ⟨"InstrumentFiles$Doubles", "sign", "(J)J"⟩
abbrev c_Dbl_isBelow : ByteArray := prog_2_method_17_code
def y_Dbl_isBelow : MethodName := ⟨"InstrumentFiles$Doubles", "isBelow", "(JJ)Z"⟩
abbrev c_Dbl_fromInt : ByteArray := prog_2_method_18_code
def y_Dbl_fromInt : MethodName := ⟨"InstrumentFiles$Doubles", "fromInt", "(I)J"⟩
abbrev c_Dbl_toInt : ByteArray := prog_2_method_19_code
def y_Dbl_toInt : MethodName := ⟨"InstrumentFiles$Doubles", "toInt", "(J)I"⟩
abbrev c_Dbl_rounded : ByteArray := prog_2_method_20_code
def y_Dbl_rounded : MethodName := ⟨"InstrumentFiles$Doubles", "rounded", "(JIJ)J"⟩
abbrev c_Dbl_shiftedDown : ByteArray := prog_2_method_21_code
def y_Dbl_shiftedDown : MethodName := ⟨"InstrumentFiles$Doubles", "shiftedDown", "(JI)J"⟩
abbrev c_Dbl_leadingZeros : ByteArray := prog_2_method_22_code
def y_Dbl_leadingZeros : MethodName := ⟨"InstrumentFiles$Doubles", "leadingZeros", "(J)I"⟩
abbrev c_Judge_init : ByteArray := prog_3_method_1_code
def y_Judge_init : MethodName := ⟨"InstrumentFiles$Judge", "<init>", "()V"⟩
abbrev c_Judge_judgeMethod : ByteArray := prog_3_method_2_code
def y_Judge_judgeMethod : MethodName := ⟨"InstrumentFiles$Judge", "judgeMethod", "(LInstrumentFiles$Program;I)I"⟩
abbrev c_Judge_judgeMapPlaces : ByteArray := prog_3_method_3_code
def y_Judge_judgeMapPlaces : MethodName := ⟨"InstrumentFiles$Judge", "judgeMapPlaces", "(LInstrumentFiles$Method;)I"⟩
abbrev c_Judge_judgeOp : ByteArray := prog_3_method_4_code
def y_Judge_judgeOp : MethodName := ⟨"InstrumentFiles$Judge", "judgeOp", "(LInstrumentFiles$Program;LInstrumentFiles$Method;)I"⟩
abbrev c_Judge_meetsMap : ByteArray := prog_3_method_5_code
def y_Judge_meetsMap : MethodName := ⟨"InstrumentFiles$Judge", "meetsMap", "(LInstrumentFiles$Method;)Z"⟩
abbrev c_Judge_reaches : ByteArray := prog_3_method_6_code
def y_Judge_reaches : MethodName := ⟨"InstrumentFiles$Judge", "reaches", "(LInstrumentFiles$Method;I)Z"⟩
abbrev c_Judge_hasEntry : ByteArray := prog_3_method_7_code
def y_Judge_hasEntry : MethodName := ⟨"InstrumentFiles$Judge", "hasEntry", "(LInstrumentFiles$Program;LInstrumentFiles$Method;II)Z"⟩
abbrev c_Judge_judgeCall : ByteArray := prog_3_method_8_code
def y_Judge_judgeCall : MethodName := ⟨"InstrumentFiles$Judge", "judgeCall", "(LInstrumentFiles$Method;LInstrumentFiles$Method;)I"⟩
abbrev c_Judge_judgeStack : ByteArray := prog_3_method_9_code
def y_Judge_judgeStack : MethodName := ⟨"InstrumentFiles$Judge", "judgeStack", "(LInstrumentFiles$Method;II)I"⟩
abbrev c_Judge_popped : ByteArray := prog_3_method_10_code
def y_Judge_popped : MethodName := ⟨"InstrumentFiles$Judge", "popped", "()I"⟩
abbrev c_Judge_push : ByteArray := prog_3_method_11_code
def y_Judge_push : MethodName := ⟨"InstrumentFiles$Judge", "push", "(LInstrumentFiles$Method;I)I"⟩
abbrev c_Kinds_depth : ByteArray := prog_4_method_2_code
def y_Kinds_depth : MethodName := ⟨"InstrumentFiles$Kinds", "depth", "(I)I"⟩
abbrev c_Kinds_item : ByteArray := prog_4_method_3_code
def y_Kinds_item : MethodName := ⟨"InstrumentFiles$Kinds", "item", "(II)I"⟩
abbrev c_Kinds_local : ByteArray := prog_4_method_4_code
def y_Kinds_local : MethodName := ⟨"InstrumentFiles$Kinds", "local", "(II)I"⟩
abbrev c_Kinds_push : ByteArray := prog_4_method_5_code
def y_Kinds_push : MethodName := ⟨"InstrumentFiles$Kinds", "push", "(II)I"⟩
abbrev c_Kinds_pop : ByteArray := prog_4_method_6_code
def y_Kinds_pop : MethodName := ⟨"InstrumentFiles$Kinds", "pop", "(I)I"⟩
abbrev c_Kinds_withLocal : ByteArray := prog_4_method_7_code
def y_Kinds_withLocal : MethodName := ⟨"InstrumentFiles$Kinds", "withLocal", "(III)I"⟩
abbrev c_Kinds_fits : ByteArray := prog_4_method_8_code
def y_Kinds_fits : MethodName := ⟨"InstrumentFiles$Kinds", "fits", "(II)Z"⟩
abbrev c_Mach_init : ByteArray := prog_5_method_1_code
def y_Mach_init : MethodName := ⟨"InstrumentFiles$Machine", "<init>", "()V"⟩
abbrev c_Mach_setTable : ByteArray := prog_5_method_2_code
def y_Mach_setTable : MethodName := ⟨"InstrumentFiles$Machine", "setTable", "(IJ)Z"⟩
abbrev c_Mach_prepare : ByteArray := prog_5_method_3_code
def y_Mach_prepare : MethodName := ⟨"InstrumentFiles$Machine", "prepare", "(I)V"⟩
abbrev c_Mach_giveArgument : ByteArray := prog_5_method_4_code
def y_Mach_giveArgument : MethodName := ⟨"InstrumentFiles$Machine", "giveArgument", "(LInstrumentFiles$Method;IJ)V"⟩
abbrev c_Mach_run : ByteArray := prog_5_method_5_code
def y_Mach_run : MethodName := ⟨"InstrumentFiles$Machine", "run", "(LInstrumentFiles$Program;I)V"⟩
abbrev c_Mach_enter : ByteArray := prog_5_method_6_code
def y_Mach_enter : MethodName := ⟨"InstrumentFiles$Machine", "enter", "(I)V"⟩
abbrev c_Mach_leave : ByteArray := prog_5_method_7_code
def y_Mach_leave : MethodName := ⟨"InstrumentFiles$Machine", "leave", "()V"⟩
abbrev c_Mach_fail : ByteArray := prog_5_method_8_code
def y_Mach_fail : MethodName := ⟨"InstrumentFiles$Machine", "fail", "(I)V"⟩
abbrev c_Mach_nextPlace : ByteArray := prog_5_method_9_code
def y_Mach_nextPlace : MethodName := ⟨"InstrumentFiles$Machine", "nextPlace", "()I"⟩
abbrev c_Mach_goTo : ByteArray := prog_5_method_10_code
def y_Mach_goTo : MethodName := ⟨"InstrumentFiles$Machine", "goTo", "(I)V"⟩
abbrev c_Mach_openMethod : ByteArray := prog_5_method_11_code
def y_Mach_openMethod : MethodName := ⟨"InstrumentFiles$Machine", "openMethod", "(LInstrumentFiles$Program;)LInstrumentFiles$Method;"⟩
abbrev c_Mach_push : ByteArray := prog_5_method_12_code
def y_Mach_push : MethodName := ⟨"InstrumentFiles$Machine", "push", "(J)V"⟩
abbrev c_Mach_pop : ByteArray := prog_5_method_13_code
def y_Mach_pop : MethodName := ⟨"InstrumentFiles$Machine", "pop", "()J"⟩
abbrev c_Mach_local : ByteArray := prog_5_method_14_code
def y_Mach_local : MethodName := ⟨"InstrumentFiles$Machine", "local", "(I)J"⟩
abbrev c_Mach_setLocal : ByteArray := prog_5_method_15_code
def y_Mach_setLocal : MethodName := ⟨"InstrumentFiles$Machine", "setLocal", "(IJ)V"⟩
abbrev c_Mach_runOp : ByteArray := prog_5_method_16_code
def y_Mach_runOp : MethodName := ⟨"InstrumentFiles$Machine", "runOp", "(LInstrumentFiles$Program;)V"⟩
abbrev c_Mach_runMove : ByteArray := prog_5_method_17_code
def y_Mach_runMove : MethodName := ⟨"InstrumentFiles$Machine", "runMove", "(LInstrumentFiles$Pool;II)V"⟩
abbrev c_Mach_runInts : ByteArray := prog_5_method_18_code
def y_Mach_runInts : MethodName := ⟨"InstrumentFiles$Machine", "runInts", "(I)V"⟩
abbrev c_Mach_runDoubles : ByteArray := prog_5_method_19_code
def y_Mach_runDoubles : MethodName := ⟨"InstrumentFiles$Machine", "runDoubles", "(I)V"⟩
abbrev c_Mach_runChange : ByteArray := prog_5_method_20_code
def y_Mach_runChange : MethodName := ⟨"InstrumentFiles$Machine", "runChange", "(I)V"⟩
abbrev c_Mach_runRest : ByteArray := prog_5_method_21_code
def y_Mach_runRest : MethodName := ⟨"InstrumentFiles$Machine", "runRest", "(LInstrumentFiles$Program;II)V"⟩
abbrev c_Mach_callInside : ByteArray := prog_5_method_22_code
def y_Mach_callInside : MethodName := ⟨"InstrumentFiles$Machine", "callInside", "(LInstrumentFiles$Method;I)V"⟩
abbrev c_Mach_pushFromTable : ByteArray := prog_5_method_23_code
def y_Mach_pushFromTable : MethodName := ⟨"InstrumentFiles$Machine", "pushFromTable", "(J)V"⟩
abbrev c_Mach_runListed : ByteArray := prog_5_method_24_code
def y_Mach_runListed : MethodName := ⟨"InstrumentFiles$Machine", "runListed", "(J)V"⟩
abbrev c_Meth_init : ByteArray := prog_6_method_1_code
def y_Meth_init : MethodName := ⟨"InstrumentFiles$Method", "<init>", "()V"⟩
abbrev c_Meth_isAside : ByteArray := prog_6_method_2_code
def y_Meth_isAside : MethodName := ⟨"InstrumentFiles$Method", "isAside", "()Z"⟩
abbrev c_Meth_takenKind : ByteArray := prog_6_method_3_code
def y_Meth_takenKind : MethodName := ⟨"InstrumentFiles$Method", "takenKind", "(I)I"⟩
abbrev c_Meth_codeAt : ByteArray := prog_6_method_4_code
def y_Meth_codeAt : MethodName := ⟨"InstrumentFiles$Method", "codeAt", "(I)I"⟩
abbrev c_Meth_setCode : ByteArray := prog_6_method_5_code
def y_Meth_setCode : MethodName := ⟨"InstrumentFiles$Method", "setCode", "(II)V"⟩
abbrev c_Meth_appendMap : ByteArray := prog_6_method_6_code
def y_Meth_appendMap : MethodName := ⟨"InstrumentFiles$Method", "appendMap", "(II)V"⟩
abbrev c_Meth_mapPlace : ByteArray := prog_6_method_7_code
def y_Meth_mapPlace : MethodName := ⟨"InstrumentFiles$Method", "mapPlace", "(I)I"⟩
abbrev c_Meth_mapAt : ByteArray := prog_6_method_8_code
def y_Meth_mapAt : MethodName := ⟨"InstrumentFiles$Method", "mapAt", "(I)I"⟩
abbrev c_Meth_kindsAt : ByteArray := prog_6_method_9_code
def y_Meth_kindsAt : MethodName := ⟨"InstrumentFiles$Method", "kindsAt", "(I)I"⟩
abbrev c_Meth_setKinds : ByteArray := prog_6_method_10_code
def y_Meth_setKinds : MethodName := ⟨"InstrumentFiles$Method", "setKinds", "(II)V"⟩
abbrev c_Meth_forgetJudgement : ByteArray := prog_6_method_11_code
def y_Meth_forgetJudgement : MethodName := ⟨"InstrumentFiles$Method", "forgetJudgement", "()V"⟩
abbrev c_Ops_isOp : ByteArray := prog_7_method_2_code
def y_Ops_isOp : MethodName := ⟨"InstrumentFiles$Ops", "isOp", "(I)Z"⟩
abbrev c_Ops_hasByte : ByteArray := prog_7_method_3_code
def y_Ops_hasByte : MethodName := ⟨"InstrumentFiles$Ops", "hasByte", "(I)Z"⟩
abbrev c_Ops_size : ByteArray := prog_7_method_4_code
def y_Ops_size : MethodName := ⟨"InstrumentFiles$Ops", "size", "(I)I"⟩
abbrev c_Ops_goesOn : ByteArray := prog_7_method_5_code
def y_Ops_goesOn : MethodName := ⟨"InstrumentFiles$Ops", "goesOn", "(I)Z"⟩
abbrev c_Ops_jumps : ByteArray := prog_7_method_6_code
def y_Ops_jumps : MethodName := ⟨"InstrumentFiles$Ops", "jumps", "(I)Z"⟩
abbrev c_Ops_taken : ByteArray := prog_7_method_7_code
def y_Ops_taken : MethodName := ⟨"InstrumentFiles$Ops", "taken", "(I)I"⟩
abbrev c_Ops_takenKind : ByteArray := prog_7_method_8_code
def y_Ops_takenKind : MethodName := ⟨"InstrumentFiles$Ops", "takenKind", "(I)I"⟩
abbrev c_Ops_pushedKind : ByteArray := prog_7_method_9_code
def y_Ops_pushedKind : MethodName := ⟨"InstrumentFiles$Ops", "pushedKind", "(I)I"⟩
abbrev c_Pool_init : ByteArray := prog_8_method_1_code
def y_Pool_init : MethodName := ⟨"InstrumentFiles$Pool", "<init>", "()V"⟩
abbrev c_Pool_has : ByteArray := prog_8_method_2_code
def y_Pool_has : MethodName := ⟨"InstrumentFiles$Pool", "has", "(I)Z"⟩
abbrev c_Pool_isTagged : ByteArray := prog_8_method_3_code
def y_Pool_isTagged : MethodName := ⟨"InstrumentFiles$Pool", "isTagged", "(II)Z"⟩
abbrev c_Pool_isListed : ByteArray := prog_8_method_4_code
def y_Pool_isListed : MethodName := ⟨"InstrumentFiles$Pool", "isListed", "(I)Z"⟩
abbrev c_Pool_tagOf : ByteArray := prog_8_method_5_code
def y_Pool_tagOf : MethodName := ⟨"InstrumentFiles$Pool", "tagOf", "(I)I"⟩
abbrev c_Pool_sizeOf : ByteArray := prog_8_method_6_code
def y_Pool_sizeOf : MethodName := ⟨"InstrumentFiles$Pool", "sizeOf", "(I)I"⟩
abbrev c_Pool_valueOf : ByteArray := prog_8_method_7_code
def y_Pool_valueOf : MethodName := ⟨"InstrumentFiles$Pool", "valueOf", "(I)J"⟩
abbrev c_Pool_append : ByteArray := prog_8_method_8_code
def y_Pool_append : MethodName := ⟨"InstrumentFiles$Pool", "append", "(IIJ)V"⟩
abbrev c_Prog_init : ByteArray := prog_9_method_1_code
def y_Prog_init : MethodName := ⟨"InstrumentFiles$Program", "<init>", "()V"⟩
abbrev c_Prog_forget : ByteArray := prog_9_method_2_code
def y_Prog_forget : MethodName := ⟨"InstrumentFiles$Program", "forget", "()V"⟩
abbrev c_Prog_methodAt : ByteArray := prog_9_method_3_code
def y_Prog_methodAt : MethodName := ⟨"InstrumentFiles$Program", "methodAt", "(I)LInstrumentFiles$Method;"⟩
abbrev c_Prog_nextMethod : ByteArray := prog_9_method_4_code
def y_Prog_nextMethod : MethodName := ⟨"InstrumentFiles$Program", "nextMethod", "()LInstrumentFiles$Method;"⟩
abbrev c_Prog_canName : ByteArray := prog_9_method_5_code
def y_Prog_canName : MethodName := ⟨"InstrumentFiles$Program", "canName", "(I)Z"⟩
abbrev c_Read_init : ByteArray := prog_10_method_1_code
def y_Read_init : MethodName := ⟨"InstrumentFiles$Reader", "<init>", "()V"⟩
abbrev c_Read_readFile : ByteArray := prog_10_method_2_code
def y_Read_readFile : MethodName := ⟨"InstrumentFiles$Reader", "readFile", "(LInstrumentFiles$Tape;LInstrumentFiles$Program;)V"⟩
abbrev c_Read_take : ByteArray := prog_10_method_3_code
def y_Read_take : MethodName := ⟨"InstrumentFiles$Reader", "take", "(LInstrumentFiles$Tape;III)I"⟩
abbrev c_Read_takeMany : ByteArray := prog_10_method_4_code
def y_Read_takeMany : MethodName := ⟨"InstrumentFiles$Reader", "takeMany", "(LInstrumentFiles$Tape;III)J"⟩
abbrev c_Read_readPool : ByteArray := prog_10_method_5_code
def y_Read_readPool : MethodName := ⟨"InstrumentFiles$Reader", "readPool", "(LInstrumentFiles$Tape;LInstrumentFiles$Pool;)V"⟩
abbrev c_Read_readMethods : ByteArray := prog_10_method_6_code
def y_Read_readMethods : MethodName := ⟨"InstrumentFiles$Reader", "readMethods", "(LInstrumentFiles$Tape;LInstrumentFiles$Program;)V"⟩
abbrev c_Read_takeName : ByteArray := prog_10_method_7_code
def y_Read_takeName : MethodName := ⟨"InstrumentFiles$Reader", "takeName", "(LInstrumentFiles$Tape;LInstrumentFiles$Program;)I"⟩
abbrev c_Read_readHead : ByteArray := prog_10_method_8_code
def y_Read_readHead : MethodName := ⟨"InstrumentFiles$Reader", "readHead", "(LInstrumentFiles$Tape;LInstrumentFiles$Method;)V"⟩
abbrev c_Read_readCode : ByteArray := prog_10_method_9_code
def y_Read_readCode : MethodName := ⟨"InstrumentFiles$Reader", "readCode", "(LInstrumentFiles$Tape;LInstrumentFiles$Method;)V"⟩
abbrev c_Read_readMaps : ByteArray := prog_10_method_10_code
def y_Read_readMaps : MethodName := ⟨"InstrumentFiles$Reader", "readMaps", "(LInstrumentFiles$Tape;LInstrumentFiles$Method;)V"⟩
abbrev c_Read_takeMapKinds : ByteArray := prog_10_method_11_code
def y_Read_takeMapKinds : MethodName := ⟨"InstrumentFiles$Reader", "takeMapKinds", "(LInstrumentFiles$Tape;LInstrumentFiles$Method;)I"⟩
abbrev c_Tape_init : ByteArray := prog_11_method_1_code
def y_Tape_init : MethodName := ⟨"InstrumentFiles$Tape", "<init>", "()V"⟩
abbrev c_Tape_has : ByteArray := prog_11_method_2_code
def y_Tape_has : MethodName := ⟨"InstrumentFiles$Tape", "has", "(I)Z"⟩
abbrev c_Tape_byteAt : ByteArray := prog_11_method_3_code
def y_Tape_byteAt : MethodName := ⟨"InstrumentFiles$Tape", "byteAt", "(I)I"⟩
abbrev c_Tape_replace : ByteArray := prog_11_method_4_code
def y_Tape_replace : MethodName := ⟨"InstrumentFiles$Tape", "replace", "(II)I"⟩
abbrev c_Tape_append : ByteArray := prog_11_method_5_code
def y_Tape_append : MethodName := ⟨"InstrumentFiles$Tape", "append", "(I)V"⟩
abbrev c_Tape_sumAhead : ByteArray := prog_11_method_6_code
def y_Tape_sumAhead : MethodName := ⟨"InstrumentFiles$Tape", "sumAhead", "(I)I"⟩
abbrev c_IF_init : ByteArray := prog_1_method_1_code
def y_IF_init : MethodName := ⟨"InstrumentFiles", "<init>", "()V"⟩
abbrev c_IF_feed : ByteArray := prog_1_method_2_code
def y_IF_feed : MethodName := ⟨"InstrumentFiles", "feed", "(JI)I"⟩
abbrev c_IF_wipe : ByteArray := prog_1_method_3_code
def y_IF_wipe : MethodName := ⟨"InstrumentFiles", "wipe", "()I"⟩
abbrev c_IF_alter : ByteArray := prog_1_method_4_code
def y_IF_alter : MethodName := ⟨"InstrumentFiles", "alter", "(II)I"⟩
abbrev c_IF_at : ByteArray := prog_1_method_5_code
def y_IF_at : MethodName := ⟨"InstrumentFiles", "at", "(I)I"⟩
abbrev c_IF_seal : ByteArray := prog_1_method_6_code
def y_IF_seal : MethodName := ⟨"InstrumentFiles", "seal", "()I"⟩
abbrev c_IF_read : ByteArray := prog_1_method_7_code
def y_IF_read : MethodName := ⟨"InstrumentFiles", "read", "()I"⟩
abbrev c_IF_fault : ByteArray := prog_1_method_8_code
def y_IF_fault : MethodName := ⟨"InstrumentFiles", "fault", "()I"⟩
abbrev c_IF_table : ByteArray := prog_1_method_9_code
def y_IF_table : MethodName := ⟨"InstrumentFiles", "table", "(IJ)I"⟩
abbrev c_IF_method : ByteArray := prog_1_method_10_code
def y_IF_method : MethodName := ⟨"InstrumentFiles", "method", "(II)I"⟩
abbrev c_IF_pool : ByteArray := prog_1_method_11_code
def y_IF_pool : MethodName := ⟨"InstrumentFiles", "pool", "(II)J"⟩
abbrev c_IF_kind : ByteArray := prog_1_method_12_code
def y_IF_kind : MethodName := ⟨"InstrumentFiles", "kind", "(III)I"⟩
abbrev c_IF_call : ByteArray := prog_1_method_13_code
def y_IF_call : MethodName := ⟨"InstrumentFiles", "call", "(IJJJI)I"⟩
abbrev c_IF_result : ByteArray := prog_1_method_14_code
def y_IF_result : MethodName := ⟨"InstrumentFiles", "result", "()J"⟩
abbrev c_IF_told : ByteArray := prog_1_method_15_code
def y_IF_told : MethodName := ⟨"InstrumentFiles", "told", "(I)I"⟩
abbrev c_IF_count : ByteArray := prog_1_method_16_code
def y_IF_count : MethodName := ⟨"InstrumentFiles", "count", "(I)I"⟩
abbrev c_M_init : ByteArray := prog_13_method_1_code
def y_M_init : MethodName := ⟨"InstrumentFilesModel", "<init>", "()V"⟩
abbrev c_M_in : ByteArray := prog_13_method_3_code
def y_M_in : MethodName := ⟨"InstrumentFilesModel", "in", "(III)Z"⟩
abbrev c_M_feed : ByteArray := prog_13_method_4_code
def y_M_feed : MethodName := ⟨"InstrumentFilesModel", "feed", "(JI)I"⟩
abbrev c_M_wipe : ByteArray := prog_13_method_5_code
def y_M_wipe : MethodName := ⟨"InstrumentFilesModel", "wipe", "()I"⟩
abbrev c_M_alter : ByteArray := prog_13_method_6_code
def y_M_alter : MethodName := ⟨"InstrumentFilesModel", "alter", "(II)I"⟩
abbrev c_M_at : ByteArray := prog_13_method_7_code
def y_M_at : MethodName := ⟨"InstrumentFilesModel", "at", "(I)I"⟩
abbrev c_M_sumAhead : ByteArray := prog_13_method_8_code
def y_M_sumAhead : MethodName := ⟨"InstrumentFilesModel", "sumAhead", "(I)I"⟩
abbrev c_M_seal : ByteArray := prog_13_method_9_code
def y_M_seal : MethodName := ⟨"InstrumentFilesModel", "seal", "()I"⟩
abbrev c_M_faults : ByteArray := prog_13_method_10_code
def y_M_faults : MethodName := ⟨"InstrumentFilesModel", "faults", "(II)V"⟩
abbrev c_M_take : ByteArray := prog_13_method_11_code
def y_M_take : MethodName := ⟨"InstrumentFilesModel", "take", "()I"⟩
abbrev c_M_taken : ByteArray := prog_13_method_12_code
def y_M_taken : MethodName := ⟨"InstrumentFilesModel", "taken", "(III)I"⟩
abbrev c_M_takeLong : ByteArray := prog_13_method_13_code
def y_M_takeLong : MethodName := ⟨"InstrumentFilesModel", "takeLong", "(I)J"⟩
abbrev c_M_readPool : ByteArray := prog_13_method_14_code
def y_M_readPool : MethodName := ⟨"InstrumentFilesModel", "readPool", "()V"⟩
abbrev c_M_isSameWord : ByteArray := prog_13_method_15_code
def y_M_isSameWord : MethodName := ⟨"InstrumentFilesModel", "isSameWord", "(II)Z"⟩
abbrev c_M_readName : ByteArray := prog_13_method_16_code
def y_M_readName : MethodName := ⟨"InstrumentFilesModel", "readName", "(I)V"⟩
abbrev c_M_readMap : ByteArray := prog_13_method_17_code
def y_M_readMap : MethodName := ⟨"InstrumentFilesModel", "readMap", "(II)V"⟩
abbrev c_M_readMethod : ByteArray := prog_13_method_18_code
def y_M_readMethod : MethodName := ⟨"InstrumentFilesModel", "readMethod", "(I)V"⟩
abbrev c_M_readFile : ByteArray := prog_13_method_19_code
def y_M_readFile : MethodName := ⟨"InstrumentFilesModel", "readFile", "()V"⟩
abbrev c_M_read : ByteArray := prog_13_method_20_code
def y_M_read : MethodName := ⟨"InstrumentFilesModel", "read", "()I"⟩
abbrev c_M_fault : ByteArray := prog_13_method_21_code
def y_M_fault : MethodName := ⟨"InstrumentFilesModel", "fault", "()I"⟩
abbrev c_M_mapAt : ByteArray := prog_13_method_22_code
def y_M_mapAt : MethodName := ⟨"InstrumentFilesModel", "mapAt", "(II)I"⟩
abbrev c_M_fits : ByteArray := prog_13_method_23_code
def y_M_fits : MethodName := ⟨"InstrumentFilesModel", "fits", "(II)Z"⟩
abbrev c_M_becomes : ByteArray := prog_13_method_24_code
def y_M_becomes : MethodName := ⟨"InstrumentFilesModel", "becomes", "(II)V"⟩
abbrev c_M_hasByte : ByteArray := prog_13_method_25_code
def y_M_hasByte : MethodName := ⟨"InstrumentFilesModel", "hasByte", "(I)Z"⟩
abbrev c_M_judge : ByteArray := prog_13_method_26_code
def y_M_judge : MethodName := ⟨"InstrumentFilesModel", "judge", "(I)V"⟩
abbrev c_M_judgeOp : ByteArray := prog_13_method_27_code
def y_M_judgeOp : MethodName := ⟨"InstrumentFilesModel", "judgeOp", "(III)V"⟩
abbrev c_M_isListed : ByteArray := prog_13_method_28_code
def y_M_isListed : MethodName := ⟨"InstrumentFilesModel", "isListed", "(I)Z"⟩
abbrev c_M_isWord : ByteArray := prog_13_method_29_code
def y_M_isWord : MethodName := ⟨"InstrumentFilesModel", "isWord", "(IIIIII)Z"⟩
abbrev c_M_isEntry : ByteArray := prog_13_method_30_code
def y_M_isEntry : MethodName := ⟨"InstrumentFilesModel", "isEntry", "(III)Z"⟩
abbrev c_M_pops : ByteArray := prog_13_method_31_code
def y_M_pops : MethodName := ⟨"InstrumentFilesModel", "pops", "(II)I"⟩
abbrev c_M_wants : ByteArray := prog_13_method_32_code
def y_M_wants : MethodName := ⟨"InstrumentFilesModel", "wants", "(IIII)I"⟩
abbrev c_M_pushes : ByteArray := prog_13_method_33_code
def y_M_pushes : MethodName := ⟨"InstrumentFilesModel", "pushes", "(III)I"⟩
abbrev c_M_judgeKinds : ByteArray := prog_13_method_34_code
def y_M_judgeKinds : MethodName := ⟨"InstrumentFilesModel", "judgeKinds", "(IIII)V"⟩
abbrev c_M_isMethod : ByteArray := prog_13_method_35_code
def y_M_isMethod : MethodName := ⟨"InstrumentFilesModel", "isMethod", "(I)Z"⟩
abbrev c_M_table : ByteArray := prog_13_method_36_code
def y_M_table : MethodName := ⟨"InstrumentFilesModel", "table", "(IJ)I"⟩
abbrev c_M_method : ByteArray := prog_13_method_37_code
def y_M_method : MethodName := ⟨"InstrumentFilesModel", "method", "(II)I"⟩
abbrev c_M_pool : ByteArray := prog_13_method_38_code
def y_M_pool : MethodName := ⟨"InstrumentFilesModel", "pool", "(II)J"⟩
abbrev c_M_kind : ByteArray := prog_13_method_39_code
def y_M_kind : MethodName := ⟨"InstrumentFilesModel", "kind", "(III)I"⟩
abbrev c_M_push : ByteArray := prog_13_method_40_code
def y_M_push : MethodName := ⟨"InstrumentFilesModel", "push", "(ID)V"⟩
abbrev c_M_pop : ByteArray := prog_13_method_41_code
def y_M_pop : MethodName := ⟨"InstrumentFilesModel", "pop", "()I"⟩
abbrev c_M_enter : ByteArray := prog_13_method_42_code
def y_M_enter : MethodName := ⟨"InstrumentFilesModel", "enter", "(I)V"⟩
abbrev c_M_fails : ByteArray := prog_13_method_43_code
def y_M_fails : MethodName := ⟨"InstrumentFilesModel", "fails", "(I)V"⟩
abbrev c_M_give : ByteArray := prog_13_method_44_code
def y_M_give : MethodName := ⟨"InstrumentFilesModel", "give", "(IIJ)V"⟩
abbrev c_M_call : ByteArray := prog_13_method_45_code
def y_M_call : MethodName := ⟨"InstrumentFilesModel", "call", "(IJJJI)I"⟩
abbrev c_M_step : ByteArray := prog_13_method_46_code
def y_M_step : MethodName := ⟨"InstrumentFilesModel", "step", "()V"⟩
abbrev c_M_calls : ByteArray := prog_13_method_47_code
def y_M_calls : MethodName := ⟨"InstrumentFilesModel", "calls", "(II)V"⟩
abbrev c_M_gives : ByteArray := prog_13_method_48_code
def y_M_gives : MethodName := ⟨"InstrumentFilesModel", "gives", "(II)V"⟩
abbrev c_M_moves : ByteArray := prog_13_method_49_code
def y_M_moves : MethodName := ⟨"InstrumentFilesModel", "moves", "(III)V"⟩
abbrev c_M_joinsInts : ByteArray := prog_13_method_50_code
def y_M_joinsInts : MethodName := ⟨"InstrumentFilesModel", "joinsInts", "(I)V"⟩
abbrev c_M_isEndless : ByteArray := prog_13_method_51_code
def y_M_isEndless : MethodName := ⟨"InstrumentFilesModel", "isEndless", "(D)Z"⟩
abbrev c_M_plus : ByteArray := prog_13_method_52_code
def y_M_plus : MethodName := ⟨"InstrumentFilesModel", "plus", "(DD)D"⟩
abbrev c_M_minus : ByteArray := prog_13_method_53_code
def y_M_minus : MethodName := ⟨"InstrumentFilesModel", "minus", "(DD)D"⟩
abbrev c_M_times : ByteArray := prog_13_method_54_code
def y_M_times : MethodName := ⟨"InstrumentFilesModel", "times", "(DD)D"⟩
abbrev c_M_by : ByteArray := prog_13_method_55_code
def y_M_by : MethodName := ⟨"InstrumentFilesModel", "by", "(DD)D"⟩
abbrev c_M_doubleOf : ByteArray := prog_13_method_56_code
def y_M_doubleOf : MethodName := ⟨"InstrumentFilesModel", "doubleOf", "(J)D"⟩
abbrev c_M_joinsDoubles : ByteArray := prog_13_method_57_code
def y_M_joinsDoubles : MethodName := ⟨"InstrumentFilesModel", "joinsDoubles", "(I)V"⟩
abbrev c_M_turns : ByteArray := prog_13_method_58_code
def y_M_turns : MethodName := ⟨"InstrumentFilesModel", "turns", "(II)V"⟩
abbrev c_M_listed : ByteArray := prog_13_method_59_code
def y_M_listed : MethodName := ⟨"InstrumentFilesModel", "listed", "(ID)D"⟩
abbrev c_M_floor : ByteArray := prog_13_method_60_code
def y_M_floor : MethodName := ⟨"InstrumentFilesModel", "floor", "(D)D"⟩
abbrev c_M_root : ByteArray := prog_13_method_61_code
def y_M_root : MethodName := ⟨"InstrumentFilesModel", "root", "(D)D"⟩
abbrev c_M_result : ByteArray := prog_13_method_62_code
def y_M_result : MethodName := ⟨"InstrumentFilesModel", "result", "()J"⟩
abbrev c_M_told : ByteArray := prog_13_method_63_code
def y_M_told : MethodName := ⟨"InstrumentFilesModel", "told", "(I)I"⟩
abbrev c_M_count : ByteArray := prog_13_method_64_code
def y_M_count : MethodName := ⟨"InstrumentFilesModel", "count", "(I)I"⟩
abbrev c_JD_isNaN : ByteArray := prog_14_method_6_code
def y_JD_isNaN : MethodName := ⟨"java/lang/Double", "isNaN", "(D)Z"⟩
abbrev c_JD_doubleToLongBits : ByteArray := prog_14_method_23_code
def y_JD_doubleToLongBits : MethodName := ⟨"java/lang/Double", "doubleToLongBits", "(D)J"⟩
abbrev c_JM_abs : ByteArray := prog_15_method_61_code
def y_JM_abs : MethodName := ⟨"java/lang/Math", "abs", "(J)J"⟩
abbrev c_JM_max : ByteArray := prog_15_method_65_code
def y_JM_max : MethodName := ⟨"java/lang/Math", "max", "(II)I"⟩
abbrev c_JM_min : ByteArray := prog_15_method_69_code
def y_JM_min : MethodName := ⟨"java/lang/Math", "min", "(II)I"⟩
abbrev c_L_law : ByteArray := code
def y_L_law : MethodName := ⟨"InstrumentFilesLaw", "law", "([I)Z"⟩
end
section
/-! the world as one value: contents by kind, number and place; references by kind and number -/
abbrev MV : Type := Value ⊕ (Nat × Nat)
abbrev MS : Type := (Nat → Nat → Nat → Int32) × (Nat → Nat → Nat → Int64) × (Nat → Nat → Nat → UInt64)
def wI (S : MS) (k i j : Nat) (v : Int32) : MS := (fun a b c => if a = k ∧ b = i ∧ c = j then v else S.1 a b c, S.2)
def wL (S : MS) (k i j : Nat) (v : Int64) : MS := (S.1, fun a b c => if a = k ∧ b = i ∧ c = j then v else S.2.1 a b c, S.2.2)
def wD (S : MS) (k i j : Nat) (v : UInt64) : MS := (S.1, S.2.1, fun a b c => if a = k ∧ b = i ∧ c = j then v else S.2.2 a b c)
/-- array classes, addresses, the kit's class data, addresses of the static rows -/
abbrev GG : Type := (Nat → Nat → ClassId) × (Nat → Nat → Nat) × va_G × (Nat → Nat)
def tr (G : GG) (v : MV) : Value := match v with
  | .inl x => x
  | .inr q => .ref (G.2.1 q.1 q.2)
def fv (G : GG) (S : MS) (k i s : Nat) : Value := match (fTy k s).1 with
  | 0 => .int (S.1 k i s)
  | 1 => .long (S.2.1 k i s)
  | 2 => .ref (G.2.1 (fTy k s).2 i)
  | _ => .int (S.1 k i s)
def acel (G : GG) (S : MS) (k i : Nat) : vp_A := match (aTy k).1 with
  | 0 => ((aTy k).2, .inl (S.1 k i))
  | 1 => ((aTy k).2, .inl (S.1 k i))
  | 2 => ((aTy k).2, .inr (.inl (S.2.1 k i)))
  | 3 => ((aTy k).2, .inr (.inr (.inr (.inl (S.2.2 k i)))))
  | _ => ((aTy k).2, .inr (.inr (.inr (.inr (fun j => some (G.2.1 4 j))))))
def cel (G : GG) (S : MS) (k i : Nat) : va_E := if k < 9 then .inr (k, (List.range (nF k)).map (fv G S k i)) else .inl (G.1 k i, acel G S k i)
def wld (G : GG) (S : MS) : va_W := objs.map (fun o => (G.2.1 o.1 o.2, cel G S o.1 o.2))
def aFT (k : Nat) : FieldType := match (aTy k).1 with
  | 0 => .int
  | 1 => .boolean
  | 2 => .long
  | 3 => .double
  | _ => .object "InstrumentFiles$Method"
def tyl (G : GG) : List (ClassId × FieldType) := arrs.map (fun o => (G.1 o.1 o.2, aFT o.1))
/-- the cells of the world -/
def AD (G : GG) : Nat → Prop := fun q => ∃ o ∈ objs, q = G.2.1 o.1 o.2
theorem wld_get {G : GG} {S : MS} {q k i : Nat} (h : objs[q]? = some (k, i)) : (wld G S)[q]? = some (G.2.1 k i, cel G S k i) := by
  rw [wld, List.getElem?_map, h]; rfl
theorem wld_has {k i : Nat} (h : (k, i) ∈ objs) : ∃ q : Nat, objs[q]? = some (k, i) := List.getElem?_of_mem h
theorem objs_one {q r : Nat} {o : Nat × Nat} (h : objs[q]? = some o) (h2 : objs[r]? = some o) : q = r := by
  obtain ⟨l1, e1⟩ := List.getElem?_eq_some_iff.mp h
  obtain ⟨l2, e2⟩ := List.getElem?_eq_some_iff.mp h2
  exact (List.getElem_inj objs_nd).mp (e1.trans e2.symm)
theorem wld_set {G : GG} {S S' : MS} {q k i : Nat} {e : va_E} (h : objs[q]? = some (k, i)) (he : cel G S' k i = e) (ho : ∀ a b, (a, b) ≠ (k, i) → cel G S' a b = cel G S a b) : (wld G S).set q (G.2.1 k i, e) = wld G S' := by
  apply List.ext_getElem?
  intro j
  by_cases hj : j = q
  · subst hj
    rw [List.getElem?_set_self (by rw [wld, List.length_map]; exact (List.getElem?_eq_some_iff.mp h).1), wld_get h, he]
  · rw [List.getElem?_set_ne (Ne.symm hj), wld, wld, List.getElem?_map, List.getElem?_map]
    cases hq : objs[j]? with
    | none => rfl
    | some o =>
      have hne : (o.1, o.2) ≠ (k, i) := fun z => hj (objs_one hq (h.trans (congrArg some z.symm)))
      show some (G.2.1 o.1 o.2, cel G S o.1 o.2) = some (G.2.1 o.1 o.2, cel G S' o.1 o.2)
      rw [ho o.1 o.2 hne]
theorem arr_mem {k i : Nat} (h : (k, i) ∈ objs) (hk : ¬ k < 9) : (k, i) ∈ arrs := List.mem_filter.mpr ⟨h, by simpa using Nat.not_lt.mp hk⟩
theorem tyl_get {G : GG} {k i : Nat} (h : (k, i) ∈ objs) (hk : ¬ k < 9) : ∃ t0 : Nat, (tyl G)[t0]? = some (G.1 k i, aFT k) := by
  obtain ⟨t0, h0⟩ := List.getElem?_of_mem (arr_mem h hk)
  exact ⟨t0, by rw [tyl, List.getElem?_map, h0]; rfl⟩
theorem va_D_AD {G : GG} {S S' : MS} {A : Nat → Prop} (h : va_D A (wld G S)) : va_D A (wld G S') := by
  have key : ∀ (i : Nat) (p : Nat × va_E), (wld G S')[i]? = some p → ∃ p', (wld G S)[i]? = some p' ∧ p'.1 = p.1 := by
    intro i p hp
    rw [wld, List.getElem?_map] at hp
    cases ho : objs[i]? with
    | none => rw [ho] at hp; cases hp
    | some o => rw [ho] at hp; cases hp; exact ⟨_, wld_get (k := o.1) (i := o.2) ho, rfl⟩
  refine ⟨fun i j p q hi hj e => ?_, fun k q hk => ?_⟩
  · obtain ⟨p', h1, h2⟩ := key i p hi
    obtain ⟨q', h3, h4⟩ := key j q hj
    exact h.1 i j p' q' h1 h3 (h2.trans (e.trans h4.symm))
  · obtain ⟨q', h1, h2⟩ := key k q hk
    rw [← h2]; exact h.2 k q' h1
theorem va_D_self {G : GG} {S : MS} {A : Nat → Prop} (h : va_D A (wld G S)) : va_D (AD G) (wld G S) := ⟨h.1, fun k q hk => by
  rw [wld, List.getElem?_map] at hk
  cases ho : objs[k]? with
  | none => rw [ho] at hk; cases hk
  | some o => rw [ho] at hk; cases hk; exact ⟨o, List.mem_of_getElem? ho, rfl⟩⟩
theorem va_D_up {G : GG} {S : MS} {A : Nat → Prop} (h : va_D (AD G) (wld G S)) (hA : ∀ q, AD G q → A q) : va_D A (wld G S) := ⟨h.1, fun k q hk => hA _ (h.2 k q hk)⟩
theorem va_P_adr {G : GG} {S : MS} {H : Heap} {o : Nat × Nat} (hP : va_P G.2.2.1 clsL (wld G S) H) (ho : o ∈ objs) : G.2.1 o.1 o.2 < H.size := by
  obtain ⟨q, hq⟩ := wld_has (k := o.1) (i := o.2) ho
  exact (hP q _ (wld_get hq)).lt
/-! the static rows -/
def stn (k : Nat) : String := match k with
  | 0 => "TAKEN"
  | 1 => "TAKEN_KIND"
  | _ => "PUSHED_KIND"
def stv (k : Nat) : List Int32 := match k with
  | 0 => [0, 0, 0, 0, 1, 1, 1, 2, 2, 2, 2, 2, 2, 2, 2, 1, 1, 2, 2, 0, 1, 0, 1, 1, 1]
  | 1 => [0, 0, 0, 0, 0, 0, 0, 1, 1, 1, 1, 2, 2, 2, 2, 1, 2, 1, 2, 0, 1, 0, 0, 1, 2]
  | _ => [0, 1, 2, 0, 0, 0, 0, 1, 1, 1, 1, 2, 2, 2, 2, 2, 1, 1, 1, 0, 0, 0, 0, 2, 2]
def STA (G : GG) (A : Nat → Prop) (U : State) (H : Heap) : Prop := ∀ k, k < 3 → va_Z "InstrumentFiles$Ops" (stn k) "[I" (.ref (G.2.2.2 k)) A U H ∧ va_T .int (G.2.2.2 k) 25 (fun j => .int ((stv k).getD j 0)) A U H
theorem STA.moved {G : GG} {A : Nat → Prop} {u U : State} {H : Heap} (hvm : u.vm.Alike U.vm) (h : STA G A u H) : STA G A U H := fun k hk => ⟨va_Z.moved hvm (h k hk).1, va_T.moved hvm (h k hk).2⟩
theorem STA.kept {G : GG} {A : Nat → Prop} {U : State} {H H1 : Heap} (h : STA G A U H) (hq : ∀ a : Nat, a < H.size → ¬ A a → H1[a]? = H[a]?) : STA G A U H1 := fun k hk => ⟨va_Z.kept (h k hk).1 hq, va_T.kept (h k hk).2 hq⟩
theorem STA.narrow {G : GG} {A B : Nat → Prop} {U : State} {H : Heap} (h : STA G A U H) (hAB : ∀ q, B q → A q) : STA G B U H := fun k hk => ⟨va_Z.narrow (h k hk).1 hAB, va_T.narrow (h k hk).2 hAB⟩
/-- the words of nest mates -/
def NW (U : State) : Prop := ∀ w ∈ lw_ns, va_Nw w U
theorem NW.same {u U : State} (h : u.vm = U.vm) (hN : NW u) : NW U := fun w hw => by
  have hw2 := (List.mem_filter.mp hw).2
  cases w <;> first | (cases hw2; done) | exact va_Nw.same rfl h (hN _ hw)
theorem NW.warm {s U : State} (h : s.WarmedH U.vm) (hN : NW s) : NW U := fun w hw => by
  have hw2 := (List.mem_filter.mp hw).2
  cases w <;> first | (cases hw2; done) | exact va_Nw.warmF h (hN _ hw)
/-- what holds of a state between calls -/
def PRE (G : GG) (S : MS) (U : State) : Prop := va_P G.2.2.1 clsL (wld G S) U.heap ∧ va_K G.2.2.1 clsL (tyl G) U ∧ va_D (AD G) (wld G S) ∧ STA G (AD G) U U.heap ∧ NW U
theorem PRE.at {G : GG} {S : MS} {u U : State} (hvm : u.vm = U.vm) (hh : U.heap = u.heap) (h : PRE G S u) : PRE G S U := ⟨by rw [hh]; exact h.1, va_K.moved (hvm ▸ Vm.Alike.refl u.vm) h.2.1, h.2.2.1, by rw [hh]; exact h.2.2.2.1.moved (hvm ▸ Vm.Alike.refl u.vm), h.2.2.2.2.same hvm⟩
/-- a method's end: its answer and the world's new contents are as Fin says; nothing else has changed -/
def QcS (G : GG) (Fin : Option MV → MS → Prop) : Array Value → State → Outcome → State → Prop := fun _ st oc t => (∃ (v : Option MV) (S' : MS), oc = .returned (v.map (tr G)) ∧ Fin v S' ∧ PRE G S' t) ∧ st.heap.size ≤ t.heap.size ∧ ∀ q : Nat, q < st.heap.size → ¬ AD G q → t.heap[q]? = st.heap[q]?
def rmS (fr lo : Nat) : Room := { frames := fr, cells := 0, slots := 0, locals := lo }
def wsS0 (y : MethodName) (cc : ByteArray) (nL : Nat) (ret : Option FieldType) : List Cond := .code y cc nL ret :: lw_gd
/-- the contract: from contents S the method returns, and Fin holds of its answer and the new contents -/
def MetS (y : MethodName) (cc : ByteArray) (nL : Nat) (ret : Option FieldType) (fr lo : Nat) (av : List MV) (S : MS) (Fin : Option MV → MS → Prop) : Prop :=
  ∀ (l : Launch) (G : GG), Met l y (wsS0 y cc nL ret) (rmS fr lo) (va_Pc (av.map (tr G)) (PRE G S)) (QcS G Fin) 0 0 (AD G)
/-- what stays the same all through a method's walk -/
def CX (p : Program) (s : State) (m : MethodId) (args : Array Value) (meth : Method) (c : Code) (G : GG) (A : Nat → Prop) (cc : ByteArray) (own : String) (nL : Nat) (ret : Option FieldType) : Prop :=
  p.tables.exec = Jvm.exec ∧ c.code = cc ∧ c.maxLocals = nL ∧ s.vm.findClass own = some m.cls ∧ (∀ w ∈ lw_gd, w.before args s = true) ∧ va_K G.2.2.1 clsL (tyl G) s ∧ (∀ q, AD G q → A q) ∧ (STA G A s s.heap ∧ NW s) ∧ meth.sig.returnType = ret ∧ meth.locks = false
def asl (G : GG) : Nat → List (Option MV) → List (Nat × Value)
  | _, [] => []
  | n, none :: t => asl G (n + 1) t
  | n, some v :: t => (n, tr G v) :: asl G (n + 1) t
def WS (p : Program) (l : Launch) (e : Env) (R : Room) (s : State) (m : MethodId) (args : Array Value) (below : List Frame) (meth : Method) (c : Code) (G : GG) (A : Nat → Prop) (nL cells slots : Nat) (Q : State → Prop) (pc : Nat) (lv : List (Option MV)) (st : List MV) (S : MS) : Prop :=
  ∀ (H : Heap) (locs : List Loc) (ls : Array Slot), va_P G.2.2.1 clsL (wld G S) H → va_D A (wld G S) → va_S A s.heap H locs → lv_has ls nL (asl G 0 lv) → W p l e R s m args below meth c H locs cells slots Q (F0 m pc ls (st.map (tr G)))
def DC (cc : ByteArray) (pc : Nat) (i : Instr) (len nxt : Nat) : Prop := decode cc pc = .ok (i, len) ∧ pc + len = nxt
def DB (cc : ByteArray) (pc : Nat) (i : Instr) (off : Int) (nxt tgt : Nat) : Prop := decode cc pc = .ok (i, 3) ∧ pc + 3 = nxt ∧ (pc : Int) + off = (tgt : Int)
end
section
section WSR
variable {p : Program} {l : Launch} {e : Env} {R : Room} {s : State} {m : MethodId} {args : Array Value} {below : List Frame} {meth : Method} {c : Code} {G : GG} {A : Nat → Prop} {cells slots : Nat} {Q : State → Prop} {cc : ByteArray} {own : String} {nL : Nat} {ret : Option FieldType}
variable {pc nxt tgt : Nat} {lv : List (Option MV)} {st : List MV} {S : MS} {off : Int}
theorem ws_iconst (X : CX p s m args meth c G A cc own nL ret) {n : Int} (hdg : DC cc pc (.iconst n) 1 nxt) {v : Int32} (hv : Int32.ofInt n = v) (K : WS p l e R s m args below meth c G A nL cells slots Q nxt lv (.inl (.int v) :: st) S) : WS p l e R s m args below meth c G A nL cells slots Q pc lv (st) S := by
  obtain ⟨h1, rfl⟩ := hdg
  exact fun H locs ls hP hD hS hl => lv_iconst X.1 X.2.1 h1 hv (K H locs ls hP hD hS hl)
theorem ws_bipush (X : CX p s m args meth c G A cc own nL ret) {n : Int} (hdg : DC cc pc (.bipush n) 2 nxt) {v : Int32} (hv : (Int8.ofInt n).toInt32 = v) (K : WS p l e R s m args below meth c G A nL cells slots Q nxt lv (.inl (.int v) :: st) S) : WS p l e R s m args below meth c G A nL cells slots Q pc lv (st) S := by
  obtain ⟨h1, rfl⟩ := hdg
  exact fun H locs ls hP hD hS hl => lv_bipush X.1 X.2.1 h1 hv (K H locs ls hP hD hS hl)
theorem ws_sipush (X : CX p s m args meth c G A cc own nL ret) {n : Int} (hdg : DC cc pc (.sipush n) 3 nxt) {v : Int32} (hv : (Int16.ofInt n).toInt32 = v) (K : WS p l e R s m args below meth c G A nL cells slots Q nxt lv (.inl (.int v) :: st) S) : WS p l e R s m args below meth c G A nL cells slots Q pc lv (st) S := by
  obtain ⟨h1, rfl⟩ := hdg
  exact fun H locs ls hP hD hS hl => lv_sipush X.1 X.2.1 h1 hv (K H locs ls hP hD hS hl)
theorem ws_lconst (X : CX p s m args meth c G A cc own nL ret) {n : Fin 2} (hdg : DC cc pc (.lconst n) 1 nxt) {v : Int64} (hv : Int64.ofNat (n : Nat) = v) (K : WS p l e R s m args below meth c G A nL cells slots Q nxt lv (.inl (.long v) :: st) S) : WS p l e R s m args below meth c G A nL cells slots Q pc lv (st) S := by
  obtain ⟨h1, rfl⟩ := hdg
  exact fun H locs ls hP hD hS hl => lv_lconst X.1 X.2.1 h1 hv (K H locs ls hP hD hS hl)
theorem ws_dconst0 (X : CX p s m args meth c G A cc own nL ret) (hdg : DC cc pc (.dconst 0) 1 nxt) (K : WS p l e R s m args below meth c G A nL cells slots Q nxt lv (.inl (.double FP.dconst0) :: st) S) : WS p l e R s m args below meth c G A nL cells slots Q pc lv (st) S := by
  obtain ⟨h1, rfl⟩ := hdg
  exact fun H locs ls hP hD hS hl => lv_dconst0 X.1 X.2.1 h1 (K H locs ls hP hD hS hl)
theorem ws_dconst1 (X : CX p s m args meth c G A cc own nL ret) (hdg : DC cc pc (.dconst 1) 1 nxt) (K : WS p l e R s m args below meth c G A nL cells slots Q nxt lv (.inl (.double FP.dconst1) :: st) S) : WS p l e R s m args below meth c G A nL cells slots Q pc lv (st) S := by
  obtain ⟨h1, rfl⟩ := hdg
  exact fun H locs ls hP hD hS hl => lv_dconst1 X.1 X.2.1 h1 (K H locs ls hP hD hS hl)
theorem ws_ldc (X : CX p s m args meth c G A cc own nL ret) {i : Nat} (hdg : DC cc pc (.ldc i) 2 nxt) {v : Int32} (hc : Cond.constant own i v ∈ lw_gd) (K : WS p l e R s m args below meth c G A nL cells slots Q nxt lv (.inl (.int v) :: st) S) : WS p l e R s m args below meth c G A nL cells slots Q pc lv (st) S := by
  obtain ⟨h1, rfl⟩ := hdg
  exact fun H locs ls hP hD hS hl => lv_ldc X.1 X.2.1 X.2.2.2.1 (X.2.2.2.2.1 _ hc) h1 (K H locs ls hP hD hS hl)
theorem ws_ldc2 (X : CX p s m args meth c G A cc own nL ret) {i : Nat} (hdg : DC cc pc (.ldc2_w i) 3 nxt) {v : Int64} (hc : Cond.constantLong own i v ∈ lw_gd) (K : WS p l e R s m args below meth c G A nL cells slots Q nxt lv (.inl (.long v) :: st) S) : WS p l e R s m args below meth c G A nL cells slots Q pc lv (st) S := by
  obtain ⟨h1, rfl⟩ := hdg
  exact fun H locs ls hP hD hS hl => lv_ldc2 X.1 X.2.1 X.2.2.2.1 (X.2.2.2.2.1 _ hc) h1 (K H locs ls hP hD hS hl)
theorem ws_ldc2d (X : CX p s m args meth c G A cc own nL ret) {i : Nat} (hdg : DC cc pc (.ldc2_w i) 3 nxt) {v : UInt64} (hc : Cond.constantDouble own i v ∈ lw_gd) (K : WS p l e R s m args below meth c G A nL cells slots Q nxt lv (.inl (.double v) :: st) S) : WS p l e R s m args below meth c G A nL cells slots Q pc lv (st) S := by
  obtain ⟨h1, rfl⟩ := hdg
  exact fun H locs ls hP hD hS hl => lv_ldc2d X.1 X.2.1 X.2.2.2.1 (X.2.2.2.2.1 _ hc) h1 (K H locs ls hP hD hS hl)
theorem ws_null (X : CX p s m args meth c G A cc own nL ret) (hdg : DC cc pc (.aconst_null) 1 nxt) (K : WS p l e R s m args below meth c G A nL cells slots Q nxt lv (.inl .null :: st) S) : WS p l e R s m args below meth c G A nL cells slots Q pc lv (st) S := by
  obtain ⟨h1, rfl⟩ := hdg
  exact fun H locs ls hP hD hS hl => lv_null X.1 X.2.1 h1 (K H locs ls hP hD hS hl)
def lget : Nat → List (Option MV) → Option MV
  | 0, a :: _ => a
  | n + 1, _ :: t => lget n t
  | _, [] => none
theorem asl_get {G : GG} : ∀ (i n : Nat) (lv : List (Option MV)) (v : MV), lget i lv = some v → (n + i, tr G v) ∈ asl G n lv
  | 0, n, a :: t, v, h => by
    have h : a = some v := h
    subst h
    exact List.mem_cons_self
  | i + 1, n, a :: t, v, h => by
    have h : lget i t = some v := h
    have h2 := asl_get (G := G) i (n + 1) t v h
    rw [show n + (i + 1) = n + 1 + i by omega]
    cases a with
    | none => exact h2
    | some b => exact List.mem_cons_of_mem _ h2
  | 0, _, [], _, h => by cases h
  | _ + 1, _, [], _, h => by cases h
theorem asl_at {G : GG} {ls : Array Slot} {nL i : Nat} {lv : List (Option MV)} {v : MV} (hl : lv_has ls nL (asl G 0 lv)) (h : lget i lv = some v) : ls[i]? = some (.val (tr G v)) := by
  have h2 := hl.2.2 _ (asl_get i 0 lv v h)
  rwa [Nat.zero_add] at h2
theorem ws_iload_n (X : CX p s m args meth c G A cc own nL ret) {i : Nat} {k : Fin 4} (hdg : DC cc pc (.iload_n k) 1 nxt) {x : Int32} (hi : (k : Nat) = i) (hl0 : lget i lv = some (.inl (.int x))) (K : WS p l e R s m args below meth c G A nL cells slots Q nxt lv (.inl (.int x) :: st) S) : WS p l e R s m args below meth c G A nL cells slots Q pc lv st S := by
  obtain ⟨h1, rfl⟩ := hdg
  exact fun H locs ls hP hD hS hl => lv_iload_n X.1 X.2.1 h1 hi (asl_at hl hl0) (K H locs ls hP hD hS hl)
theorem ws_iload (X : CX p s m args meth c G A cc own nL ret) {i : Nat} (hdg : DC cc pc (.iload i) 2 nxt) {x : Int32} (hl0 : lget i lv = some (.inl (.int x))) (K : WS p l e R s m args below meth c G A nL cells slots Q nxt lv (.inl (.int x) :: st) S) : WS p l e R s m args below meth c G A nL cells slots Q pc lv st S := by
  obtain ⟨h1, rfl⟩ := hdg
  exact fun H locs ls hP hD hS hl => lv_iload X.1 X.2.1 h1 (asl_at hl hl0) (K H locs ls hP hD hS hl)
theorem ws_lload_n (X : CX p s m args meth c G A cc own nL ret) {i : Nat} {k : Fin 4} (hdg : DC cc pc (.lload_n k) 1 nxt) {x : Int64} (hi : (k : Nat) = i) (hl0 : lget i lv = some (.inl (.long x))) (K : WS p l e R s m args below meth c G A nL cells slots Q nxt lv (.inl (.long x) :: st) S) : WS p l e R s m args below meth c G A nL cells slots Q pc lv st S := by
  obtain ⟨h1, rfl⟩ := hdg
  exact fun H locs ls hP hD hS hl => lv_lload_n X.1 X.2.1 h1 hi (asl_at hl hl0) (K H locs ls hP hD hS hl)
theorem ws_lload (X : CX p s m args meth c G A cc own nL ret) {i : Nat} (hdg : DC cc pc (.lload i) 2 nxt) {x : Int64} (hl0 : lget i lv = some (.inl (.long x))) (K : WS p l e R s m args below meth c G A nL cells slots Q nxt lv (.inl (.long x) :: st) S) : WS p l e R s m args below meth c G A nL cells slots Q pc lv st S := by
  obtain ⟨h1, rfl⟩ := hdg
  exact fun H locs ls hP hD hS hl => lv_lload X.1 X.2.1 h1 (asl_at hl hl0) (K H locs ls hP hD hS hl)
theorem ws_dload_n (X : CX p s m args meth c G A cc own nL ret) {i : Nat} {k : Fin 4} (hdg : DC cc pc (.dload_n k) 1 nxt) {x : UInt64} (hi : (k : Nat) = i) (hl0 : lget i lv = some (.inl (.double x))) (K : WS p l e R s m args below meth c G A nL cells slots Q nxt lv (.inl (.double x) :: st) S) : WS p l e R s m args below meth c G A nL cells slots Q pc lv st S := by
  obtain ⟨h1, rfl⟩ := hdg
  exact fun H locs ls hP hD hS hl => lv_dload_n X.1 X.2.1 h1 hi (asl_at hl hl0) (K H locs ls hP hD hS hl)
theorem ws_dload (X : CX p s m args meth c G A cc own nL ret) {i : Nat} (hdg : DC cc pc (.dload i) 2 nxt) {x : UInt64} (hl0 : lget i lv = some (.inl (.double x))) (K : WS p l e R s m args below meth c G A nL cells slots Q nxt lv (.inl (.double x) :: st) S) : WS p l e R s m args below meth c G A nL cells slots Q pc lv st S := by
  obtain ⟨h1, rfl⟩ := hdg
  exact fun H locs ls hP hD hS hl => lv_dload X.1 X.2.1 h1 (asl_at hl hl0) (K H locs ls hP hD hS hl)
theorem ws_aload_n (X : CX p s m args meth c G A cc own nL ret) {i : Nat} {k : Fin 4} (hdg : DC cc pc (.aload_n k) 1 nxt) {x : Nat × Nat} (hi : (k : Nat) = i) (hl0 : lget i lv = some (.inr x)) (K : WS p l e R s m args below meth c G A nL cells slots Q nxt lv (.inr x :: st) S) : WS p l e R s m args below meth c G A nL cells slots Q pc lv st S := by
  obtain ⟨h1, rfl⟩ := hdg
  exact fun H locs ls hP hD hS hl => lv_aload_n X.1 X.2.1 h1 hi (asl_at hl hl0) (K H locs ls hP hD hS hl)
theorem ws_aload (X : CX p s m args meth c G A cc own nL ret) {i : Nat} (hdg : DC cc pc (.aload i) 2 nxt) {x : Nat × Nat} (hl0 : lget i lv = some (.inr x)) (K : WS p l e R s m args below meth c G A nL cells slots Q nxt lv (.inr x :: st) S) : WS p l e R s m args below meth c G A nL cells slots Q pc lv st S := by
  obtain ⟨h1, rfl⟩ := hdg
  exact fun H locs ls hP hD hS hl => lv_aload X.1 X.2.1 h1 (asl_at hl hl0) (K H locs ls hP hD hS hl)
theorem ws_aRload_n (X : CX p s m args meth c G A cc own nL ret) {i : Nat} {k : Fin 4} (hdg : DC cc pc (.aload_n k) 1 nxt) {x : Nat} (hi : (k : Nat) = i) (hl0 : lget i lv = some (.inl (.ref x))) (K : WS p l e R s m args below meth c G A nL cells slots Q nxt lv (.inl (.ref x) :: st) S) : WS p l e R s m args below meth c G A nL cells slots Q pc lv st S := by
  obtain ⟨h1, rfl⟩ := hdg
  exact fun H locs ls hP hD hS hl => lv_aload_n X.1 X.2.1 h1 hi (asl_at hl hl0) (K H locs ls hP hD hS hl)
theorem ws_aRload (X : CX p s m args meth c G A cc own nL ret) {i : Nat} (hdg : DC cc pc (.aload i) 2 nxt) {x : Nat} (hl0 : lget i lv = some (.inl (.ref x))) (K : WS p l e R s m args below meth c G A nL cells slots Q nxt lv (.inl (.ref x) :: st) S) : WS p l e R s m args below meth c G A nL cells slots Q pc lv st S := by
  obtain ⟨h1, rfl⟩ := hdg
  exact fun H locs ls hP hD hS hl => lv_aload X.1 X.2.1 h1 (asl_at hl hl0) (K H locs ls hP hD hS hl)
theorem ws_aNload_n (X : CX p s m args meth c G A cc own nL ret) {i : Nat} {k : Fin 4} (hdg : DC cc pc (.aload_n k) 1 nxt) (hi : (k : Nat) = i) (hl0 : lget i lv = some (.inl .null)) (K : WS p l e R s m args below meth c G A nL cells slots Q nxt lv (.inl .null :: st) S) : WS p l e R s m args below meth c G A nL cells slots Q pc lv st S := by
  obtain ⟨h1, rfl⟩ := hdg
  exact fun H locs ls hP hD hS hl => lv_aload_nN X.1 X.2.1 h1 hi (asl_at hl hl0) (K H locs ls hP hD hS hl)
theorem ws_aNload (X : CX p s m args meth c G A cc own nL ret) {i : Nat} (hdg : DC cc pc (.aload i) 2 nxt) (hl0 : lget i lv = some (.inl .null)) (K : WS p l e R s m args below meth c G A nL cells slots Q nxt lv (.inl .null :: st) S) : WS p l e R s m args below meth c G A nL cells slots Q pc lv st S := by
  obtain ⟨h1, rfl⟩ := hdg
  exact fun H locs ls hP hD hS hl => lv_aloadN X.1 X.2.1 h1 (asl_at hl hl0) (K H locs ls hP hD hS hl)
def mcat (v : MV) : Nat := match v with
  | .inl x => x.category
  | .inr _ => 1
theorem tr_cat (G : GG) (v : MV) : (tr G v).category = mcat v := by
  cases v <;> rfl
/-- what stays of the locals when place i gets a value that takes w places -/
def lste (i w : Nat) (x : MV) (n : Nat) (a : Option MV) : Option MV := if n = i then some x else if w = 2 ∧ n = i + 1 then none else match a with
  | none => none
  | some v => if n + 1 = i ∧ mcat v = 2 then none else some v
def lst (i w : Nat) (x : MV) : Nat → List (Option MV) → List (Option MV)
  | _, [] => []
  | n, a :: t => lste i w x n a :: lst i w x (n + 1) t
theorem lst_sub {G : GG} (i w : Nat) (x : MV) : ∀ (n : Nat) (lv : List (Option MV)) (q : Nat × Value), q ∈ asl G n (lst i w x n lv) → (q = (i, tr G x)) ∨ (q ∈ asl G n lv ∧ q.1 ≠ i ∧ ¬ (q.1 + 1 = i ∧ q.2.category = 2) ∧ ¬ (w = 2 ∧ q.1 = i + 1))
  | _, [], q, h => by cases h
  | n, a :: t, q, h => by
    by_cases h1 : n = i
    · have e : lst i w x n (a :: t) = some x :: lst i w x (n + 1) t := by
        show lste i w x n a :: _ = _
        unfold lste
        rw [if_pos h1]
      rw [e] at h
      rcases List.mem_cons.mp h with h2 | h2
      · exact Or.inl (by rw [h2, h1])
      · rcases lst_sub i w x (n + 1) t q h2 with h3 | ⟨h3, h4⟩
        · exact Or.inl h3
        · refine Or.inr ⟨?_, h4⟩
          cases a with
          | none => exact h3
          | some b => exact List.mem_cons_of_mem _ h3
    · by_cases h2 : w = 2 ∧ n = i + 1
      · have e : lst i w x n (a :: t) = none :: lst i w x (n + 1) t := by
          show lste i w x n a :: _ = _
          unfold lste
          rw [if_neg h1, if_pos h2]
        rw [e] at h
        rcases lst_sub i w x (n + 1) t q h with h3 | ⟨h3, h4⟩
        · exact Or.inl h3
        · refine Or.inr ⟨?_, h4⟩
          cases a with
          | none => exact h3
          | some b => exact List.mem_cons_of_mem _ h3
      · cases a with
        | none =>
          have e : lst i w x n (none :: t) = none :: lst i w x (n + 1) t := by rw [lst, lste, if_neg h1, if_neg h2]
          rw [e] at h
          exact lst_sub i w x (n + 1) t q h
        | some b =>
          by_cases h5 : n + 1 = i ∧ mcat b = 2
          · have e : lst i w x n (some b :: t) = none :: lst i w x (n + 1) t := by
              rw [lst, lste, if_neg h1, if_neg h2]; simp only [if_pos h5]
            rw [e] at h
            rcases lst_sub i w x (n + 1) t q h with h3 | ⟨h3, h4⟩
            · exact Or.inl h3
            · exact Or.inr ⟨List.mem_cons_of_mem _ h3, h4⟩
          · have e : lst i w x n (some b :: t) = some b :: lst i w x (n + 1) t := by
              rw [lst, lste, if_neg h1, if_neg h2]; simp only [if_neg h5]
            rw [e] at h
            rcases List.mem_cons.mp h with h6 | h6
            · subst h6
              exact Or.inr ⟨List.mem_cons_self, h1, fun z => h5 ⟨z.1, by rw [← tr_cat G]; exact z.2⟩, fun z => h2 z⟩
            · rcases lst_sub i w x (n + 1) t q h6 with h3 | ⟨h3, h4⟩
              · exact Or.inl h3
              · exact Or.inr ⟨List.mem_cons_of_mem _ h3, h4⟩
theorem lst1 {G : GG} {ls : Array Slot} {i : Nat} {x : MV} {lv lv' : List (Option MV)} (he : lst i 1 x 0 lv = lv') (h : lv_has ls nL ((i, tr G x) :: (asl G 0 lv).filter (fun q => !(q.1 == i) && !(q.1 + 1 == i && q.2.category == 2)))) : lv_has ls nL (asl G 0 lv') := by
  subst he
  refine ⟨h.1, h.2.1, fun q hq => ?_⟩
  rcases lst_sub i 1 x 0 lv q hq with h1 | ⟨h1, h2, h3, -⟩
  · exact h.2.2 q (by rw [h1]; exact List.mem_cons_self)
  · refine h.2.2 q (List.mem_cons_of_mem _ (List.mem_filter.mpr ⟨h1, ?_⟩))
    have h3' : ¬ (q.1 + 1 = i ∧ q.2.category = 2) := h3
    by_cases ha : q.1 + 1 = i <;> by_cases hb : q.2.category = 2 <;> simp_all
theorem lst2 {G : GG} {ls : Array Slot} {i : Nat} {x : MV} {lv lv' : List (Option MV)} (he : lst i 2 x 0 lv = lv') (h : lv_has ls nL ((i, tr G x) :: (asl G 0 lv).filter (fun q => !(q.1 == i) && (!(q.1 == i + 1) && !(q.1 + 1 == i && q.2.category == 2))))) : lv_has ls nL (asl G 0 lv') := by
  subst he
  refine ⟨h.1, h.2.1, fun q hq => ?_⟩
  rcases lst_sub i 2 x 0 lv q hq with h1 | ⟨h1, h2, h3, h4⟩
  · exact h.2.2 q (by rw [h1]; exact List.mem_cons_self)
  · refine h.2.2 q (List.mem_cons_of_mem _ (List.mem_filter.mpr ⟨h1, ?_⟩))
    have h5 : ¬ q.1 = i + 1 := fun z => h4 ⟨rfl, z⟩
    by_cases ha : q.1 + 1 = i <;> by_cases hb : q.2.category = 2 <;> simp_all
theorem ws_istore_n (X : CX p s m args meth c G A cc own nL ret) {i : Nat} {k : Fin 4} {x : Int32} {lv' : List (Option MV)} (hdg : DC cc pc (.istore_n k) 1 nxt) (hi : (k : Nat) = i) (hn : i < nL) (hlv : lst i 1 (.inl (.int x)) 0 lv = lv') (K : WS p l e R s m args below meth c G A nL cells slots Q nxt lv' st S) : WS p l e R s m args below meth c G A nL cells slots Q pc lv (.inl (.int x) :: st) S := by
  obtain ⟨h1, rfl⟩ := hdg
  exact fun H locs ls hP hD hS hl => lv_istore_n X.1 X.2.1 h1 hi hl hn rfl (fun ls2 hl2 => K H locs ls2 hP hD hS (lst1 (x := .inl (.int x)) hlv hl2))
theorem ws_istore (X : CX p s m args meth c G A cc own nL ret) {i : Nat} {x : Int32} {lv' : List (Option MV)} (hdg : DC cc pc (.istore i) 2 nxt) (hn : i < nL) (hlv : lst i 1 (.inl (.int x)) 0 lv = lv') (K : WS p l e R s m args below meth c G A nL cells slots Q nxt lv' st S) : WS p l e R s m args below meth c G A nL cells slots Q pc lv (.inl (.int x) :: st) S := by
  obtain ⟨h1, rfl⟩ := hdg
  exact fun H locs ls hP hD hS hl => lv_istore X.1 X.2.1 h1 hl hn rfl (fun ls2 hl2 => K H locs ls2 hP hD hS (lst1 (x := .inl (.int x)) hlv hl2))
theorem ws_lstore_n (X : CX p s m args meth c G A cc own nL ret) {i : Nat} {k : Fin 4} {x : Int64} {lv' : List (Option MV)} (hdg : DC cc pc (.lstore_n k) 1 nxt) (hi : (k : Nat) = i) (hn : i + 1 < nL) (hlv : lst i 2 (.inl (.long x)) 0 lv = lv') (K : WS p l e R s m args below meth c G A nL cells slots Q nxt lv' st S) : WS p l e R s m args below meth c G A nL cells slots Q pc lv (.inl (.long x) :: st) S := by
  obtain ⟨h1, rfl⟩ := hdg
  exact fun H locs ls hP hD hS hl => lv_lstore_n X.1 X.2.1 h1 hi hl hn rfl (fun ls2 hl2 => K H locs ls2 hP hD hS (lst2 (x := .inl (.long x)) hlv hl2))
theorem ws_lstore (X : CX p s m args meth c G A cc own nL ret) {i : Nat} {x : Int64} {lv' : List (Option MV)} (hdg : DC cc pc (.lstore i) 2 nxt) (hn : i + 1 < nL) (hlv : lst i 2 (.inl (.long x)) 0 lv = lv') (K : WS p l e R s m args below meth c G A nL cells slots Q nxt lv' st S) : WS p l e R s m args below meth c G A nL cells slots Q pc lv (.inl (.long x) :: st) S := by
  obtain ⟨h1, rfl⟩ := hdg
  exact fun H locs ls hP hD hS hl => lv_lstore X.1 X.2.1 h1 hl hn rfl (fun ls2 hl2 => K H locs ls2 hP hD hS (lst2 (x := .inl (.long x)) hlv hl2))
theorem ws_dstore_n (X : CX p s m args meth c G A cc own nL ret) {i : Nat} {k : Fin 4} {x : UInt64} {lv' : List (Option MV)} (hdg : DC cc pc (.dstore_n k) 1 nxt) (hi : (k : Nat) = i) (hn : i + 1 < nL) (hlv : lst i 2 (.inl (.double x)) 0 lv = lv') (K : WS p l e R s m args below meth c G A nL cells slots Q nxt lv' st S) : WS p l e R s m args below meth c G A nL cells slots Q pc lv (.inl (.double x) :: st) S := by
  obtain ⟨h1, rfl⟩ := hdg
  exact fun H locs ls hP hD hS hl => lv_dstore_n X.1 X.2.1 h1 hi hl hn rfl (fun ls2 hl2 => K H locs ls2 hP hD hS (lst2 (x := .inl (.double x)) hlv hl2))
theorem ws_dstore (X : CX p s m args meth c G A cc own nL ret) {i : Nat} {x : UInt64} {lv' : List (Option MV)} (hdg : DC cc pc (.dstore i) 2 nxt) (hn : i + 1 < nL) (hlv : lst i 2 (.inl (.double x)) 0 lv = lv') (K : WS p l e R s m args below meth c G A nL cells slots Q nxt lv' st S) : WS p l e R s m args below meth c G A nL cells slots Q pc lv (.inl (.double x) :: st) S := by
  obtain ⟨h1, rfl⟩ := hdg
  exact fun H locs ls hP hD hS hl => lv_dstore X.1 X.2.1 h1 hl hn rfl (fun ls2 hl2 => K H locs ls2 hP hD hS (lst2 (x := .inl (.double x)) hlv hl2))
theorem ws_astore_n (X : CX p s m args meth c G A cc own nL ret) {i : Nat} {k : Fin 4} {x : Nat × Nat} {lv' : List (Option MV)} (hdg : DC cc pc (.astore_n k) 1 nxt) (hi : (k : Nat) = i) (hn : i < nL) (hlv : lst i 1 (.inr x) 0 lv = lv') (K : WS p l e R s m args below meth c G A nL cells slots Q nxt lv' st S) : WS p l e R s m args below meth c G A nL cells slots Q pc lv (.inr x :: st) S := by
  obtain ⟨h1, rfl⟩ := hdg
  exact fun H locs ls hP hD hS hl => lv_astore_n X.1 X.2.1 h1 hi hl hn rfl (fun ls2 hl2 => K H locs ls2 hP hD hS (lst1 (x := .inr x) hlv hl2))
theorem ws_astore (X : CX p s m args meth c G A cc own nL ret) {i : Nat} {x : Nat × Nat} {lv' : List (Option MV)} (hdg : DC cc pc (.astore i) 2 nxt) (hn : i < nL) (hlv : lst i 1 (.inr x) 0 lv = lv') (K : WS p l e R s m args below meth c G A nL cells slots Q nxt lv' st S) : WS p l e R s m args below meth c G A nL cells slots Q pc lv (.inr x :: st) S := by
  obtain ⟨h1, rfl⟩ := hdg
  exact fun H locs ls hP hD hS hl => lv_astore X.1 X.2.1 h1 hl hn rfl (fun ls2 hl2 => K H locs ls2 hP hD hS (lst1 (x := .inr x) hlv hl2))
theorem ws_aNstore_n (X : CX p s m args meth c G A cc own nL ret) {i : Nat} {k : Fin 4} {lv' : List (Option MV)} (hdg : DC cc pc (.astore_n k) 1 nxt) (hi : (k : Nat) = i) (hn : i < nL) (hlv : lst i 1 (.inl .null) 0 lv = lv') (K : WS p l e R s m args below meth c G A nL cells slots Q nxt lv' st S) : WS p l e R s m args below meth c G A nL cells slots Q pc lv (.inl .null :: st) S := by
  obtain ⟨h1, rfl⟩ := hdg
  exact fun H locs ls hP hD hS hl => lv_astore_nN X.1 X.2.1 h1 hi hl hn rfl (fun ls2 hl2 => K H locs ls2 hP hD hS (lst1 (x := .inl .null) hlv hl2))
theorem ws_aNstore (X : CX p s m args meth c G A cc own nL ret) {i : Nat} {lv' : List (Option MV)} (hdg : DC cc pc (.astore i) 2 nxt) (hn : i < nL) (hlv : lst i 1 (.inl .null) 0 lv = lv') (K : WS p l e R s m args below meth c G A nL cells slots Q nxt lv' st S) : WS p l e R s m args below meth c G A nL cells slots Q pc lv (.inl .null :: st) S := by
  obtain ⟨h1, rfl⟩ := hdg
  exact fun H locs ls hP hD hS hl => lv_astoreN X.1 X.2.1 h1 hl hn rfl (fun ls2 hl2 => K H locs ls2 hP hD hS (lst1 (x := .inl .null) hlv hl2))
theorem asl_idx {G : GG} {i : Nat} {lv : List (Option MV)} {v : MV} (h : lget i lv = some v) : ∃ k : Nat, (asl G 0 lv)[k]? = some (i, tr G v) := by
  have h2 := asl_get (G := G) i 0 lv v h
  rw [Nat.zero_add] at h2
  exact List.getElem?_of_mem h2
theorem ws_iinc (X : CX p s m args meth c G A cc own nL ret) {i : Nat} {n : Int} {x v : Int32} {lv' : List (Option MV)} (hdg : DC cc pc (.iinc i n) 3 nxt) (hl0 : lget i lv = some (.inl (.int x))) (hv : x + Int32.ofInt n = v) (hn : i < nL) (hlv : lst i 1 (.inl (.int v)) 0 lv = lv') (K : WS p l e R s m args below meth c G A nL cells slots Q nxt lv' st S) : WS p l e R s m args below meth c G A nL cells slots Q pc lv st S := by
  obtain ⟨h1, rfl⟩ := hdg
  obtain ⟨k, hk⟩ := asl_idx (G := G) hl0
  exact fun H locs ls hP hD hS hl => lv_iinc X.1 X.2.1 h1 hl hk hv hn rfl (fun ls2 hl2 => K H locs ls2 hP hD hS (lst1 (x := .inl (.int v)) hlv hl2))
theorem ws_iadd (X : CX p s m args meth c G A cc own nL ret) {x y : Int32} (hdg : DC cc pc (.iadd) 1 nxt) (K : WS p l e R s m args below meth c G A nL cells slots Q nxt lv (.inl (.int (x + y)) :: st) S) : WS p l e R s m args below meth c G A nL cells slots Q pc lv (.inl (.int y) :: .inl (.int x) :: st) S := by
  obtain ⟨h1, rfl⟩ := hdg
  exact fun H locs ls hP hD hS hl => lv_iadd X.1 X.2.1 h1 (K H locs ls hP hD hS hl)
theorem ws_isub (X : CX p s m args meth c G A cc own nL ret) {x y : Int32} (hdg : DC cc pc (.isub) 1 nxt) (K : WS p l e R s m args below meth c G A nL cells slots Q nxt lv (.inl (.int (x - y)) :: st) S) : WS p l e R s m args below meth c G A nL cells slots Q pc lv (.inl (.int y) :: .inl (.int x) :: st) S := by
  obtain ⟨h1, rfl⟩ := hdg
  exact fun H locs ls hP hD hS hl => lv_isub X.1 X.2.1 h1 (K H locs ls hP hD hS hl)
theorem ws_imul (X : CX p s m args meth c G A cc own nL ret) {x y : Int32} (hdg : DC cc pc (.imul) 1 nxt) (K : WS p l e R s m args below meth c G A nL cells slots Q nxt lv (.inl (.int (x * y)) :: st) S) : WS p l e R s m args below meth c G A nL cells slots Q pc lv (.inl (.int y) :: .inl (.int x) :: st) S := by
  obtain ⟨h1, rfl⟩ := hdg
  exact fun H locs ls hP hD hS hl => lv_imul X.1 X.2.1 h1 (K H locs ls hP hD hS hl)
theorem ws_iand (X : CX p s m args meth c G A cc own nL ret) {x y : Int32} (hdg : DC cc pc (.iand) 1 nxt) (K : WS p l e R s m args below meth c G A nL cells slots Q nxt lv (.inl (.int (x &&& y)) :: st) S) : WS p l e R s m args below meth c G A nL cells slots Q pc lv (.inl (.int y) :: .inl (.int x) :: st) S := by
  obtain ⟨h1, rfl⟩ := hdg
  exact fun H locs ls hP hD hS hl => lv_iand X.1 X.2.1 h1 (K H locs ls hP hD hS hl)
theorem ws_ior (X : CX p s m args meth c G A cc own nL ret) {x y : Int32} (hdg : DC cc pc (.ior) 1 nxt) (K : WS p l e R s m args below meth c G A nL cells slots Q nxt lv (.inl (.int (x ||| y)) :: st) S) : WS p l e R s m args below meth c G A nL cells slots Q pc lv (.inl (.int y) :: .inl (.int x) :: st) S := by
  obtain ⟨h1, rfl⟩ := hdg
  exact fun H locs ls hP hD hS hl => lv_ior X.1 X.2.1 h1 (K H locs ls hP hD hS hl)
theorem ws_ixor (X : CX p s m args meth c G A cc own nL ret) {x y : Int32} (hdg : DC cc pc (.ixor) 1 nxt) (K : WS p l e R s m args below meth c G A nL cells slots Q nxt lv (.inl (.int (x ^^^ y)) :: st) S) : WS p l e R s m args below meth c G A nL cells slots Q pc lv (.inl (.int y) :: .inl (.int x) :: st) S := by
  obtain ⟨h1, rfl⟩ := hdg
  exact fun H locs ls hP hD hS hl => lv_ixor X.1 X.2.1 h1 (K H locs ls hP hD hS hl)
theorem ws_ladd (X : CX p s m args meth c G A cc own nL ret) {x y : Int64} (hdg : DC cc pc (.ladd) 1 nxt) (K : WS p l e R s m args below meth c G A nL cells slots Q nxt lv (.inl (.long (x + y)) :: st) S) : WS p l e R s m args below meth c G A nL cells slots Q pc lv (.inl (.long y) :: .inl (.long x) :: st) S := by
  obtain ⟨h1, rfl⟩ := hdg
  exact fun H locs ls hP hD hS hl => lv_ladd X.1 X.2.1 h1 (K H locs ls hP hD hS hl)
theorem ws_lsub (X : CX p s m args meth c G A cc own nL ret) {x y : Int64} (hdg : DC cc pc (.lsub) 1 nxt) (K : WS p l e R s m args below meth c G A nL cells slots Q nxt lv (.inl (.long (x - y)) :: st) S) : WS p l e R s m args below meth c G A nL cells slots Q pc lv (.inl (.long y) :: .inl (.long x) :: st) S := by
  obtain ⟨h1, rfl⟩ := hdg
  exact fun H locs ls hP hD hS hl => lv_lsub X.1 X.2.1 h1 (K H locs ls hP hD hS hl)
theorem ws_lmul (X : CX p s m args meth c G A cc own nL ret) {x y : Int64} (hdg : DC cc pc (.lmul) 1 nxt) (K : WS p l e R s m args below meth c G A nL cells slots Q nxt lv (.inl (.long (x * y)) :: st) S) : WS p l e R s m args below meth c G A nL cells slots Q pc lv (.inl (.long y) :: .inl (.long x) :: st) S := by
  obtain ⟨h1, rfl⟩ := hdg
  exact fun H locs ls hP hD hS hl => lv_lmul X.1 X.2.1 h1 (K H locs ls hP hD hS hl)
theorem ws_land (X : CX p s m args meth c G A cc own nL ret) {x y : Int64} (hdg : DC cc pc (.land) 1 nxt) (K : WS p l e R s m args below meth c G A nL cells slots Q nxt lv (.inl (.long (x &&& y)) :: st) S) : WS p l e R s m args below meth c G A nL cells slots Q pc lv (.inl (.long y) :: .inl (.long x) :: st) S := by
  obtain ⟨h1, rfl⟩ := hdg
  exact fun H locs ls hP hD hS hl => lv_land X.1 X.2.1 h1 (K H locs ls hP hD hS hl)
theorem ws_lor (X : CX p s m args meth c G A cc own nL ret) {x y : Int64} (hdg : DC cc pc (.lor) 1 nxt) (K : WS p l e R s m args below meth c G A nL cells slots Q nxt lv (.inl (.long (x ||| y)) :: st) S) : WS p l e R s m args below meth c G A nL cells slots Q pc lv (.inl (.long y) :: .inl (.long x) :: st) S := by
  obtain ⟨h1, rfl⟩ := hdg
  exact fun H locs ls hP hD hS hl => lv_lor X.1 X.2.1 h1 (K H locs ls hP hD hS hl)
theorem ws_lxor (X : CX p s m args meth c G A cc own nL ret) {x y : Int64} (hdg : DC cc pc (.lxor) 1 nxt) (K : WS p l e R s m args below meth c G A nL cells slots Q nxt lv (.inl (.long (x ^^^ y)) :: st) S) : WS p l e R s m args below meth c G A nL cells slots Q pc lv (.inl (.long y) :: .inl (.long x) :: st) S := by
  obtain ⟨h1, rfl⟩ := hdg
  exact fun H locs ls hP hD hS hl => lv_lxor X.1 X.2.1 h1 (K H locs ls hP hD hS hl)
theorem ws_idiv (X : CX p s m args meth c G A cc own nL ret) {x y : Int32} (hdg : DC cc pc (.idiv) 1 nxt) (hne : ¬ y = 0) (K : WS p l e R s m args below meth c G A nL cells slots Q nxt lv (.inl (.int (x / y)) :: st) S) : WS p l e R s m args below meth c G A nL cells slots Q pc lv (.inl (.int y) :: .inl (.int x) :: st) S := by
  obtain ⟨h1, rfl⟩ := hdg
  exact fun H locs ls hP hD hS hl => lv_idiv X.1 X.2.1 h1 hne (K H locs ls hP hD hS hl)
theorem ws_ldiv (X : CX p s m args meth c G A cc own nL ret) {x y : Int64} (hdg : DC cc pc (.ldiv) 1 nxt) (hne : ¬ y = 0) (K : WS p l e R s m args below meth c G A nL cells slots Q nxt lv (.inl (.long (x / y)) :: st) S) : WS p l e R s m args below meth c G A nL cells slots Q pc lv (.inl (.long y) :: .inl (.long x) :: st) S := by
  obtain ⟨h1, rfl⟩ := hdg
  exact fun H locs ls hP hD hS hl => lv_ldiv X.1 X.2.1 h1 hne (K H locs ls hP hD hS hl)
theorem ws_ineg (X : CX p s m args meth c G A cc own nL ret) {x : Int32} (hdg : DC cc pc (.ineg) 1 nxt) (K : WS p l e R s m args below meth c G A nL cells slots Q nxt lv (.inl (.int (-x)) :: st) S) : WS p l e R s m args below meth c G A nL cells slots Q pc lv (.inl (.int x) :: st) S := by
  obtain ⟨h1, rfl⟩ := hdg
  exact fun H locs ls hP hD hS hl => lv_ineg X.1 X.2.1 h1 (K H locs ls hP hD hS hl)
theorem ws_lneg (X : CX p s m args meth c G A cc own nL ret) {x : Int64} (hdg : DC cc pc (.lneg) 1 nxt) (K : WS p l e R s m args below meth c G A nL cells slots Q nxt lv (.inl (.long (-x)) :: st) S) : WS p l e R s m args below meth c G A nL cells slots Q pc lv (.inl (.long x) :: st) S := by
  obtain ⟨h1, rfl⟩ := hdg
  exact fun H locs ls hP hD hS hl => lv_lneg X.1 X.2.1 h1 (K H locs ls hP hD hS hl)
theorem ws_i2l (X : CX p s m args meth c G A cc own nL ret) {x : Int32} (hdg : DC cc pc (.i2l) 1 nxt) (K : WS p l e R s m args below meth c G A nL cells slots Q nxt lv (.inl (.long x.toInt64) :: st) S) : WS p l e R s m args below meth c G A nL cells slots Q pc lv (.inl (.int x) :: st) S := by
  obtain ⟨h1, rfl⟩ := hdg
  exact fun H locs ls hP hD hS hl => lv_i2l X.1 X.2.1 h1 rfl (K H locs ls hP hD hS hl)
theorem ws_l2i (X : CX p s m args meth c G A cc own nL ret) {x : Int64} (hdg : DC cc pc (.l2i) 1 nxt) (K : WS p l e R s m args below meth c G A nL cells slots Q nxt lv (.inl (.int x.toInt32) :: st) S) : WS p l e R s m args below meth c G A nL cells slots Q pc lv (.inl (.long x) :: st) S := by
  obtain ⟨h1, rfl⟩ := hdg
  exact fun H locs ls hP hD hS hl => lv_l2i X.1 X.2.1 h1 rfl (K H locs ls hP hD hS hl)
def shl32 (x y : Int32) : Int32 := x <<< (y &&& 31)
def shr32 (x y : Int32) : Int32 := x >>> (y &&& 31)
def ushr32 (x y : Int32) : Int32 := (x.toUInt32 >>> (y.toUInt32 &&& Int32.toUInt32 31)).toInt32
def shl64 (x : Int64) (y : Int32) : Int64 := x <<< (y.toInt64 &&& 63)
def shr64 (x : Int64) (y : Int32) : Int64 := x >>> (y.toInt64 &&& 63)
def ushr64 (x : Int64) (y : Int32) : Int64 := (x.toUInt64 >>> (y.toInt64.toUInt64 &&& Int64.toUInt64 63)).toInt64
theorem ws_ishl (X : CX p s m args meth c G A cc own nL ret) {x y : Int32} (hdg : DC cc pc (.ishl) 1 nxt) (K : WS p l e R s m args below meth c G A nL cells slots Q nxt lv (.inl (.int (shl32 x y)) :: st) S) : WS p l e R s m args below meth c G A nL cells slots Q pc lv (.inl (.int y) :: .inl (.int x) :: st) S := by
  obtain ⟨h1, rfl⟩ := hdg
  exact fun H locs ls hP hD hS hl => lv_ishl X.1 X.2.1 h1 (K H locs ls hP hD hS hl)
theorem ws_ishr (X : CX p s m args meth c G A cc own nL ret) {x y : Int32} (hdg : DC cc pc (.ishr) 1 nxt) (K : WS p l e R s m args below meth c G A nL cells slots Q nxt lv (.inl (.int (shr32 x y)) :: st) S) : WS p l e R s m args below meth c G A nL cells slots Q pc lv (.inl (.int y) :: .inl (.int x) :: st) S := by
  obtain ⟨h1, rfl⟩ := hdg
  exact fun H locs ls hP hD hS hl => lv_ishr X.1 X.2.1 h1 (K H locs ls hP hD hS hl)
theorem ws_iushr (X : CX p s m args meth c G A cc own nL ret) {x y : Int32} (hdg : DC cc pc (.iushr) 1 nxt) (K : WS p l e R s m args below meth c G A nL cells slots Q nxt lv (.inl (.int (ushr32 x y)) :: st) S) : WS p l e R s m args below meth c G A nL cells slots Q pc lv (.inl (.int y) :: .inl (.int x) :: st) S := by
  obtain ⟨h1, rfl⟩ := hdg
  exact fun H locs ls hP hD hS hl => lv_iushr X.1 X.2.1 h1 rfl (K H locs ls hP hD hS hl)
theorem ws_lshl (X : CX p s m args meth c G A cc own nL ret) {x : Int64} {y : Int32} (hdg : DC cc pc (.lshl) 1 nxt) (K : WS p l e R s m args below meth c G A nL cells slots Q nxt lv (.inl (.long (shl64 x y)) :: st) S) : WS p l e R s m args below meth c G A nL cells slots Q pc lv (.inl (.int y) :: .inl (.long x) :: st) S := by
  obtain ⟨h1, rfl⟩ := hdg
  exact fun H locs ls hP hD hS hl => lv_lshl X.1 X.2.1 h1 rfl (K H locs ls hP hD hS hl)
theorem ws_lshr (X : CX p s m args meth c G A cc own nL ret) {x : Int64} {y : Int32} (hdg : DC cc pc (.lshr) 1 nxt) (K : WS p l e R s m args below meth c G A nL cells slots Q nxt lv (.inl (.long (shr64 x y)) :: st) S) : WS p l e R s m args below meth c G A nL cells slots Q pc lv (.inl (.int y) :: .inl (.long x) :: st) S := by
  obtain ⟨h1, rfl⟩ := hdg
  exact fun H locs ls hP hD hS hl => lv_lshr X.1 X.2.1 h1 rfl (K H locs ls hP hD hS hl)
theorem ws_lushr (X : CX p s m args meth c G A cc own nL ret) {x : Int64} {y : Int32} (hdg : DC cc pc (.lushr) 1 nxt) (K : WS p l e R s m args below meth c G A nL cells slots Q nxt lv (.inl (.long (ushr64 x y)) :: st) S) : WS p l e R s m args below meth c G A nL cells slots Q pc lv (.inl (.int y) :: .inl (.long x) :: st) S := by
  obtain ⟨h1, rfl⟩ := hdg
  exact fun H locs ls hP hD hS hl => lv_lushr X.1 X.2.1 h1 rfl (K H locs ls hP hD hS hl)
theorem ws_lcmp (X : CX p s m args meth c G A cc own nL ret) {x y : Int64} (hdg : DC cc pc (.lcmp) 1 nxt) (K : WS p l e R s m args below meth c G A nL cells slots Q nxt lv (.inl (.int (lg_cmp x y)) :: st) S) : WS p l e R s m args below meth c G A nL cells slots Q pc lv (.inl (.long y) :: .inl (.long x) :: st) S := by
  obtain ⟨h1, rfl⟩ := hdg
  exact fun H locs ls hP hD hS hl => W.lcmp X.1 X.2.1 h1 (K H locs ls hP hD hS hl)
theorem ws_dadd (X : CX p s m args meth c G A cc own nL ret) {x y : UInt64} (hdg : DC cc pc (.dadd) 1 nxt) (hne : vf_n64 (FP.dadd x y)) (K : WS p l e R s m args below meth c G A nL cells slots Q nxt lv (.inl (.double (FP.dadd x y)) :: st) S) : WS p l e R s m args below meth c G A nL cells slots Q pc lv (.inl (.double y) :: .inl (.double x) :: st) S := by
  obtain ⟨h1, rfl⟩ := hdg
  exact fun H locs ls hP hD hS hl => lv_dadd X.1 X.2.1 h1 hne (K H locs ls hP hD hS hl)
theorem ws_dsub (X : CX p s m args meth c G A cc own nL ret) {x y : UInt64} (hdg : DC cc pc (.dsub) 1 nxt) (hne : vf_n64 (FP.dsub x y)) (K : WS p l e R s m args below meth c G A nL cells slots Q nxt lv (.inl (.double (FP.dsub x y)) :: st) S) : WS p l e R s m args below meth c G A nL cells slots Q pc lv (.inl (.double y) :: .inl (.double x) :: st) S := by
  obtain ⟨h1, rfl⟩ := hdg
  exact fun H locs ls hP hD hS hl => lv_dsub X.1 X.2.1 h1 hne (K H locs ls hP hD hS hl)
theorem ws_dmul (X : CX p s m args meth c G A cc own nL ret) {x y : UInt64} (hdg : DC cc pc (.dmul) 1 nxt) (hne : vf_n64 (FP.dmul x y)) (K : WS p l e R s m args below meth c G A nL cells slots Q nxt lv (.inl (.double (FP.dmul x y)) :: st) S) : WS p l e R s m args below meth c G A nL cells slots Q pc lv (.inl (.double y) :: .inl (.double x) :: st) S := by
  obtain ⟨h1, rfl⟩ := hdg
  exact fun H locs ls hP hD hS hl => lv_dmul X.1 X.2.1 h1 hne (K H locs ls hP hD hS hl)
theorem ws_ddiv (X : CX p s m args meth c G A cc own nL ret) {x y : UInt64} (hdg : DC cc pc (.ddiv) 1 nxt) (hne : vf_n64 (FP.ddiv x y)) (K : WS p l e R s m args below meth c G A nL cells slots Q nxt lv (.inl (.double (FP.ddiv x y)) :: st) S) : WS p l e R s m args below meth c G A nL cells slots Q pc lv (.inl (.double y) :: .inl (.double x) :: st) S := by
  obtain ⟨h1, rfl⟩ := hdg
  exact fun H locs ls hP hD hS hl => lv_ddiv X.1 X.2.1 h1 hne (K H locs ls hP hD hS hl)
theorem ws_dcmp (X : CX p s m args meth c G A cc own nL ret) {x y : UInt64} {op : CmpOp} (hdg : DC cc pc (.dcmp op) 1 nxt) (K : WS p l e R s m args below meth c G A nL cells slots Q nxt lv (.inl (.int (Op.cmpValue (FP.dcmp x y) op)) :: st) S) : WS p l e R s m args below meth c G A nL cells slots Q pc lv (.inl (.double y) :: .inl (.double x) :: st) S := by
  obtain ⟨h1, rfl⟩ := hdg
  exact fun H locs ls hP hD hS hl => lv_dcmp X.1 X.2.1 h1 (K H locs ls hP hD hS hl)
theorem ws_i2d (X : CX p s m args meth c G A cc own nL ret) {x : Int32} (hdg : DC cc pc (.i2d) 1 nxt) (K : WS p l e R s m args below meth c G A nL cells slots Q nxt lv (.inl (.double (FP.i2d x)) :: st) S) : WS p l e R s m args below meth c G A nL cells slots Q pc lv (.inl (.int x) :: st) S := by
  obtain ⟨h1, rfl⟩ := hdg
  exact fun H locs ls hP hD hS hl => lv_i2d X.1 X.2.1 h1 (K H locs ls hP hD hS hl)
theorem ws_l2d (X : CX p s m args meth c G A cc own nL ret) {x : Int64} (hdg : DC cc pc (.l2d) 1 nxt) (K : WS p l e R s m args below meth c G A nL cells slots Q nxt lv (.inl (.double (FP.l2d x)) :: st) S) : WS p l e R s m args below meth c G A nL cells slots Q pc lv (.inl (.long x) :: st) S := by
  obtain ⟨h1, rfl⟩ := hdg
  exact fun H locs ls hP hD hS hl => lv_l2d X.1 X.2.1 h1 (K H locs ls hP hD hS hl)
theorem ws_d2i (X : CX p s m args meth c G A cc own nL ret) {x : UInt64} (hdg : DC cc pc (.d2i) 1 nxt) (K : WS p l e R s m args below meth c G A nL cells slots Q nxt lv (.inl (.int (FP.d2i x)) :: st) S) : WS p l e R s m args below meth c G A nL cells slots Q pc lv (.inl (.double x) :: st) S := by
  obtain ⟨h1, rfl⟩ := hdg
  exact fun H locs ls hP hD hS hl => lv_d2i X.1 X.2.1 h1 (K H locs ls hP hD hS hl)
theorem ws_d2l (X : CX p s m args meth c G A cc own nL ret) {x : UInt64} (hdg : DC cc pc (.d2l) 1 nxt) (K : WS p l e R s m args below meth c G A nL cells slots Q nxt lv (.inl (.long (FP.d2l x)) :: st) S) : WS p l e R s m args below meth c G A nL cells slots Q pc lv (.inl (.double x) :: st) S := by
  obtain ⟨h1, rfl⟩ := hdg
  exact fun H locs ls hP hD hS hl => lv_d2l X.1 X.2.1 h1 (K H locs ls hP hD hS hl)
theorem ws_dup (X : CX p s m args meth c G A cc own nL ret) {v : MV} (hdg : DC cc pc (.dup) 1 nxt) (hc : mcat v = 1) (K : WS p l e R s m args below meth c G A nL cells slots Q nxt lv (v :: v :: st) S) : WS p l e R s m args below meth c G A nL cells slots Q pc lv (v :: st) S := by
  obtain ⟨h1, rfl⟩ := hdg
  exact fun H locs ls hP hD hS hl => lv_dup X.1 X.2.1 h1 ((tr_cat G v).trans hc) (K H locs ls hP hD hS hl)
theorem ws_pop (X : CX p s m args meth c G A cc own nL ret) {v : MV} (hdg : DC cc pc (.pop) 1 nxt) (hc : mcat v = 1) (K : WS p l e R s m args below meth c G A nL cells slots Q nxt lv (st) S) : WS p l e R s m args below meth c G A nL cells slots Q pc lv (v :: st) S := by
  obtain ⟨h1, rfl⟩ := hdg
  exact fun H locs ls hP hD hS hl => lv_pop X.1 X.2.1 h1 ((tr_cat G v).trans hc) (K H locs ls hP hD hS hl)
theorem ws_dup2_11 (X : CX p s m args meth c G A cc own nL ret) {v u : MV} (hdg : DC cc pc (.dup2) 1 nxt) (hc : mcat v = 1) (hc2 : mcat u = 1) (K : WS p l e R s m args below meth c G A nL cells slots Q nxt lv (v :: u :: v :: u :: st) S) : WS p l e R s m args below meth c G A nL cells slots Q pc lv (v :: u :: st) S := by
  obtain ⟨h1, rfl⟩ := hdg
  exact fun H locs ls hP hD hS hl => lv_dup2_11 X.1 X.2.1 h1 ((tr_cat G v).trans hc) ((tr_cat G u).trans hc2) (K H locs ls hP hD hS hl)
theorem ws_dup2_2 (X : CX p s m args meth c G A cc own nL ret) {v : MV} (hdg : DC cc pc (.dup2) 1 nxt) (hc : mcat v = 2) (K : WS p l e R s m args below meth c G A nL cells slots Q nxt lv (v :: v :: st) S) : WS p l e R s m args below meth c G A nL cells slots Q pc lv (v :: st) S := by
  obtain ⟨h1, rfl⟩ := hdg
  exact fun H locs ls hP hD hS hl => lv_dup2_2 X.1 X.2.1 h1 ((tr_cat G v).trans hc) (K H locs ls hP hD hS hl)
theorem ws_pop2_2 (X : CX p s m args meth c G A cc own nL ret) {v : MV} (hdg : DC cc pc (.pop2) 1 nxt) (hc : mcat v = 2) (K : WS p l e R s m args below meth c G A nL cells slots Q nxt lv (st) S) : WS p l e R s m args below meth c G A nL cells slots Q pc lv (v :: st) S := by
  obtain ⟨h1, rfl⟩ := hdg
  exact fun H locs ls hP hD hS hl => lv_pop2_2 X.1 X.2.1 h1 ((tr_cat G v).trans hc) (K H locs ls hP hD hS hl)
theorem ws_if_eq (X : CX p s m args meth c G A cc own nL ret) {x : Int32} (hdg : DB cc pc (.ifCond .eq off) off nxt tgt) (Kt : x = 0 → WS p l e R s m args below meth c G A nL cells slots Q tgt lv st S) (Kf : ¬ (x = 0) → WS p l e R s m args below meth c G A nL cells slots Q nxt lv st S) : WS p l e R s m args below meth c G A nL cells slots Q pc lv (.inl (.int x) :: st) S := by
  obtain ⟨h1, rfl, h3⟩ := hdg
  exact fun H locs ls hP hD hS hl => lv_if_eq X.1 X.2.1 h1 h3 (fun h => Kt h H locs ls hP hD hS hl) (fun h => Kf h H locs ls hP hD hS hl)
theorem ws_icmp_eq (X : CX p s m args meth c G A cc own nL ret) {x y : Int32} (hdg : DB cc pc (.if_icmp .eq off) off nxt tgt) (Kt : x = y → WS p l e R s m args below meth c G A nL cells slots Q tgt lv st S) (Kf : ¬ (x = y) → WS p l e R s m args below meth c G A nL cells slots Q nxt lv st S) : WS p l e R s m args below meth c G A nL cells slots Q pc lv (.inl (.int y) :: .inl (.int x) :: st) S := by
  obtain ⟨h1, rfl, h3⟩ := hdg
  exact fun H locs ls hP hD hS hl => lv_icmp_eq X.1 X.2.1 h1 h3 (fun h => Kt h H locs ls hP hD hS hl) (fun h => Kf h H locs ls hP hD hS hl)
theorem ws_if_ne (X : CX p s m args meth c G A cc own nL ret) {x : Int32} (hdg : DB cc pc (.ifCond .ne off) off nxt tgt) (Kt : ¬ x = 0 → WS p l e R s m args below meth c G A nL cells slots Q tgt lv st S) (Kf : x = 0 → WS p l e R s m args below meth c G A nL cells slots Q nxt lv st S) : WS p l e R s m args below meth c G A nL cells slots Q pc lv (.inl (.int x) :: st) S := by
  obtain ⟨h1, rfl, h3⟩ := hdg
  exact fun H locs ls hP hD hS hl => lv_if_ne X.1 X.2.1 h1 h3 (fun h => Kt h H locs ls hP hD hS hl) (fun h => Kf h H locs ls hP hD hS hl)
theorem ws_icmp_ne (X : CX p s m args meth c G A cc own nL ret) {x y : Int32} (hdg : DB cc pc (.if_icmp .ne off) off nxt tgt) (Kt : ¬ x = y → WS p l e R s m args below meth c G A nL cells slots Q tgt lv st S) (Kf : x = y → WS p l e R s m args below meth c G A nL cells slots Q nxt lv st S) : WS p l e R s m args below meth c G A nL cells slots Q pc lv (.inl (.int y) :: .inl (.int x) :: st) S := by
  obtain ⟨h1, rfl, h3⟩ := hdg
  exact fun H locs ls hP hD hS hl => lv_icmp_ne X.1 X.2.1 h1 h3 (fun h => Kt h H locs ls hP hD hS hl) (fun h => Kf h H locs ls hP hD hS hl)
theorem ws_if_lt (X : CX p s m args meth c G A cc own nL ret) {x : Int32} (hdg : DB cc pc (.ifCond .lt off) off nxt tgt) (Kt : x < 0 → WS p l e R s m args below meth c G A nL cells slots Q tgt lv st S) (Kf : ¬ (x < 0) → WS p l e R s m args below meth c G A nL cells slots Q nxt lv st S) : WS p l e R s m args below meth c G A nL cells slots Q pc lv (.inl (.int x) :: st) S := by
  obtain ⟨h1, rfl, h3⟩ := hdg
  exact fun H locs ls hP hD hS hl => lv_if_lt X.1 X.2.1 h1 h3 (fun h => Kt h H locs ls hP hD hS hl) (fun h => Kf h H locs ls hP hD hS hl)
theorem ws_icmp_lt (X : CX p s m args meth c G A cc own nL ret) {x y : Int32} (hdg : DB cc pc (.if_icmp .lt off) off nxt tgt) (Kt : x < y → WS p l e R s m args below meth c G A nL cells slots Q tgt lv st S) (Kf : ¬ (x < y) → WS p l e R s m args below meth c G A nL cells slots Q nxt lv st S) : WS p l e R s m args below meth c G A nL cells slots Q pc lv (.inl (.int y) :: .inl (.int x) :: st) S := by
  obtain ⟨h1, rfl, h3⟩ := hdg
  exact fun H locs ls hP hD hS hl => lv_icmp_lt X.1 X.2.1 h1 h3 (fun h => Kt h H locs ls hP hD hS hl) (fun h => Kf h H locs ls hP hD hS hl)
theorem ws_if_ge (X : CX p s m args meth c G A cc own nL ret) {x : Int32} (hdg : DB cc pc (.ifCond .ge off) off nxt tgt) (Kt : 0 ≤ x → WS p l e R s m args below meth c G A nL cells slots Q tgt lv st S) (Kf : ¬ (0 ≤ x) → WS p l e R s m args below meth c G A nL cells slots Q nxt lv st S) : WS p l e R s m args below meth c G A nL cells slots Q pc lv (.inl (.int x) :: st) S := by
  obtain ⟨h1, rfl, h3⟩ := hdg
  exact fun H locs ls hP hD hS hl => lv_if_ge X.1 X.2.1 h1 h3 (fun h => Kt h H locs ls hP hD hS hl) (fun h => Kf h H locs ls hP hD hS hl)
theorem ws_icmp_ge (X : CX p s m args meth c G A cc own nL ret) {x y : Int32} (hdg : DB cc pc (.if_icmp .ge off) off nxt tgt) (Kt : y ≤ x → WS p l e R s m args below meth c G A nL cells slots Q tgt lv st S) (Kf : ¬ (y ≤ x) → WS p l e R s m args below meth c G A nL cells slots Q nxt lv st S) : WS p l e R s m args below meth c G A nL cells slots Q pc lv (.inl (.int y) :: .inl (.int x) :: st) S := by
  obtain ⟨h1, rfl, h3⟩ := hdg
  exact fun H locs ls hP hD hS hl => lv_icmp_ge X.1 X.2.1 h1 h3 (fun h => Kt h H locs ls hP hD hS hl) (fun h => Kf h H locs ls hP hD hS hl)
theorem ws_if_gt (X : CX p s m args meth c G A cc own nL ret) {x : Int32} (hdg : DB cc pc (.ifCond .gt off) off nxt tgt) (Kt : 0 < x → WS p l e R s m args below meth c G A nL cells slots Q tgt lv st S) (Kf : ¬ (0 < x) → WS p l e R s m args below meth c G A nL cells slots Q nxt lv st S) : WS p l e R s m args below meth c G A nL cells slots Q pc lv (.inl (.int x) :: st) S := by
  obtain ⟨h1, rfl, h3⟩ := hdg
  exact fun H locs ls hP hD hS hl => lv_if_gt X.1 X.2.1 h1 h3 (fun h => Kt h H locs ls hP hD hS hl) (fun h => Kf h H locs ls hP hD hS hl)
theorem ws_icmp_gt (X : CX p s m args meth c G A cc own nL ret) {x y : Int32} (hdg : DB cc pc (.if_icmp .gt off) off nxt tgt) (Kt : y < x → WS p l e R s m args below meth c G A nL cells slots Q tgt lv st S) (Kf : ¬ (y < x) → WS p l e R s m args below meth c G A nL cells slots Q nxt lv st S) : WS p l e R s m args below meth c G A nL cells slots Q pc lv (.inl (.int y) :: .inl (.int x) :: st) S := by
  obtain ⟨h1, rfl, h3⟩ := hdg
  exact fun H locs ls hP hD hS hl => lv_icmp_gt X.1 X.2.1 h1 h3 (fun h => Kt h H locs ls hP hD hS hl) (fun h => Kf h H locs ls hP hD hS hl)
theorem ws_if_le (X : CX p s m args meth c G A cc own nL ret) {x : Int32} (hdg : DB cc pc (.ifCond .le off) off nxt tgt) (Kt : x ≤ 0 → WS p l e R s m args below meth c G A nL cells slots Q tgt lv st S) (Kf : ¬ (x ≤ 0) → WS p l e R s m args below meth c G A nL cells slots Q nxt lv st S) : WS p l e R s m args below meth c G A nL cells slots Q pc lv (.inl (.int x) :: st) S := by
  obtain ⟨h1, rfl, h3⟩ := hdg
  exact fun H locs ls hP hD hS hl => lv_if_le X.1 X.2.1 h1 h3 (fun h => Kt h H locs ls hP hD hS hl) (fun h => Kf h H locs ls hP hD hS hl)
theorem ws_icmp_le (X : CX p s m args meth c G A cc own nL ret) {x y : Int32} (hdg : DB cc pc (.if_icmp .le off) off nxt tgt) (Kt : x ≤ y → WS p l e R s m args below meth c G A nL cells slots Q tgt lv st S) (Kf : ¬ (x ≤ y) → WS p l e R s m args below meth c G A nL cells slots Q nxt lv st S) : WS p l e R s m args below meth c G A nL cells slots Q pc lv (.inl (.int y) :: .inl (.int x) :: st) S := by
  obtain ⟨h1, rfl, h3⟩ := hdg
  exact fun H locs ls hP hD hS hl => lv_icmp_le X.1 X.2.1 h1 h3 (fun h => Kt h H locs ls hP hD hS hl) (fun h => Kf h H locs ls hP hD hS hl)
theorem ws_goto (X : CX p s m args meth c G A cc own nL ret) (hdg : DB cc pc (.goto off) off nxt tgt) (K : WS p l e R s m args below meth c G A nL cells slots Q tgt lv st S) : WS p l e R s m args below meth c G A nL cells slots Q pc lv st S := by
  obtain ⟨h1, rfl, h3⟩ := hdg
  exact fun H locs ls hP hD hS hl => lv_goto X.1 X.2.1 h1 h3 (K H locs ls hP hD hS hl)
theorem ws_ifnull_r (X : CX p s m args meth c G A cc own nL ret) {x : Nat × Nat} (hdg : DB cc pc (.ifnull off) off nxt tgt) (K : WS p l e R s m args below meth c G A nL cells slots Q nxt lv st S) : WS p l e R s m args below meth c G A nL cells slots Q pc lv (.inr x :: st) S := by
  obtain ⟨h1, rfl, h3⟩ := hdg
  exact fun H locs ls hP hD hS hl => lv_ifnull X.1 X.2.1 h1 (K H locs ls hP hD hS hl)
theorem ws_ifnull_n (X : CX p s m args meth c G A cc own nL ret) (hdg : DB cc pc (.ifnull off) off nxt tgt) (K : WS p l e R s m args below meth c G A nL cells slots Q tgt lv st S) : WS p l e R s m args below meth c G A nL cells slots Q pc lv (.inl .null :: st) S := by
  obtain ⟨h1, rfl, h3⟩ := hdg
  exact fun H locs ls hP hD hS hl => lv_ifnullN X.1 X.2.1 h1 h3 (K H locs ls hP hD hS hl)
theorem ws_ifnonnull_r (X : CX p s m args meth c G A cc own nL ret) {x : Nat × Nat} (hdg : DB cc pc (.ifnonnull off) off nxt tgt) (K : WS p l e R s m args below meth c G A nL cells slots Q tgt lv st S) : WS p l e R s m args below meth c G A nL cells slots Q pc lv (.inr x :: st) S := by
  obtain ⟨h1, rfl, h3⟩ := hdg
  exact fun H locs ls hP hD hS hl => lv_ifnonnull X.1 X.2.1 h1 h3 (K H locs ls hP hD hS hl)
theorem ws_ifnonnull_n (X : CX p s m args meth c G A cc own nL ret) (hdg : DB cc pc (.ifnonnull off) off nxt tgt) (K : WS p l e R s m args below meth c G A nL cells slots Q nxt lv st S) : WS p l e R s m args below meth c G A nL cells slots Q pc lv (.inl .null :: st) S := by
  obtain ⟨h1, rfl, h3⟩ := hdg
  exact fun H locs ls hP hD hS hl => lv_ifnonnullN X.1 X.2.1 h1 (K H locs ls hP hD hS hl)
theorem lgc_lt (x y : Int64) : lg_cmp x y < 0 ↔ x < y := by
  unfold lg_cmp
  by_cases h1 : y < x
  · have : ¬ x < y := fun h => absurd (Int64.lt_trans h h1) (Int64.lt_irrefl)
    simp [h1, this]
  · by_cases h2 : x = y
    · subst h2; simp
    · have : x < y := by
        rcases Int64.lt_or_le x y with h | h
        · exact h
        · rcases Int64.lt_or_eq_of_le h with h3 | h3
          · exact absurd h3 h1
          · exact absurd h3.symm h2
      simp [h1, this, h2]
theorem lgc_eq (x y : Int64) : lg_cmp x y = 0 ↔ x = y := by
  unfold lg_cmp
  by_cases h1 : y < x
  · have : ¬ x = y := fun h => absurd (h ▸ h1) (Int64.lt_irrefl)
    simp [h1, this]
  · by_cases h2 : x = y
    · subst h2; simp
    · simp [h1, h2]
theorem lgc_gt (x y : Int64) : 0 < lg_cmp x y ↔ y < x := by
  unfold lg_cmp
  by_cases h1 : y < x
  · simp [h1]
  · by_cases h2 : x = y
    · subst h2; simp
    · simp [h1, h2]
theorem lgc_le (x y : Int64) : lg_cmp x y ≤ 0 ↔ x ≤ y := by
  rw [← Int32.not_lt, lgc_gt, Int64.not_lt]
theorem lgc_ge (x y : Int64) : 0 ≤ lg_cmp x y ↔ y ≤ x := by
  rw [← Int32.not_lt, lgc_lt, Int64.not_lt]
theorem ws_lcmp_eq (X : CX p s m args meth c G A cc own nL ret) {x y : Int64} {mid : Nat} (hd0 : DC cc pc .lcmp 1 mid) (hdg : DB cc mid (.ifCond .eq off) off nxt tgt) (Kt : x = y → WS p l e R s m args below meth c G A nL cells slots Q tgt lv st S) (Kf : ¬ (x = y) → WS p l e R s m args below meth c G A nL cells slots Q nxt lv st S) : WS p l e R s m args below meth c G A nL cells slots Q pc lv (.inl (.long y) :: .inl (.long x) :: st) S := by
  exact ws_lcmp X hd0 (ws_if_eq X hdg (fun h => Kt ((lgc_eq x y).mp h)) (fun h => Kf (fun z => h ((lgc_eq x y).mpr z))))
theorem ws_lcmp_ne (X : CX p s m args meth c G A cc own nL ret) {x y : Int64} {mid : Nat} (hd0 : DC cc pc .lcmp 1 mid) (hdg : DB cc mid (.ifCond .ne off) off nxt tgt) (Kt : ¬ x = y → WS p l e R s m args below meth c G A nL cells slots Q tgt lv st S) (Kf : x = y → WS p l e R s m args below meth c G A nL cells slots Q nxt lv st S) : WS p l e R s m args below meth c G A nL cells slots Q pc lv (.inl (.long y) :: .inl (.long x) :: st) S := by
  exact ws_lcmp X hd0 (ws_if_ne X hdg (fun h => Kt (fun z => h ((lgc_eq x y).mpr z))) (fun h => Kf ((lgc_eq x y).mp h)))
theorem ws_lcmp_lt (X : CX p s m args meth c G A cc own nL ret) {x y : Int64} {mid : Nat} (hd0 : DC cc pc .lcmp 1 mid) (hdg : DB cc mid (.ifCond .lt off) off nxt tgt) (Kt : x < y → WS p l e R s m args below meth c G A nL cells slots Q tgt lv st S) (Kf : ¬ (x < y) → WS p l e R s m args below meth c G A nL cells slots Q nxt lv st S) : WS p l e R s m args below meth c G A nL cells slots Q pc lv (.inl (.long y) :: .inl (.long x) :: st) S := by
  exact ws_lcmp X hd0 (ws_if_lt X hdg (fun h => Kt ((lgc_lt x y).mp h)) (fun h => Kf (fun z => h ((lgc_lt x y).mpr z))))
theorem ws_lcmp_ge (X : CX p s m args meth c G A cc own nL ret) {x y : Int64} {mid : Nat} (hd0 : DC cc pc .lcmp 1 mid) (hdg : DB cc mid (.ifCond .ge off) off nxt tgt) (Kt : y ≤ x → WS p l e R s m args below meth c G A nL cells slots Q tgt lv st S) (Kf : ¬ (y ≤ x) → WS p l e R s m args below meth c G A nL cells slots Q nxt lv st S) : WS p l e R s m args below meth c G A nL cells slots Q pc lv (.inl (.long y) :: .inl (.long x) :: st) S := by
  exact ws_lcmp X hd0 (ws_if_ge X hdg (fun h => Kt ((lgc_ge x y).mp h)) (fun h => Kf (fun z => h ((lgc_ge x y).mpr z))))
theorem ws_lcmp_gt (X : CX p s m args meth c G A cc own nL ret) {x y : Int64} {mid : Nat} (hd0 : DC cc pc .lcmp 1 mid) (hdg : DB cc mid (.ifCond .gt off) off nxt tgt) (Kt : y < x → WS p l e R s m args below meth c G A nL cells slots Q tgt lv st S) (Kf : ¬ (y < x) → WS p l e R s m args below meth c G A nL cells slots Q nxt lv st S) : WS p l e R s m args below meth c G A nL cells slots Q pc lv (.inl (.long y) :: .inl (.long x) :: st) S := by
  exact ws_lcmp X hd0 (ws_if_gt X hdg (fun h => Kt ((lgc_gt x y).mp h)) (fun h => Kf (fun z => h ((lgc_gt x y).mpr z))))
theorem ws_lcmp_le (X : CX p s m args meth c G A cc own nL ret) {x y : Int64} {mid : Nat} (hd0 : DC cc pc .lcmp 1 mid) (hdg : DB cc mid (.ifCond .le off) off nxt tgt) (Kt : x ≤ y → WS p l e R s m args below meth c G A nL cells slots Q tgt lv st S) (Kf : ¬ (x ≤ y) → WS p l e R s m args below meth c G A nL cells slots Q nxt lv st S) : WS p l e R s m args below meth c G A nL cells slots Q pc lv (.inl (.long y) :: .inl (.long x) :: st) S := by
  exact ws_lcmp X hd0 (ws_if_le X hdg (fun h => Kt ((lgc_le x y).mp h)) (fun h => Kf (fun z => h ((lgc_le x y).mpr z))))
end WSR
end
section
/-! fields, arrays, static rows, calls, ends: over the world as one value -/
/-- field number idx of the class own's file is slot sl of kind k: its tag, target, type, whether it is final -/
def FLk (own : String) (idx k sl tg tk : Nat) (ty : FieldType) (fin : Bool) : Prop := ∃ (C : String) (T : u_T) (N : Nat) (ty0 : Nat → FieldType), clsL[k]? = some (C, T, N) ∧ sl < N ∧ N = nF k ∧ fTy k sl = (tg, tk) ∧ parseFieldDescriptor (T sl).2.2.1 = some ty ∧ (T sl).2.2.2 = fin ∧ (∀ j, j < N → parseFieldDescriptor (T j).2.2.1 = some (ty0 j)) ∧ (∀ a, a < N → ∀ b, b < N → a ≠ b → (T a).2.1 ≠ (T b).2.1) ∧ (Cond.fieldLink own idx (T sl).1 (T sl).2.1 (T sl).2.2.1 ∈ lw_gd ∨ ∃ h : String, Cond.fieldLinkNest own idx (T sl).1 (T sl).2.1 (T sl).2.2.1 h ∈ lw_ns)
theorem cls_lt {k : Nat} {q : vw_C} (h : clsL[k]? = some q) : k < 9 := (List.getElem?_eq_some_iff.mp h).1
theorem cel_obj {G : GG} {S : MS} {k i : Nat} (h : k < 9) : cel G S k i = .inr (k, (List.range (nF k)).map (fv G S k i)) := if_pos h
theorem cel_arr {G : GG} {S : MS} {k i : Nat} (h : ¬ k < 9) : cel G S k i = .inl (G.1 k i, acel G S k i) := if_neg h
theorem set_map_range {f g : Nat → Value} {n sl : Nat} {v : Value} (hg : g sl = v) (ho : ∀ j, j ≠ sl → g j = f j) : ((List.range n).map f).set sl v = (List.range n).map g := by
  apply List.ext_getElem?
  intro j
  by_cases hj : j = sl
  · subst hj
    by_cases hn : j < n
    · rw [List.getElem?_set_self (by simpa using hn), List.getElem?_map, List.getElem?_range hn, Option.map_some, hg]
    · rw [List.getElem?_eq_none (by simp; omega), List.getElem?_eq_none (by simp; omega)]
  · rw [List.getElem?_set_ne (Ne.symm hj), List.getElem?_map, List.getElem?_map]
    cases hr : (List.range n)[j]? with
    | none => rfl
    | some z =>
      have : z = j := by
        obtain ⟨h1, h2⟩ := List.getElem?_eq_some_iff.mp hr
        simpa using h2.symm
      subst this
      show some (f z) = some (g z)
      rw [ho z hj]
/-- two contents that tell the same of a cell -/
theorem cel_same {G : GG} {S S' : MS} {k i : Nat} (h1 : S'.1 k i = S.1 k i) (h2 : S'.2.1 k i = S.2.1 k i) (h3 : S'.2.2 k i = S.2.2 k i) : cel G S' k i = cel G S k i := by
  have e1 : fv G S' k i = fv G S k i := by
    funext s
    unfold fv
    rw [h1, h2]
  have e2 : acel G S' k i = acel G S k i := by
    unfold acel
    rw [h1, h2, h3]
  unfold cel
  rw [e1, e2]
theorem ne_pair {a b k i : Nat} (h : (a, b) ≠ (k, i)) : ¬ (a = k ∧ b = i) := fun z => h (by rw [z.1, z.2])
theorem wI_off {S : MS} {k i j a b : Nat} {v : Int32} (h : (a, b) ≠ (k, i)) : (wI S k i j v).1 a b = S.1 a b := by
  funext c
  show (if a = k ∧ b = i ∧ c = j then v else S.1 a b c) = S.1 a b c
  rw [if_neg (fun z => ne_pair h ⟨z.1, z.2.1⟩)]
theorem wL_off {S : MS} {k i j a b : Nat} {v : Int64} (h : (a, b) ≠ (k, i)) : (wL S k i j v).2.1 a b = S.2.1 a b := by
  funext c
  show (if a = k ∧ b = i ∧ c = j then v else S.2.1 a b c) = S.2.1 a b c
  rw [if_neg (fun z => ne_pair h ⟨z.1, z.2.1⟩)]
theorem wD_off {S : MS} {k i j a b : Nat} {v : UInt64} (h : (a, b) ≠ (k, i)) : (wD S k i j v).2.2 a b = S.2.2 a b := by
  funext c
  show (if a = k ∧ b = i ∧ c = j then v else S.2.2 a b c) = S.2.2 a b c
  rw [if_neg (fun z => ne_pair h ⟨z.1, z.2.1⟩)]
theorem wI_at (S : MS) (k i j : Nat) (v : Int32) (c : Nat) : (wI S k i j v).1 k i c = if c = j then v else S.1 k i c := by
  show (if k = k ∧ i = i ∧ c = j then v else S.1 k i c) = _
  simp
theorem wL_at (S : MS) (k i j : Nat) (v : Int64) (c : Nat) : (wL S k i j v).2.1 k i c = if c = j then v else S.2.1 k i c := by
  show (if k = k ∧ i = i ∧ c = j then v else S.2.1 k i c) = _
  simp
theorem wD_at (S : MS) (k i j : Nat) (v : UInt64) (c : Nat) : (wD S k i j v).2.2 k i c = if c = j then v else S.2.2 k i c := by
  show (if k = k ∧ i = i ∧ c = j then v else S.2.2 k i c) = _
  simp
theorem set_objI {G : GG} {S : MS} {q k i sl : Nat} {x : Int32} (hq : objs[q]? = some (k, i)) (hk : k < 9) (hT : (fTy k sl).1 = 0 ∨ (fTy k sl).1 = 3) : (wld G S).set q (G.2.1 k i, .inr (k, ((List.range (nF k)).map (fv G S k i)).set sl (.int x))) = wld G (wI S k i sl x) := by
  refine wld_set hq ?_ (fun a b h => cel_same (wI_off h) rfl rfl)
  rw [cel_obj hk, set_map_range (g := fv G (wI S k i sl x) k i)]
  · unfold fv
    rcases hT with h | h <;> simp only [h, wI_at, if_true]
  · intro j hj
    unfold fv
    simp only [wI_at, if_neg hj]
    rfl
theorem set_objL {G : GG} {S : MS} {q k i sl : Nat} {x : Int64} (hq : objs[q]? = some (k, i)) (hk : k < 9) (hT : (fTy k sl).1 = 1) : (wld G S).set q (G.2.1 k i, .inr (k, ((List.range (nF k)).map (fv G S k i)).set sl (.long x))) = wld G (wL S k i sl x) := by
  refine wld_set hq ?_ (fun a b h => cel_same rfl (wL_off h) rfl)
  rw [cel_obj hk, set_map_range (g := fv G (wL S k i sl x) k i)]
  · unfold fv
    simp only [hT, wL_at, if_true]
  · intro j hj
    unfold fv
    simp only [wL_at, if_neg hj]
    rfl
theorem set_arrI {G : GG} {S : MS} {q k i n j : Nat} {x : Int32} (hq : objs[q]? = some (k, i)) (hk : ¬ k < 9) (hT : aTy k = (0, n) ∨ aTy k = (1, n)) : (wld G S).set q (G.2.1 k i, .inl (G.1 k i, n, .inl (upd (S.1 k i) j x))) = wld G (wI S k i j x) := by
  refine wld_set hq ?_ (fun a b h => cel_same (wI_off h) rfl rfl)
  have e : (wI S k i j x).1 k i = upd (S.1 k i) j x := by
    funext c
    rw [wI_at]; rfl
  rw [cel_arr hk, acel, e]
  rcases hT with h | h <;> simp only [h]
theorem set_arrL {G : GG} {S : MS} {q k i n j : Nat} {x : Int64} (hq : objs[q]? = some (k, i)) (hk : ¬ k < 9) (hT : aTy k = (2, n)) : (wld G S).set q (G.2.1 k i, .inl (G.1 k i, n, .inr (.inl (vp_updL (S.2.1 k i) j x)))) = wld G (wL S k i j x) := by
  refine wld_set hq ?_ (fun a b h => cel_same rfl (wL_off h) rfl)
  have e : (wL S k i j x).2.1 k i = vp_updL (S.2.1 k i) j x := by
    funext c
    rw [wL_at]; rfl
  rw [cel_arr hk, acel, e]
  simp only [hT]
theorem set_arrD {G : GG} {S : MS} {q k i n j : Nat} {x : UInt64} (hq : objs[q]? = some (k, i)) (hk : ¬ k < 9) (hT : aTy k = (3, n)) : (wld G S).set q (G.2.1 k i, .inl (G.1 k i, n, .inr (.inr (.inr (.inl (vf_upd (S.2.2 k i) j x)))))) = wld G (wD S k i j x) := by
  refine wld_set hq ?_ (fun a b h => cel_same rfl rfl (wD_off h))
  have e : (wD S k i j x).2.2 k i = vf_upd (S.2.2 k i) j x := by
    funext c
    rw [wD_at]; rfl
  rw [cel_arr hk, acel, e]
  simp only [hT]
theorem fs_at {G : GG} {S : MS} {k i sl : Nat} (h : sl < nF k) : ((List.range (nF k)).map (fv G S k i))[sl]? = some (fv G S k i sl) := by
  rw [List.getElem?_map, List.getElem?_range h]; rfl
section WSH
variable {p : Program} {l : Launch} {e : Env} {R : Room} {s : State} {m : MethodId} {args : Array Value} {below : List Frame} {meth : Method} {c : Code} {G : GG} {A : Nat → Prop} {cells slots : Nat} {Q : State → Prop} {cc : ByteArray} {own : String} {nL : Nat} {ret : Option FieldType}
variable {pc nxt tgt : Nat} {lv : List (Option MV)} {st : List MV} {S : MS} {off : Int} {k i sl tg tk idx : Nat} {ty : FieldType} {fin : Bool}
theorem ws_get0 (X : CX p s m args meth c G A cc own nL ret) {v : MV} (hF : FLk own idx k sl tg tk ty fin) (ho : (k, i) ∈ objs) (hdg : DC cc pc (.getfield idx) 3 nxt) (hv : ∀ G' : GG, fv G' S k i sl = tr G' v) (K : WS p l e R s m args below meth c G A nL cells slots Q nxt lv (v :: st) S) : WS p l e R s m args below meth c G A nL cells slots Q pc lv (.inr (k, i) :: st) S := by
  obtain ⟨h1, rfl⟩ := hdg
  obtain ⟨C, T, N, ty0, hc, hs, hN, hT, hd, hfin, hty, hnm, hlk⟩ := hF
  obtain ⟨q, hq⟩ := wld_has ho
  intro H locs ls hP hD hS hl
  have he : (wld G S)[q]? = some (G.2.1 k i, .inr (k, (List.range (nF k)).map (fv G S k i))) := by rw [wld_get hq, cel_obj (cls_lt hc)]
  have hin : ∀ w ∈ u_ws C T N, w ∈ lw_gd := cls_in (C, T, N) (List.mem_of_getElem? hc)
  have hvv : ((List.range (nF k)).map (fv G S k i))[sl]? = some (tr G v) := by rw [fs_at (by omega), hv G]
  rcases hlk with hlk | ⟨h, hlk⟩
  · exact va_get X.1 X.2.1 X.2.2.2.2.1 hin X.2.2.2.1 X.2.2.2.2.2.1 hP q he hc sl hs (X.2.2.2.2.1 _ hlk) (fun _ z => z) hvv h1 (K H locs ls hP hD hS hl)
  · exact va_getN X.1 X.2.1 X.2.2.2.2.1 hin X.2.2.2.1 X.2.2.2.2.2.1 hP q he hc sl hs (va_Nw.use rfl (X.2.2.2.2.2.2.2.1.2 _ hlk)) (fun _ z => z) hvv h1 (K H locs ls hP hD hS hl)
theorem ws_getI (X : CX p s m args meth c G A cc own nL ret) (hF : FLk own idx k sl 0 0 ty fin) (ho : (k, i) ∈ objs) (hdg : DC cc pc (.getfield idx) 3 nxt) (K : WS p l e R s m args below meth c G A nL cells slots Q nxt lv (.inl (.int (S.1 k i sl)) :: st) S) : WS p l e R s m args below meth c G A nL cells slots Q pc lv (.inr (k, i) :: st) S := by
  refine ws_get0 X hF ho hdg (fun G' => ?_) K
  obtain ⟨C, T, N, ty0, hc, hs, hN, hT, -⟩ := hF
  simp only [fv, hT]; rfl
theorem ws_getZ (X : CX p s m args meth c G A cc own nL ret) (hF : FLk own idx k sl 3 0 ty fin) (ho : (k, i) ∈ objs) (hdg : DC cc pc (.getfield idx) 3 nxt) (K : WS p l e R s m args below meth c G A nL cells slots Q nxt lv (.inl (.int (S.1 k i sl)) :: st) S) : WS p l e R s m args below meth c G A nL cells slots Q pc lv (.inr (k, i) :: st) S := by
  refine ws_get0 X hF ho hdg (fun G' => ?_) K
  obtain ⟨C, T, N, ty0, hc, hs, hN, hT, -⟩ := hF
  simp only [fv, hT]; rfl
theorem ws_getL (X : CX p s m args meth c G A cc own nL ret) (hF : FLk own idx k sl 1 0 ty fin) (ho : (k, i) ∈ objs) (hdg : DC cc pc (.getfield idx) 3 nxt) (K : WS p l e R s m args below meth c G A nL cells slots Q nxt lv (.inl (.long (S.2.1 k i sl)) :: st) S) : WS p l e R s m args below meth c G A nL cells slots Q pc lv (.inr (k, i) :: st) S := by
  refine ws_get0 X hF ho hdg (fun G' => ?_) K
  obtain ⟨C, T, N, ty0, hc, hs, hN, hT, -⟩ := hF
  simp only [fv, hT]; rfl
theorem ws_getR (X : CX p s m args meth c G A cc own nL ret) (hF : FLk own idx k sl 2 tk ty fin) (ho : (k, i) ∈ objs) (hdg : DC cc pc (.getfield idx) 3 nxt) (K : WS p l e R s m args below meth c G A nL cells slots Q nxt lv (.inr (tk, i) :: st) S) : WS p l e R s m args below meth c G A nL cells slots Q pc lv (.inr (k, i) :: st) S := by
  refine ws_get0 X hF ho hdg (fun G' => ?_) K
  obtain ⟨C, T, N, ty0, hc, hs, hN, hT, -⟩ := hF
  simp only [fv, hT]; rfl
theorem ws_put0 (X : CX p s m args meth c G A cc own nL ret) {v : MV} {S' : MS} (hF : FLk own idx k sl tg tk ty false) (ho : (k, i) ∈ objs) (hdg : DC cc pc (.putfield idx) 3 nxt) (hn : narrow ty (tr G v) = tr G v) (hfit : fits ty (tr G v) = true) (hset : ∀ q, objs[q]? = some (k, i) → (wld G S).set q (G.2.1 k i, .inr (k, ((List.range (nF k)).map (fv G S k i)).set sl (tr G v))) = wld G S') (K : WS p l e R s m args below meth c G A nL cells slots Q nxt lv st S') : WS p l e R s m args below meth c G A nL cells slots Q pc lv (v :: .inr (k, i) :: st) S := by
  obtain ⟨h1, rfl⟩ := hdg
  obtain ⟨C, T, N, ty0, hc, hs, hN, hT, hd, hfin, hty, hnm, hlk⟩ := hF
  obtain ⟨q, hq⟩ := wld_has ho
  intro H locs ls hP hD hS hl
  have he : (wld G S)[q]? = some (G.2.1 k i, .inr (k, (List.range (nF k)).map (fv G S k i))) := by rw [wld_get hq, cel_obj (cls_lt hc)]
  have hin : ∀ w ∈ u_ws C T N, w ∈ lw_gd := cls_in (C, T, N) (List.mem_of_getElem? hc)
  have hlen : sl < ((List.range (nF k)).map (fv G S k i)).length := by simp; omega
  rcases hlk with hlk | ⟨h, hlk⟩
  · exact va_put X.1 X.2.1 X.2.2.2.2.1 hin ty0 hty hnm X.2.2.2.1 X.2.2.2.2.2.1 hP hD hS q he hc sl hs (X.2.2.2.2.1 _ hlk) (fun _ z => z) hfin hd hn hfit hlen h1 (fun H1 locs1 hP1 hD1 hS1 => by rw [hset q hq] at hP1 hD1; exact K H1 locs1 ls hP1 hD1 hS1 hl)
  · exact va_putN X.1 X.2.1 X.2.2.2.2.1 hin ty0 hty hnm X.2.2.2.1 X.2.2.2.2.2.1 hP hD hS q he hc sl hs (va_Nw.use rfl (X.2.2.2.2.2.2.2.1.2 _ hlk)) (fun _ z => z) hfin hd hn hfit hlen h1 (fun H1 locs1 hP1 hD1 hS1 => by rw [hset q hq] at hP1 hD1; exact K H1 locs1 ls hP1 hD1 hS1 hl)
theorem FLk.lt {own : String} {idx k sl tg tk : Nat} {ty : FieldType} {fin : Bool} (h : FLk own idx k sl tg tk ty fin) : k < 9 := by
  obtain ⟨C, T, N, ty0, hc, -⟩ := h
  exact cls_lt hc
theorem FLk.fT {own : String} {idx k sl tg tk : Nat} {ty : FieldType} {fin : Bool} (h : FLk own idx k sl tg tk ty fin) : fTy k sl = (tg, tk) := by
  obtain ⟨C, T, N, ty0, hc, hs, hN, hT, -⟩ := h
  exact hT
theorem ws_putI (X : CX p s m args meth c G A cc own nL ret) {x : Int32} (hF : FLk own idx k sl 0 0 .int false) (ho : (k, i) ∈ objs) (hdg : DC cc pc (.putfield idx) 3 nxt) (K : WS p l e R s m args below meth c G A nL cells slots Q nxt lv st (wI S k i sl x)) : WS p l e R s m args below meth c G A nL cells slots Q pc lv (.inl (.int x) :: .inr (k, i) :: st) S :=
  ws_put0 X hF ho hdg rfl rfl (fun q hq => set_objI hq hF.lt (Or.inl (by rw [hF.fT]))) K
theorem ws_putZ (X : CX p s m args meth c G A cc own nL ret) {x : Int32} (hx : narrow .boolean (.int x) = .int x ∧ fits .boolean (.int x) = true) (hF : FLk own idx k sl 3 0 .boolean false) (ho : (k, i) ∈ objs) (hdg : DC cc pc (.putfield idx) 3 nxt) (K : WS p l e R s m args below meth c G A nL cells slots Q nxt lv st (wI S k i sl x)) : WS p l e R s m args below meth c G A nL cells slots Q pc lv (.inl (.int x) :: .inr (k, i) :: st) S :=
  ws_put0 X hF ho hdg hx.1 hx.2 (fun q hq => set_objI hq hF.lt (Or.inr (by rw [hF.fT]))) K
theorem ws_putL (X : CX p s m args meth c G A cc own nL ret) {x : Int64} (hF : FLk own idx k sl 1 0 .long false) (ho : (k, i) ∈ objs) (hdg : DC cc pc (.putfield idx) 3 nxt) (K : WS p l e R s m args below meth c G A nL cells slots Q nxt lv st (wL S k i sl x)) : WS p l e R s m args below meth c G A nL cells slots Q pc lv (.inl (.long x) :: .inr (k, i) :: st) S :=
  ws_put0 X hF ho hdg rfl rfl (fun q hq => set_objL hq hF.lt (by rw [hF.fT])) K
/-! arrays -/
def AKk (k tg n : Nat) : Prop := ¬ k < 9 ∧ aTy k = (tg, n)
theorem AKk.ft {k tg n : Nat} (h : AKk k tg n) {G : GG} (ho : (k, i) ∈ objs) : ∃ t0 : Nat, (tyl G)[t0]? = some (G.1 k i, aFT k) := tyl_get ho h.1
theorem ws_iald (X : CX p s m args meth c G A cc own nL ret) {j : Int32} {n : Nat} (hk : AKk k 0 n) (ho : (k, i) ∈ objs) (hin : vp_in j n) (hdg : DC cc pc .iaload 1 nxt) (K : WS p l e R s m args below meth c G A nL cells slots Q nxt lv (.inl (.int (S.1 k i j.toNatClampNeg)) :: st) S) : WS p l e R s m args below meth c G A nL cells slots Q pc lv (.inl (.int j) :: .inr (k, i) :: st) S := by
  obtain ⟨h1, rfl⟩ := hdg
  obtain ⟨q, hq⟩ := wld_has ho
  obtain ⟨t0, ht0⟩ := hk.ft (G := G) ho
  intro H locs ls hP hD hS hl
  have ha : (wld G S)[q]? = some (G.2.1 k i, .inl (G.1 k i, n, .inl (S.1 k i))) := by
    rw [wld_get hq, cel_arr hk.1, acel]; simp only [hk.2]
  have ht : (tyl G)[t0]? = some (G.1 k i, .int) := by
    rw [ht0, aFT]; simp only [hk.2]
  exact va_iald X.1 X.2.1 X.2.2.2.2.2.1 hP q t0 (f := S.1 k i) ha ht hin h1 (K H locs ls hP hD hS hl)
theorem ws_zald (X : CX p s m args meth c G A cc own nL ret) {j : Int32} {n : Nat} (hk : AKk k 1 n) (ho : (k, i) ∈ objs) (hin : vp_in j n) (hdg : DC cc pc .baload 1 nxt) (K : WS p l e R s m args below meth c G A nL cells slots Q nxt lv (.inl (.int (S.1 k i j.toNatClampNeg)) :: st) S) : WS p l e R s m args below meth c G A nL cells slots Q pc lv (.inl (.int j) :: .inr (k, i) :: st) S := by
  obtain ⟨h1, rfl⟩ := hdg
  obtain ⟨q, hq⟩ := wld_has ho
  obtain ⟨t0, ht0⟩ := hk.ft (G := G) ho
  intro H locs ls hP hD hS hl
  have ha : (wld G S)[q]? = some (G.2.1 k i, .inl (G.1 k i, n, .inl (S.1 k i))) := by
    rw [wld_get hq, cel_arr hk.1, acel]; simp only [hk.2]
  have ht : (tyl G)[t0]? = some (G.1 k i, .boolean) := by
    rw [ht0, aFT]; simp only [hk.2]
  exact va_zald X.1 X.2.1 X.2.2.2.2.2.1 hP q t0 (f := S.1 k i) ha ht hin h1 (K H locs ls hP hD hS hl)
theorem ws_lald (X : CX p s m args meth c G A cc own nL ret) {j : Int32} {n : Nat} (hk : AKk k 2 n) (ho : (k, i) ∈ objs) (hin : vp_in j n) (hdg : DC cc pc .laload 1 nxt) (K : WS p l e R s m args below meth c G A nL cells slots Q nxt lv (.inl (.long (S.2.1 k i j.toNatClampNeg)) :: st) S) : WS p l e R s m args below meth c G A nL cells slots Q pc lv (.inl (.int j) :: .inr (k, i) :: st) S := by
  obtain ⟨h1, rfl⟩ := hdg
  obtain ⟨q, hq⟩ := wld_has ho
  obtain ⟨t0, ht0⟩ := hk.ft (G := G) ho
  intro H locs ls hP hD hS hl
  have ha : (wld G S)[q]? = some (G.2.1 k i, .inl (G.1 k i, n, .inr (.inl (S.2.1 k i)))) := by
    rw [wld_get hq, cel_arr hk.1, acel]; simp only [hk.2]
  have ht : (tyl G)[t0]? = some (G.1 k i, .long) := by
    rw [ht0, aFT]; simp only [hk.2]
  exact va_lald X.1 X.2.1 X.2.2.2.2.2.1 hP q t0 (f := S.2.1 k i) ha ht hin h1 (K H locs ls hP hD hS hl)
theorem ws_dald (X : CX p s m args meth c G A cc own nL ret) {j : Int32} {n : Nat} (hk : AKk k 3 n) (ho : (k, i) ∈ objs) (hin : vp_in j n) (hdg : DC cc pc .daload 1 nxt) (K : WS p l e R s m args below meth c G A nL cells slots Q nxt lv (.inl (.double (S.2.2 k i j.toNatClampNeg)) :: st) S) : WS p l e R s m args below meth c G A nL cells slots Q pc lv (.inl (.int j) :: .inr (k, i) :: st) S := by
  obtain ⟨h1, rfl⟩ := hdg
  obtain ⟨q, hq⟩ := wld_has ho
  obtain ⟨t0, ht0⟩ := hk.ft (G := G) ho
  intro H locs ls hP hD hS hl
  have ha : (wld G S)[q]? = some (G.2.1 k i, .inl (G.1 k i, n, .inr (.inr (.inr (.inl (S.2.2 k i)))))) := by
    rw [wld_get hq, cel_arr hk.1, acel]; simp only [hk.2]
  have ht : (tyl G)[t0]? = some (G.1 k i, .double) := by
    rw [ht0, aFT]; simp only [hk.2]
  exact va_dald X.1 X.2.1 X.2.2.2.2.2.1 hP q t0 (f := S.2.2 k i) ha ht hin h1 (K H locs ls hP hD hS hl)
theorem ws_aald (X : CX p s m args meth c G A cc own nL ret) {j : Int32} {n : Nat} (hk : AKk k 4 n) (ho : (k, i) ∈ objs) (hin : vp_in j n) (hdg : DC cc pc .aaload 1 nxt) (K : WS p l e R s m args below meth c G A nL cells slots Q nxt lv (.inr (4, j.toNatClampNeg) :: st) S) : WS p l e R s m args below meth c G A nL cells slots Q pc lv (.inl (.int j) :: .inr (k, i) :: st) S := by
  obtain ⟨h1, rfl⟩ := hdg
  obtain ⟨q, hq⟩ := wld_has ho
  obtain ⟨t0, ht0⟩ := hk.ft (G := G) ho
  intro H locs ls hP hD hS hl
  have ha : (wld G S)[q]? = some (G.2.1 k i, .inl (G.1 k i, n, .inr (.inr (.inr (.inr (fun j => some (G.2.1 4 j))))))) := by
    rw [wld_get hq, cel_arr hk.1, acel]; simp only [hk.2]
  have ht : (tyl G)[t0]? = some (G.1 k i, .object "InstrumentFiles$Method") := by
    rw [ht0, aFT]; simp only [hk.2]
  exact va_aldq X.1 X.2.1 X.2.2.2.2.2.1 hP q t0 (f := fun j => some (G.2.1 4 j)) (C := "InstrumentFiles$Method") ha ht hin h1 (K H locs ls hP hD hS hl)
theorem ws_iast (X : CX p s m args meth c G A cc own nL ret) {j x : Int32} {n : Nat} (hk : AKk k 0 n) (ho : (k, i) ∈ objs) (hin : vp_in j n) (hdg : DC cc pc .iastore 1 nxt) (K : WS p l e R s m args below meth c G A nL cells slots Q nxt lv st (wI S k i j.toNatClampNeg x)) : WS p l e R s m args below meth c G A nL cells slots Q pc lv (.inl (.int x) :: .inl (.int j) :: .inr (k, i) :: st) S := by
  obtain ⟨h1, rfl⟩ := hdg
  obtain ⟨q, hq⟩ := wld_has ho
  obtain ⟨t0, ht0⟩ := hk.ft (G := G) ho
  intro H locs ls hP hD hS hl
  have ha : (wld G S)[q]? = some (G.2.1 k i, .inl (G.1 k i, n, .inl (S.1 k i))) := by
    rw [wld_get hq, cel_arr hk.1, acel]; simp only [hk.2]
  have ht : (tyl G)[t0]? = some (G.1 k i, .int) := by
    rw [ht0, aFT]; simp only [hk.2]
  exact va_iast X.1 X.2.1 X.2.2.2.2.2.1 hP hD hS q t0 (f := S.1 k i) (n := n) ha ht hin h1 (fun H1 locs1 hP1 hD1 hS1 => by rw [set_arrI hq hk.1 (Or.inl hk.2)] at hP1 hD1; exact K H1 locs1 ls hP1 hD1 hS1 hl)
theorem ws_zast (X : CX p s m args meth c G A cc own nL ret) {j x : Int32} {n : Nat} (hx : vp_nar .boolean x = x) (hk : AKk k 1 n) (ho : (k, i) ∈ objs) (hin : vp_in j n) (hdg : DC cc pc .bastore 1 nxt) (K : WS p l e R s m args below meth c G A nL cells slots Q nxt lv st (wI S k i j.toNatClampNeg x)) : WS p l e R s m args below meth c G A nL cells slots Q pc lv (.inl (.int x) :: .inl (.int j) :: .inr (k, i) :: st) S := by
  obtain ⟨h1, rfl⟩ := hdg
  obtain ⟨q, hq⟩ := wld_has ho
  obtain ⟨t0, ht0⟩ := hk.ft (G := G) ho
  intro H locs ls hP hD hS hl
  have ha : (wld G S)[q]? = some (G.2.1 k i, .inl (G.1 k i, n, .inl (S.1 k i))) := by
    rw [wld_get hq, cel_arr hk.1, acel]; simp only [hk.2]
  have ht : (tyl G)[t0]? = some (G.1 k i, .boolean) := by
    rw [ht0, aFT]; simp only [hk.2]
  exact va_zast X.1 X.2.1 X.2.2.2.2.2.1 hP hD hS q t0 (f := S.1 k i) (n := n) ha ht hin h1 (fun H1 locs1 hP1 hD1 hS1 => by rw [hx, set_arrI hq hk.1 (Or.inr hk.2)] at hP1 hD1; exact K H1 locs1 ls hP1 hD1 hS1 hl)
theorem ws_last (X : CX p s m args meth c G A cc own nL ret) {j : Int32} {x : Int64} {n : Nat} (hk : AKk k 2 n) (ho : (k, i) ∈ objs) (hin : vp_in j n) (hdg : DC cc pc .lastore 1 nxt) (K : WS p l e R s m args below meth c G A nL cells slots Q nxt lv st (wL S k i j.toNatClampNeg x)) : WS p l e R s m args below meth c G A nL cells slots Q pc lv (.inl (.long x) :: .inl (.int j) :: .inr (k, i) :: st) S := by
  obtain ⟨h1, rfl⟩ := hdg
  obtain ⟨q, hq⟩ := wld_has ho
  obtain ⟨t0, ht0⟩ := hk.ft (G := G) ho
  intro H locs ls hP hD hS hl
  have ha : (wld G S)[q]? = some (G.2.1 k i, .inl (G.1 k i, n, .inr (.inl (S.2.1 k i)))) := by
    rw [wld_get hq, cel_arr hk.1, acel]; simp only [hk.2]
  have ht : (tyl G)[t0]? = some (G.1 k i, .long) := by
    rw [ht0, aFT]; simp only [hk.2]
  exact va_last X.1 X.2.1 X.2.2.2.2.2.1 hP hD hS q t0 (f := S.2.1 k i) (n := n) ha ht hin h1 (fun H1 locs1 hP1 hD1 hS1 => by rw [set_arrL hq hk.1 hk.2] at hP1 hD1; exact K H1 locs1 ls hP1 hD1 hS1 hl)
theorem ws_dast (X : CX p s m args meth c G A cc own nL ret) {j : Int32} {x : UInt64} {n : Nat} (hk : AKk k 3 n) (ho : (k, i) ∈ objs) (hin : vp_in j n) (hdg : DC cc pc .dastore 1 nxt) (K : WS p l e R s m args below meth c G A nL cells slots Q nxt lv st (wD S k i j.toNatClampNeg x)) : WS p l e R s m args below meth c G A nL cells slots Q pc lv (.inl (.double x) :: .inl (.int j) :: .inr (k, i) :: st) S := by
  obtain ⟨h1, rfl⟩ := hdg
  obtain ⟨q, hq⟩ := wld_has ho
  obtain ⟨t0, ht0⟩ := hk.ft (G := G) ho
  intro H locs ls hP hD hS hl
  have ha : (wld G S)[q]? = some (G.2.1 k i, .inl (G.1 k i, n, .inr (.inr (.inr (.inl (S.2.2 k i)))))) := by
    rw [wld_get hq, cel_arr hk.1, acel]; simp only [hk.2]
  have ht : (tyl G)[t0]? = some (G.1 k i, .double) := by
    rw [ht0, aFT]; simp only [hk.2]
  exact va_dast X.1 X.2.1 X.2.2.2.2.2.1 hP hD hS q t0 (f := S.2.2 k i) (n := n) ha ht hin h1 (fun H1 locs1 hP1 hD1 hS1 => by rw [set_arrD hq hk.1 hk.2] at hP1 hD1; exact K H1 locs1 ls hP1 hD1 hS1 hl)
theorem acel_len {G : GG} {S : MS} {k i tg n : Nat} (h : aTy k = (tg, n)) : (acel G S k i).1 = n := by
  unfold acel
  rw [h]
  match tg with
  | 0 => rfl
  | 1 => rfl
  | 2 => rfl
  | 3 => rfl
  | _ + 4 => rfl
theorem ws_alen (X : CX p s m args meth c G A cc own nL ret) {n tg : Nat} {v : Int32} (hk : AKk k tg n) (ho : (k, i) ∈ objs) (hv : Int32.ofNat n = v) (hdg : DC cc pc .arraylength 1 nxt) (K : WS p l e R s m args below meth c G A nL cells slots Q nxt lv (.inl (.int v) :: st) S) : WS p l e R s m args below meth c G A nL cells slots Q pc lv (.inr (k, i) :: st) S := by
  obtain ⟨h1, rfl⟩ := hdg
  obtain ⟨q, hq⟩ := wld_has ho
  obtain ⟨t0, ht0⟩ := hk.ft (G := G) ho
  intro H locs ls hP hD hS hl
  exact va_alen X.1 X.2.1 X.2.2.2.2.2.1 hP q t0 (x := acel G S k i) (by rw [wld_get hq, cel_arr hk.1]) ht0 (by rw [acel_len hk.2]; exact hv) h1 (K H locs ls hP hD hS hl)
/-! the static rows -/
theorem ws_gets (X : CX p s m args meth c G A cc own nL ret) (k : Nat) (hk : k < 3) (hlk : Cond.fieldLink own idx "InstrumentFiles$Ops" (stn k) "[I" ∈ lw_gd) (hdg : DC cc pc (.getstatic idx) 3 nxt) (K : WS p l e R s m args below meth c G A nL cells slots Q nxt lv (.inl (.ref (G.2.2.2 k)) :: st) S) : WS p l e R s m args below meth c G A nL cells slots Q pc lv st S := by
  obtain ⟨h1, rfl⟩ := hdg
  intro H locs ls hP hD hS hl
  exact va_gets X.1 X.2.1 (X.2.2.2.2.2.2.2.1.1 k hk).1 hS X.2.2.2.1 (X.2.2.2.2.1 _ hlk) (fun _ z => z) h1 (K H locs ls hP hD hS hl)
theorem ws_tlen (X : CX p s m args meth c G A cc own nL ret) (k : Nat) (hk : k < 3) (hdg : DC cc pc .arraylength 1 nxt) (K : WS p l e R s m args below meth c G A nL cells slots Q nxt lv (.inl (.int 25) :: st) S) : WS p l e R s m args below meth c G A nL cells slots Q pc lv (.inl (.ref (G.2.2.2 k)) :: st) S := by
  obtain ⟨h1, rfl⟩ := hdg
  intro H locs ls hP hD hS hl
  exact va_tlen X.1 X.2.1 (X.2.2.2.2.2.2.2.1.1 k hk).2 hS rfl h1 (K H locs ls hP hD hS hl)
theorem ws_tald (X : CX p s m args meth c G A cc own nL ret) (k : Nat) (hk : k < 3) {j : Int32} (hin : vp_in j 25) (hdg : DC cc pc .iaload 1 nxt) (K : WS p l e R s m args below meth c G A nL cells slots Q nxt lv (.inl (.int ((stv k).getD j.toNatClampNeg 0)) :: st) S) : WS p l e R s m args below meth c G A nL cells slots Q pc lv (.inl (.int j) :: .inl (.ref (G.2.2.2 k)) :: st) S := by
  obtain ⟨h1, rfl⟩ := hdg
  intro H locs ls hP hD hS hl
  exact va_ti X.1 X.2.1 (X.2.2.2.2.2.2.2.1.1 k hk).2 hS hin rfl h1 (K H locs ls hP hD hS hl)
/-! the law's script -/
theorem ws_slen (X : CX p s m args meth c G A cc own nL ret) {b L : Nat} {xs : Nat → Int32} (hX : va_X b L xs s s.heap) (hbl : b < s.heap.size) (hbA : ¬ A b) (hdg : DC cc pc .arraylength 1 nxt) (K : WS p l e R s m args below meth c G A nL cells slots Q nxt lv (.inl (.int (Int32.ofNat L)) :: st) S) : WS p l e R s m args below meth c G A nL cells slots Q pc lv (.inl (.ref b) :: st) S := by
  obtain ⟨h1, rfl⟩ := hdg
  intro H locs ls hP hD hS hl
  exact va_slen X.1 X.2.1 hX hbl hbA hS h1 (K H locs ls hP hD hS hl)
theorem ws_sld (X : CX p s m args meth c G A cc own nL ret) {b L : Nat} {xs : Nat → Int32} (hX : va_X b L xs s s.heap) (hbl : b < s.heap.size) (hbA : ¬ A b) {j : Int32} (hin : vp_in j L) (hdg : DC cc pc .iaload 1 nxt) (K : WS p l e R s m args below meth c G A nL cells slots Q nxt lv (.inl (.int (xs j.toNatClampNeg)) :: st) S) : WS p l e R s m args below meth c G A nL cells slots Q pc lv (.inl (.int j) :: .inl (.ref b) :: st) S := by
  obtain ⟨h1, rfl⟩ := hdg
  intro H locs ls hP hD hS hl
  exact va_sld X.1 X.2.1 hX hbl hbA hS hin h1 (K H locs ls hP hD hS hl)
end WSH
end
section
/-! ends, entries and calls, over the world as one value -/
theorem goodIn_gd {ws : List Cond} (h : ∀ w ∈ ws, w ∈ lw_gd) : GoodIn lw_gd ws := fun w hw => ⟨h w hw, gd_good (h w hw)⟩
theorem wsS0_in {y : MethodName} {cc : ByteArray} {nL : Nat} {ret : Option FieldType} (h : Cond.code y cc nL ret ∈ lw_gd) : ∀ w ∈ wsS0 y cc nL ret, w ∈ lw_gd := fun w hw => by
  rcases List.mem_cons.mp hw with rfl | h2
  · exact h
  · exact h2
/-- the first locals of a method -/
def elv : List MV → List (Option MV)
  | [] => []
  | v :: t => if mcat v = 2 then some v :: none :: elv t else some v :: elv t
theorem asl_none {G : GG} : ∀ (k n : Nat), asl G n (List.replicate k none) = []
  | 0, _ => rfl
  | k + 1, n => by
    rw [List.replicate_succ]
    exact asl_none k (n + 1)
theorem asl_app {G : GG} : ∀ (a b : List (Option MV)) (n : Nat), asl G n (a ++ b) = asl G n a ++ asl G (n + a.length) b
  | [], b, n => rfl
  | none :: t, b, n => by
    show asl G (n + 1) (t ++ b) = asl G (n + 1) t ++ _
    rw [asl_app t b (n + 1), List.length_cons, show n + 1 + t.length = n + (t.length + 1) by omega]
  | some v :: t, b, n => by
    show _ :: asl G (n + 1) (t ++ b) = _ :: asl G (n + 1) t ++ _
    rw [asl_app t b (n + 1), List.length_cons, show n + 1 + t.length = n + (t.length + 1) by omega]; rfl
theorem asl_elv {G : GG} : ∀ (av : List MV) (n : Nat), asl G n (elv av) = lv_args n (av.map (tr G))
  | [], _ => rfl
  | v :: t, n => by
    have hc := tr_cat G v
    show asl G n (if mcat v = 2 then some v :: none :: elv t else some v :: elv t) = (n, tr G v) :: lv_args (if (tr G v).category = 2 then n + 2 else n + 1) (t.map (tr G))
    rw [hc]
    by_cases h : mcat v = 2
    · rw [if_pos h, if_pos h]
      show _ :: asl G (n + 1 + 1) (elv t) = _
      rw [asl_elv t (n + 1 + 1)]
    · rw [if_neg h, if_neg h]
      show _ :: asl G (n + 1) (elv t) = _
      rw [asl_elv t (n + 1)]
theorem elv_len {G : GG} : ∀ (av : List MV), (lg_sl (av.map (tr G))).length = (elv av).length
  | [] => rfl
  | v :: t => by
    have hc := tr_cat G v
    have h2 := elv_len (G := G) t
    show (lg_sl (tr G v :: t.map (tr G))).length = (if mcat v = 2 then some v :: none :: elv t else some v :: elv t).length
    rw [show lg_sl (tr G v :: t.map (tr G)) = (if (tr G v).category = 2 then [Slot.val (tr G v), .second] else [.val (tr G v)]) ++ lg_sl (t.map (tr G)) from rfl, hc]
    by_cases h : mcat v = 2
    · rw [if_pos h, if_pos h, List.length_append, h2]
      simp only [List.length_cons, List.length_nil]; omega
    · rw [if_neg h, if_neg h, List.length_append, h2]
      simp only [List.length_cons, List.length_nil]; omega
section WSK
variable {p : Program} {l : Launch} {e : Env} {R : Room} {s : State} {m : MethodId} {args : Array Value} {below : List Frame} {meth : Method} {c : Code} {G : GG} {A : Nat → Prop} {cells slots : Nat} {Q : State → Prop} {cc : ByteArray} {own : String} {nL : Nat} {ret : Option FieldType}
variable {pc nxt tgt : Nat} {lv : List (Option MV)} {st : List MV} {S : MS} {off : Int} {k i sl tg tk idx : Nat} {ty : FieldType} {fin : Bool}
/-- a method's contract out of its walk -/
theorem MetS.of {y : MethodName} {fr lo : Nat} {av : List MV} {lv0 : List (Option MV)} {Fin : Option MV → MS → Prop} (hy : plainName y.cls = true) (hlv : elv av ++ List.replicate (nL - (elv av).length) none = lv0) (hn : (elv av).length ≤ nL)
    (body : ∀ (p : Program) (l : Launch) (e : Env) (s : State) (m : MethodId) (args : Array Value) (below : List Frame) (meth : Method) (c : Code) (G : GG), CX p s m args meth c G (AD G) cc y.cls nL ret → WS p l e (rmS fr lo) s m args below meth c G (AD G) nL 0 0 (MQ below (QcS G Fin) args s 0 0 (AD G)) 0 lv0 [] S) : MetS y cc nL ret fr lo av S Fin := by
  intro l G
  refine Met.ofW (cc := cc) (maxL := nL) (ret := ret) hy rfl ?_
  intro p e s m args below meth c s₁ B hml hv
  obtain ⟨rfl, hP, hK, hD, hT, hN⟩ := hv
  have hts := atoms_spec (ws := wsS0 y cc nL ret) B.pre
  have hX : CX p s m (av.map (tr G)).toArray meth c G (AD G) cc y.cls nL ret := ⟨B.exec, B.bytes, hml, findClass_of_methodNamed B.named, fun w hw => hts w (List.mem_cons_of_mem _ hw), hK, fun _ h => h, ⟨hT, hN⟩, B.returns, B.notSynchronized⟩
  have hlen : (lg_sl (av.map (tr G))).length ≤ nL := by rw [elv_len]; exact hn
  have hl := lv_entry (av.map (tr G)) hlen
  rw [lg_entry_eq]
  generalize (lg_sl (av.map (tr G)) ++ List.replicate (nL - (lg_sl (av.map (tr G))).length) Slot.unset).toArray = ls at hl ⊢
  subst hlv
  refine body p l e s m _ below meth c G hX s.heap [] ls hP hD va_S.rf ?_
  rw [asl_app, asl_none, List.append_nil, asl_elv]
  exact hl
theorem pre_end {t : State} {H : Heap} {locs : List Loc} (X : CX p s m args meth c G (AD G) cc own nL ret) (hP : va_P G.2.2.1 clsL (wld G S) H) (hD : va_D (AD G) (wld G S)) (hS : va_S (AD G) s.heap H locs) (ht : t.heap = H) (hW : s.WarmedH t.vm) : PRE G S t :=
  ⟨by rw [ht]; exact hP, va_K.moved hW.alike X.2.2.2.2.2.1, hD, by rw [ht]; exact (X.2.2.2.2.2.2.2.1.1.kept (fun q h1 h2 => hS.2.1 q h1 h2)).moved hW.alike, X.2.2.2.2.2.2.2.1.2.warm hW⟩
theorem qc_end {t : State} {H : Heap} {locs : List Loc} {Fin : Option MV → MS → Prop} {v : Option MV} {a : Array Value} (X : CX p s m args meth c G (AD G) cc own nL ret) (hP : va_P G.2.2.1 clsL (wld G S) H) (hD : va_D (AD G) (wld G S)) (hS : va_S (AD G) s.heap H locs) (ht : t.heap = H) (hW : s.WarmedH t.vm) (hF : Fin v S) : QcS G Fin a s (.returned (v.map (tr G))) t :=
  ⟨⟨v, S, rfl, hF, pre_end X hP hD hS ht hW⟩, by rw [ht]; exact hS.1, fun q h1 h2 => by rw [ht]; exact hS.2.1 q h1 h2⟩
theorem ws_iret {Fin : Option MV → MS → Prop} {x : Int32} (X : CX p s m args meth c G (AD G) cc own nL (some .int)) (hdg : DC cc pc .ireturn 1 nxt) (hF : Fin (some (.inl (.int x))) S) : WS p l e R s m args below meth c G (AD G) nL cells slots (MQ below (QcS G Fin) args s cells slots (AD G)) pc lv [.inl (.int x)] S :=
  fun H locs ls hP hD hS hl => W.iret (v := x) X.1 X.2.1 X.2.2.2.2.2.2.2.2.1 (fun t ht hW => qc_end (v := some (.inl (.int x))) X hP hD hS ht hW hF) hS.2.2 hdg.1 (hlocks := X.2.2.2.2.2.2.2.2.2)
theorem ws_zret {Fin : Option MV → MS → Prop} {x : Int32} (X : CX p s m args meth c G (AD G) cc own nL (some .boolean)) (hn : narrow .boolean (.int x) = .int x) (hdg : DC cc pc .ireturn 1 nxt) (hF : Fin (some (.inl (.int x))) S) : WS p l e R s m args below meth c G (AD G) nL cells slots (MQ below (QcS G Fin) args s cells slots (AD G)) pc lv [.inl (.int x)] S :=
  fun H locs ls hP hD hS hl => W.zret (v := x) X.1 X.2.1 X.2.2.2.2.2.2.2.2.1 hn (fun t ht hW => qc_end (v := some (.inl (.int x))) X hP hD hS ht hW hF) hS.2.2 hdg.1 (hlocks := X.2.2.2.2.2.2.2.2.2)
theorem ws_lret {Fin : Option MV → MS → Prop} {x : Int64} (X : CX p s m args meth c G (AD G) cc own nL (some .long)) (hdg : DC cc pc .lreturn 1 nxt) (hF : Fin (some (.inl (.long x))) S) : WS p l e R s m args below meth c G (AD G) nL cells slots (MQ below (QcS G Fin) args s cells slots (AD G)) pc lv [.inl (.long x)] S :=
  fun H locs ls hP hD hS hl => W.lret (v := x) X.1 X.2.1 X.2.2.2.2.2.2.2.2.1 (fun t ht hW => qc_end (v := some (.inl (.long x))) X hP hD hS ht hW hF) hS.2.2 hdg.1 (hlocks := X.2.2.2.2.2.2.2.2.2)
theorem ws_dret {Fin : Option MV → MS → Prop} {x : UInt64} (X : CX p s m args meth c G (AD G) cc own nL (some .double)) (hdg : DC cc pc .dreturn 1 nxt) (hF : Fin (some (.inl (.double x))) S) : WS p l e R s m args below meth c G (AD G) nL cells slots (MQ below (QcS G Fin) args s cells slots (AD G)) pc lv [.inl (.double x)] S :=
  fun H locs ls hP hD hS hl => W.dret (v := x) X.1 X.2.1 X.2.2.2.2.2.2.2.2.1 (fun t ht hW => qc_end (v := some (.inl (.double x))) X hP hD hS ht hW hF) hS.2.2 hdg.1 (hlocks := X.2.2.2.2.2.2.2.2.2)
theorem ws_vret {Fin : Option MV → MS → Prop} (X : CX p s m args meth c G (AD G) cc own nL none) (hdg : DC cc pc .return_ 1 nxt) (hF : Fin none S) : WS p l e R s m args below meth c G (AD G) nL cells slots (MQ below (QcS G Fin) args s cells slots (AD G)) pc lv [] S :=
  fun H locs ls hP hD hS hl => W.vret X.1 X.2.1 X.2.2.2.2.2.2.2.2.1 (fun t ht hW => qc_end (v := none) X hP hD hS ht hW hF) hS.2.2 hdg.1 (hlocks := X.2.2.2.2.2.2.2.2.2)
theorem ws_aret {Fin : Option MV → MS → Prop} {v : MV} {rt : String} (X : CX p s m args meth c G (AD G) cc own nL (some (.object rt))) (hv : v = .inl .null ∨ ∃ q, v = .inr q) (hdg : DC cc pc .areturn 1 nxt) (hF : Fin (some v) S) : WS p l e R s m args below meth c G (AD G) nL cells slots (MQ below (QcS G Fin) args s cells slots (AD G)) pc lv [v] S :=
  fun H locs ls hP hD hS hl => W.aret (v := tr G v) X.1 X.2.1 X.2.2.2.2.2.2.2.2.1 (Or.inl ⟨rt, rfl⟩) (by rcases hv with rfl | ⟨q, rfl⟩; exact Or.inl rfl; exact Or.inr ⟨_, rfl⟩) (fun t ht hW => qc_end (v := some v) X hP hD hS ht hW hF) hS.2.2 hdg.1 (hlocks := X.2.2.2.2.2.2.2.2.2)
/-- what a call leaves -/
theorem ws_back {mc ms : Nat} {g0 : List MV} {a : Array Value} {Fin : Option MV → MS → Prop} {H : Heap} {locs : List Loc} {ls : Array Slot} (X : CX p s m args meth c G A cc own nL ret) (hS : va_S A s.heap H locs) (hD : va_D A (wld G S)) (hl : lv_has ls nL (asl G 0 lv)) (hr : va_Run p l e R s m args below meth c H locs cells slots 0 0 (F0 m pc ls (g0.map (tr G))) (st.map (tr G)) (QcS G Fin a) (AD G))
    (K : ∀ (v : Option MV) (S' : MS), Fin v S' → WS p l e R s m args below meth c G A nL cells slots Q (pc + 3) lv (v.toList ++ st) S') : W p l e R s m args below meth c H locs cells slots Q (F0 m pc ls (g0.map (tr G))) := by
  intro T hT Xs
  obtain ⟨v, st₀, t, T', L, h0, X', hL, e1, e2, ⟨⟨v2, S', hv, hF, hPRE⟩, hz, hk⟩, stp⟩ := hr T hT Xs
  have hv2 : v = v2.map (tr G) := by cases hv; rfl
  subst hv2
  rw [h0] at hz hk
  have hP1 : va_P G.2.2.1 clsL (wld G S') T'.heap := by rw [e1]; exact hPRE.1
  have hS1 : va_S A s.heap T'.heap (locs ++ L) := ⟨Nat.le_trans hS.1 (by rw [e1]; exact hz), fun q h1 h2 => by
    rw [e1, hk q (Nat.lt_of_lt_of_le h1 hS.1) (fun z => h2 (X.2.2.2.2.2.2.1 q z))]; exact hS.2.1 q h1 h2, fun q hq => by
    rcases List.mem_append.mp hq with h | h
    · exact hS.2.2 q h
    · exact X.2.2.2.2.2.2.1 _ (hL q h)⟩
  obtain ⟨t2, a1, b1⟩ := K v2 S' hF T'.heap (locs ++ L) ls hP1 (va_D_AD hD) hS1 hl T' rfl X'
  refine ⟨t2, stp t2 ?_, b1⟩
  cases v2 <;> exact a1
theorem blind {av : List Value} : FrameBlind (va_Pc av (PRE G S)) := fun a U g mk q => ⟨q.1, PRE.at (u := U) (U := U.calling g mk a) rfl rfl q.2⟩
theorem pre_call {av : List Value} {H : Heap} {locs : List Loc} (X : CX p s m args meth c G A cc own nL ret) (hP : va_P G.2.2.1 clsL (wld G S) H) (hD : va_D A (wld G S)) (hS : va_S A s.heap H locs) : ∀ U : State, U.heap = H → s.WarmedH U.vm → va_Pc av (PRE G S) av.toArray U := fun U hU hW =>
  ⟨rfl, by rw [hU]; exact hP, va_K.moved hW.alike X.2.2.2.2.2.1, va_D_self hD, by rw [hU]; exact ((X.2.2.2.2.2.2.2.1.1.kept (fun q h1 h2 => hS.2.1 q h1 h2)).moved hW.alike).narrow X.2.2.2.2.2.2.1, X.2.2.2.2.2.2.2.1.2.warm hW⟩
/-- what is known of a method that is called by its object's class -/
def CVm (y : MethodName) (cc : ByteArray) (nL : Nat) (ret : Option FieldType) (n k : Nat) : Prop := (∃ (T : u_T) (N : Nat), clsL[k]? = some (y.cls, T, N)) ∧ Cond.instanceMethod y ∈ lw_gd ∧ Cond.selects y.cls y y ∈ lw_gd ∧ Cond.initialized y.cls ∈ lw_gd ∧ Cond.code y cc nL ret ∈ lw_gd ∧ (y.cls ≠ "java/lang/invoke/MethodHandle" ∧ y.cls ≠ "java/lang/invoke/VarHandle" ∧ (parseMethodDescriptor y.desc).map (fun d => d.parameters.length) = some n)
def CSm (y : MethodName) (cc : ByteArray) (nL : Nat) (ret : Option FieldType) (n : Nat) : Prop := Cond.static y ∈ lw_gd ∧ Cond.initialized y.cls ∈ lw_gd ∧ Cond.code y cc nL ret ∈ lw_gd ∧ (y.cls ≠ "java/lang/invoke/MethodHandle" ∧ y.cls ≠ "java/lang/invoke/VarHandle" ∧ (parseMethodDescriptor y.desc).map (fun d => d.parameters.length) = some n)
def mcs : List MV → Nat
  | [] => 0
  | v :: t => mcat v + mcs t
theorem mcs_tr : ∀ (st : List MV), ((st.map (tr G)).map fun v => v.category).sum = mcs st
  | [] => rfl
  | v :: t => by
    show (tr G v).category + ((t.map (tr G)).map fun v => v.category).sum = mcat v + mcs t
    rw [tr_cat, mcs_tr t]
theorem ws_callV (X : CX p s m args meth c G A cc own nL ret) {y : MethodName} {ccy : ByteArray} {nLy n fr lo : Nat} {rety : Option FieldType} {av st0 : List MV} {Fin : Option MV → MS → Prop} (hM : MetS y ccy nLy rety fr lo (.inr (k, i) :: av) S Fin) (hy : CVm y ccy nLy rety n k) (hlk : Cond.methodLink own idx y ∈ lw_gd) (ho : (k, i) ∈ objs) (hst : av.reverse ++ .inr (k, i) :: st = st0) (hn : av.length = n) (hW : mcs st ≤ 8) (hR : fr + 1 ≤ R.frames ∧ 8 + (nLy + 11) + lo ≤ R.locals) (hf : cells ≤ R.cells ∧ slots ≤ R.slots) (hdg : DC cc pc (.invokevirtual idx) 3 nxt)
    (K : ∀ (v : Option MV) (S' : MS), Fin v S' → WS p l e R s m args below meth c G A nL cells slots Q nxt lv (v.toList ++ st) S') : WS p l e R s m args below meth c G A nL cells slots Q pc lv st0 S := by
  obtain ⟨h1, rfl⟩ := hdg
  obtain ⟨⟨T, N, hcl⟩, hin, hse, hini, hcode, hd⟩ := hy
  obtain ⟨q, hq⟩ := wld_has ho
  subst hst
  intro H locs ls hP hD hS hl
  have hK := X.2.2.2.2.2.1
  have he : (wld G S)[q]? = some (G.2.1 k i, .inr (k, (List.range (nF k)).map (fv G S k i))) := by rw [wld_get hq, cel_obj (cls_lt hcl)]
  have hG : GoodIn lw_gd (wsV own idx y.cls y (wsS0 y ccy nLy rety)) := goodIn_gd (fun w hw => by
    rcases List.mem_append.mp hw with h | h
    · simp only [List.mem_cons, List.not_mem_nil, or_false] at h
      rcases h with rfl | rfl | rfl | rfl
      · exact hlk
      · exact hin
      · exact hse
      · exact hini
    · exact wsS0_in hcode w h)
  have hr : va_Run p l e R s m args below meth c H locs cells slots 0 0 (F0 m pc ls ((av.reverse ++ .inr (k, i) :: st).map (tr G))) (st.map (tr G)) (QcS G Fin (Value.ref (G.2.1 k i) :: av.map (tr G)).toArray) (AD G) := va_runV (As := av.map (tr G)) (rest := st.map (tr G)) (b := G.2.1 k i) (g := F0 m pc ls ((av.reverse ++ .inr (k, i) :: st).map (tr G))) ⟨X.1, X.2.1, X.2.2.1, X.2.2.2.1, X.2.2.2.2.1⟩ (hM l G) (cwV n X.2.2.2.2.1 hG rfl rfl rfl ⟨rfl, hd⟩ hR) ⟨blind, va_recv hK hP hcl he, pre_call X hP hD hS⟩ rfl (by rw [List.length_map]; exact hn) hl.1 (by show List.map (tr G) _ = _; rw [List.map_append, List.map_reverse]; rfl) (lv_room (by rw [mcs_tr]; exact hW)) h1 ⟨hf.1, hf.2⟩
  exact ws_back (mc := 0) (ms := 0) X hS hD hl hr K
theorem ws_callS (X : CX p s m args meth c G A cc own nL ret) {y : MethodName} {ccy : ByteArray} {nLy n fr lo : Nat} {rety : Option FieldType} {av st0 : List MV} {Fin : Option MV → MS → Prop} (hM : MetS y ccy nLy rety fr lo av S Fin) (hy : CSm y ccy nLy rety n) (hlk : Cond.methodLink own idx y ∈ lw_gd) (hst : av.reverse ++ st = st0) (hn : av.length = n) (hW : mcs st ≤ 8) (hR : fr + 1 ≤ R.frames ∧ 8 + (nLy + 11) + lo ≤ R.locals) (hf : cells ≤ R.cells ∧ slots ≤ R.slots) (hdg : DC cc pc (.invokestatic idx) 3 nxt)
    (K : ∀ (v : Option MV) (S' : MS), Fin v S' → WS p l e R s m args below meth c G A nL cells slots Q nxt lv (v.toList ++ st) S') : WS p l e R s m args below meth c G A nL cells slots Q pc lv st0 S := by
  obtain ⟨h1, rfl⟩ := hdg
  obtain ⟨hin, hini, hcode, hd⟩ := hy
  subst hst
  intro H locs ls hP hD hS hl
  have hG : GoodIn lw_gd (va_wsS own idx y (wsS0 y ccy nLy rety)) := goodIn_gd (fun w hw => by
    rcases List.mem_append.mp hw with h | h
    · simp only [List.mem_cons, List.not_mem_nil, or_false] at h
      rcases h with rfl | rfl | rfl
      · exact hlk
      · exact hin
      · exact hini
    · exact wsS0_in hcode w h)
  have hr : va_Run p l e R s m args below meth c H locs cells slots 0 0 (F0 m pc ls ((av.reverse ++ st).map (tr G))) (st.map (tr G)) (QcS G Fin (av.map (tr G)).toArray) (AD G) := va_runS (As := av.map (tr G)) (rest := st.map (tr G)) (g := F0 m pc ls ((av.reverse ++ st).map (tr G))) ⟨X.1, X.2.1, X.2.2.1, X.2.2.2.1, X.2.2.2.2.1⟩ (hM l G) (va_cwS n X.2.2.2.2.1 hG rfl rfl rfl hd hR) ⟨blind, pre_call X hP hD hS⟩ rfl (by rw [List.length_map]; exact hn) hl.1 (by show List.map (tr G) _ = _; rw [List.map_append, List.map_reverse]) (lv_room (by rw [mcs_tr]; exact hW)) h1 ⟨hf.1, hf.2⟩
  exact ws_back (mc := 0) (ms := 0) X hS hD hl hr K
/-! the JDK's natives on bits -/
def y_d2r : MethodName := ⟨"java/lang/Double", "doubleToRawLongBits", "(D)J"⟩
def y_l2r : MethodName := ⟨"java/lang/Double", "longBitsToDouble", "(J)D"⟩
theorem ws_d2r (X : CX p s m args meth c G A cc own nL ret) {b : UInt64} (hlk : Cond.methodLink own idx y_d2r ∈ lw_gd) (hn : Cond.native y_d2r ∈ lw_gd) (hs : Cond.static y_d2r ∈ lw_gd) (hi : Cond.initialized "java/lang/Double" ∈ lw_gd) (hR : 1 ≤ R.frames ∧ mcs st + 15 ≤ R.locals) (hdg : DC cc pc (.invokestatic idx) 3 nxt) (K : WS p l e R s m args below meth c G A nL cells slots Q nxt lv (.inl (.long b.toInt64) :: st) S) : WS p l e R s m args below meth c G A nL cells slots Q pc lv (.inl (.double b) :: st) S := by
  obtain ⟨h1, rfl⟩ := hdg
  intro H locs ls hP hD hS hl
  exact vn_d2l X.1 X.2.1 (X.2.2.1.trans hl.1.symm) X.2.2.2.1 (X.2.2.2.2.1 _ hlk) (X.2.2.2.2.1 _ hn) (X.2.2.2.2.1 _ hs) (X.2.2.2.2.1 _ hi) hR.1 (by rw [mcs_tr]; exact hR.2) h1 (K H locs ls hP hD hS hl)
theorem ws_l2r (X : CX p s m args meth c G A cc own nL ret) {b : Int64} (hv : vn_snl2d b = false) (hlk : Cond.methodLink own idx y_l2r ∈ lw_gd) (hn : Cond.native y_l2r ∈ lw_gd) (hs : Cond.static y_l2r ∈ lw_gd) (hi : Cond.initialized "java/lang/Double" ∈ lw_gd) (hR : 1 ≤ R.frames ∧ mcs st + 15 ≤ R.locals) (hdg : DC cc pc (.invokestatic idx) 3 nxt) (K : WS p l e R s m args below meth c G A nL cells slots Q nxt lv (.inl (.double b.toUInt64) :: st) S) : WS p l e R s m args below meth c G A nL cells slots Q pc lv (.inl (.long b) :: st) S := by
  obtain ⟨h1, rfl⟩ := hdg
  intro H locs ls hP hD hS hl
  exact vn_l2d X.1 X.2.1 (X.2.2.1.trans hl.1.symm) X.2.2.2.1 (X.2.2.2.2.1 _ hlk) (X.2.2.2.2.1 _ hn) (X.2.2.2.2.1 _ hs) (X.2.2.2.2.1 _ hi) hv hR.1 (by rw [mcs_tr]; exact hR.2) h1 (K H locs ls hP hD hS hl)
end WSK
end
section
/-! links, methods, objects -/
set_option maxRecDepth 20000 in
theorem fl_IF_10 : FLk "InstrumentFiles" 10 0 0 2 1 (.object "InstrumentFiles$Tape") true := ⟨_, _, _, tyF0, rfl, by decide, rfl, rfl, by decide +kernel, rfl, tyF0_ok, nmF0, Or.inl (mem_2 5 rfl rfl)⟩
set_option maxRecDepth 20000 in
theorem fl_IF_19 : FLk "InstrumentFiles" 19 0 1 2 2 (.object "InstrumentFiles$Program") true := ⟨_, _, _, tyF0, rfl, by decide, rfl, rfl, by decide +kernel, rfl, tyF0_ok, nmF0, Or.inl (mem_2 6 rfl rfl)⟩
set_option maxRecDepth 20000 in
theorem fl_IF_26 : FLk "InstrumentFiles" 26 0 2 2 5 (.object "InstrumentFiles$Reader") true := ⟨_, _, _, tyF0, rfl, by decide, rfl, rfl, by decide +kernel, rfl, tyF0_ok, nmF0, Or.inl (mem_2 7 rfl rfl)⟩
set_option maxRecDepth 20000 in
theorem fl_IF_33 : FLk "InstrumentFiles" 33 0 3 2 6 (.object "InstrumentFiles$Judge") true := ⟨_, _, _, tyF0, rfl, by decide, rfl, rfl, by decide +kernel, rfl, tyF0_ok, nmF0, Or.inl (mem_2 8 rfl rfl)⟩
set_option maxRecDepth 20000 in
theorem fl_IF_40 : FLk "InstrumentFiles" 40 0 4 2 7 (.object "InstrumentFiles$Machine") true := ⟨_, _, _, tyF0, rfl, by decide, rfl, rfl, by decide +kernel, rfl, tyF0_ok, nmF0, Or.inl (mem_2 9 rfl rfl)⟩
set_option maxRecDepth 20000 in
theorem fl_IF_44 : FLk "InstrumentFiles" 44 1 1 0 0 (.int) false := ⟨_, _, _, tyF1, rfl, by decide, rfl, rfl, by decide +kernel, rfl, tyF1_ok, nmF1, Or.inr ⟨"InstrumentFiles", men_1 31 rfl rfl⟩⟩
set_option maxRecDepth 20000 in
theorem fl_IF_67 : FLk "InstrumentFiles" 67 0 6 0 0 (.int) false := ⟨_, _, _, tyF0, rfl, by decide, rfl, rfl, by decide +kernel, rfl, tyF0_ok, nmF0, Or.inl (mem_2 11 rfl rfl)⟩
set_option maxRecDepth 20000 in
theorem fl_IF_74 : FLk "InstrumentFiles" 74 5 1 0 0 (.int) false := ⟨_, _, _, tyF5, rfl, by decide, rfl, rfl, by decide +kernel, rfl, tyF5_ok, nmF5, Or.inr ⟨"InstrumentFiles", men_1 164 rfl rfl⟩⟩
set_option maxRecDepth 20000 in
theorem fl_IF_77 : FLk "InstrumentFiles" 77 0 5 0 0 (.int) false := ⟨_, _, _, tyF0, rfl, by decide, rfl, rfl, by decide +kernel, rfl, tyF0_ok, nmF0, Or.inl (mem_2 10 rfl rfl)⟩
set_option maxRecDepth 20000 in
theorem fl_IF_80 : FLk "InstrumentFiles" 80 2 3 0 0 (.int) false := ⟨_, _, _, tyF2, rfl, by decide, rfl, rfl, by decide +kernel, rfl, tyF2_ok, nmF2, Or.inr ⟨"InstrumentFiles", men_1 145 rfl rfl⟩⟩
set_option maxRecDepth 20000 in
theorem fl_IF_83 : FLk "InstrumentFiles" 83 5 0 0 0 (.int) false := ⟨_, _, _, tyF5, rfl, by decide, rfl, rfl, by decide +kernel, rfl, tyF5_ok, nmF5, Or.inr ⟨"InstrumentFiles", men_1 162 rfl rfl⟩⟩
set_option maxRecDepth 20000 in
theorem fl_IF_90 : FLk "InstrumentFiles" 90 6 0 0 0 (.int) false := ⟨_, _, _, tyF6, rfl, by decide, rfl, rfl, by decide +kernel, rfl, tyF6_ok, nmF6, Or.inr ⟨"InstrumentFiles", men_1 177 rfl rfl⟩⟩
set_option maxRecDepth 20000 in
theorem fl_IF_108 : FLk "InstrumentFiles" 108 4 1 0 0 (.int) false := ⟨_, _, _, tyF4, rfl, by decide, rfl, rfl, by decide +kernel, rfl, tyF4_ok, nmF4, Or.inr ⟨"InstrumentFiles", men_1 79 rfl rfl⟩⟩
set_option maxRecDepth 20000 in
theorem fl_IF_113 : FLk "InstrumentFiles" 113 4 2 0 0 (.int) false := ⟨_, _, _, tyF4, rfl, by decide, rfl, rfl, by decide +kernel, rfl, tyF4_ok, nmF4, Or.inr ⟨"InstrumentFiles", men_1 82 rfl rfl⟩⟩
set_option maxRecDepth 20000 in
theorem fl_IF_116 : FLk "InstrumentFiles" 116 4 3 0 0 (.int) false := ⟨_, _, _, tyF4, rfl, by decide, rfl, rfl, by decide +kernel, rfl, tyF4_ok, nmF4, Or.inr ⟨"InstrumentFiles", men_1 85 rfl rfl⟩⟩
set_option maxRecDepth 20000 in
theorem fl_IF_119 : FLk "InstrumentFiles" 119 4 4 0 0 (.int) false := ⟨_, _, _, tyF4, rfl, by decide, rfl, rfl, by decide +kernel, rfl, tyF4_ok, nmF4, Or.inr ⟨"InstrumentFiles", men_1 87 rfl rfl⟩⟩
set_option maxRecDepth 20000 in
theorem fl_IF_122 : FLk "InstrumentFiles" 122 4 5 0 0 (.int) false := ⟨_, _, _, tyF4, rfl, by decide, rfl, rfl, by decide +kernel, rfl, tyF4_ok, nmF4, Or.inr ⟨"InstrumentFiles", men_1 92 rfl rfl⟩⟩
set_option maxRecDepth 20000 in
theorem fl_IF_123 : FLk "InstrumentFiles" 123 4 6 0 0 (.int) false := ⟨_, _, _, tyF4, rfl, by decide, rfl, rfl, by decide +kernel, rfl, tyF4_ok, nmF4, Or.inr ⟨"InstrumentFiles", men_1 96 rfl rfl⟩⟩
set_option maxRecDepth 20000 in
theorem fl_IF_126 : FLk "InstrumentFiles" 126 4 0 0 0 (.int) false := ⟨_, _, _, tyF4, rfl, by decide, rfl, rfl, by decide +kernel, rfl, tyF4_ok, nmF4, Or.inr ⟨"InstrumentFiles", men_1 75 rfl rfl⟩⟩
set_option maxRecDepth 20000 in
theorem fl_IF_129 : FLk "InstrumentFiles" 129 4 7 0 0 (.int) false := ⟨_, _, _, tyF4, rfl, by decide, rfl, rfl, by decide +kernel, rfl, tyF4_ok, nmF4, Or.inr ⟨"InstrumentFiles", men_1 99 rfl rfl⟩⟩
set_option maxRecDepth 20000 in
theorem fl_IF_136 : FLk "InstrumentFiles" 136 2 0 2 3 (.object "InstrumentFiles$Pool") true := ⟨_, _, _, tyF2, rfl, by decide, rfl, rfl, by decide +kernel, rfl, tyF2_ok, nmF2, Or.inr ⟨"InstrumentFiles", men_1 137 rfl rfl⟩⟩
set_option maxRecDepth 20000 in
theorem fl_IF_183 : FLk "InstrumentFiles" 183 7 9 0 0 (.int) false := ⟨_, _, _, tyF7, rfl, by decide, rfl, rfl, by decide +kernel, rfl, tyF7_ok, nmF7, Or.inr ⟨"InstrumentFiles", men_1 203 rfl rfl⟩⟩
set_option maxRecDepth 20000 in
theorem fl_IF_186 : FLk "InstrumentFiles" 186 7 14 1 0 (.long) false := ⟨_, _, _, tyF7, rfl, by decide, rfl, rfl, by decide +kernel, rfl, tyF7_ok, nmF7, Or.inr ⟨"InstrumentFiles", men_1 213 rfl rfl⟩⟩
set_option maxRecDepth 20000 in
theorem fl_IF_190 : FLk "InstrumentFiles" 190 7 10 0 0 (.int) false := ⟨_, _, _, tyF7, rfl, by decide, rfl, rfl, by decide +kernel, rfl, tyF7_ok, nmF7, Or.inr ⟨"InstrumentFiles", men_1 205 rfl rfl⟩⟩
set_option maxRecDepth 20000 in
theorem fl_IF_193 : FLk "InstrumentFiles" 193 7 11 0 0 (.int) false := ⟨_, _, _, tyF7, rfl, by decide, rfl, rfl, by decide +kernel, rfl, tyF7_ok, nmF7, Or.inr ⟨"InstrumentFiles", men_1 207 rfl rfl⟩⟩
set_option maxRecDepth 20000 in
theorem fl_IF_196 : FLk "InstrumentFiles" 196 7 12 0 0 (.int) false := ⟨_, _, _, tyF7, rfl, by decide, rfl, rfl, by decide +kernel, rfl, tyF7_ok, nmF7, Or.inr ⟨"InstrumentFiles", men_1 209 rfl rfl⟩⟩
set_option maxRecDepth 20000 in
theorem fl_IF_199 : FLk "InstrumentFiles" 199 7 13 0 0 (.int) false := ⟨_, _, _, tyF7, rfl, by decide, rfl, rfl, by decide +kernel, rfl, tyF7_ok, nmF7, Or.inr ⟨"InstrumentFiles", men_1 211 rfl rfl⟩⟩
set_option maxRecDepth 20000 in
theorem fl_IF_202 : FLk "InstrumentFiles" 202 3 3 0 0 (.int) false := ⟨_, _, _, tyF3, rfl, by decide, rfl, rfl, by decide +kernel, rfl, tyF3_ok, nmF3, Or.inr ⟨"InstrumentFiles", men_1 55 rfl rfl⟩⟩
set_option maxRecDepth 20000 in
theorem fl_IF_205 : FLk "InstrumentFiles" 205 2 2 0 0 (.int) false := ⟨_, _, _, tyF2, rfl, by decide, rfl, rfl, by decide +kernel, rfl, tyF2_ok, nmF2, Or.inr ⟨"InstrumentFiles", men_1 142 rfl rfl⟩⟩
set_option maxRecDepth 20000 in
theorem fl_Judge_20 : FLk "InstrumentFiles$Judge" 20 4 8 0 0 (.int) false := ⟨_, _, _, tyF4, rfl, by decide, rfl, rfl, by decide +kernel, rfl, tyF4_ok, nmF4, Or.inr ⟨"InstrumentFiles", men_1 100 rfl rfl⟩⟩
set_option maxRecDepth 20000 in
theorem fl_Judge_24 : FLk "InstrumentFiles$Judge" 24 6 1 0 0 (.int) false := ⟨_, _, _, tyF6, rfl, by decide, rfl, rfl, by decide +kernel, rfl, tyF6_ok, nmF6, Or.inl (mem_1 178 rfl rfl)⟩
set_option maxRecDepth 20000 in
theorem fl_Judge_29 : FLk "InstrumentFiles$Judge" 29 6 2 3 0 (.boolean) false := ⟨_, _, _, tyF6, rfl, by decide, rfl, rfl, by decide +kernel, rfl, tyF6_ok, nmF6, Or.inl (mem_1 179 rfl rfl)⟩
set_option maxRecDepth 20000 in
theorem fl_Judge_33 : FLk "InstrumentFiles$Judge" 33 4 5 0 0 (.int) false := ⟨_, _, _, tyF4, rfl, by decide, rfl, rfl, by decide +kernel, rfl, tyF4_ok, nmF4, Or.inr ⟨"InstrumentFiles", men_1 89 rfl rfl⟩⟩
set_option maxRecDepth 20000 in
theorem fl_Judge_36 : FLk "InstrumentFiles$Judge" 36 6 0 0 0 (.int) false := ⟨_, _, _, tyF6, rfl, by decide, rfl, rfl, by decide +kernel, rfl, tyF6_ok, nmF6, Or.inl (mem_1 176 rfl rfl)⟩
set_option maxRecDepth 20000 in
theorem fl_Judge_57 : FLk "InstrumentFiles$Judge" 57 4 6 0 0 (.int) false := ⟨_, _, _, tyF4, rfl, by decide, rfl, rfl, by decide +kernel, rfl, tyF4_ok, nmF4, Or.inr ⟨"InstrumentFiles", men_1 93 rfl rfl⟩⟩
set_option maxRecDepth 20000 in
theorem fl_Judge_111 : FLk "InstrumentFiles$Judge" 111 2 0 2 3 (.object "InstrumentFiles$Pool") true := ⟨_, _, _, tyF2, rfl, by decide, rfl, rfl, by decide +kernel, rfl, tyF2_ok, nmF2, Or.inr ⟨"InstrumentFiles", men_1 136 rfl rfl⟩⟩
set_option maxRecDepth 20000 in
theorem fl_Judge_123 : FLk "InstrumentFiles$Judge" 123 4 3 0 0 (.int) false := ⟨_, _, _, tyF4, rfl, by decide, rfl, rfl, by decide +kernel, rfl, tyF4_ok, nmF4, Or.inr ⟨"InstrumentFiles", men_1 83 rfl rfl⟩⟩
set_option maxRecDepth 20000 in
theorem fl_Judge_129 : FLk "InstrumentFiles$Judge" 129 4 1 0 0 (.int) false := ⟨_, _, _, tyF4, rfl, by decide, rfl, rfl, by decide +kernel, rfl, tyF4_ok, nmF4, Or.inr ⟨"InstrumentFiles", men_1 77 rfl rfl⟩⟩
set_option maxRecDepth 20000 in
theorem fl_Judge_139 : FLk "InstrumentFiles$Judge" 139 4 2 0 0 (.int) false := ⟨_, _, _, tyF4, rfl, by decide, rfl, rfl, by decide +kernel, rfl, tyF4_ok, nmF4, Or.inr ⟨"InstrumentFiles", men_1 81 rfl rfl⟩⟩
set_option maxRecDepth 20000 in
theorem fl_Judge_169 : FLk "InstrumentFiles$Judge" 169 4 4 0 0 (.int) false := ⟨_, _, _, tyF4, rfl, by decide, rfl, rfl, by decide +kernel, rfl, tyF4_ok, nmF4, Or.inr ⟨"InstrumentFiles", men_1 88 rfl rfl⟩⟩
set_option maxRecDepth 20000 in
theorem fl_M_7 : FLk "InstrumentFilesModel" 7 8 0 2 24 (.array .int) true := ⟨_, _, _, tyF8, rfl, by decide, rfl, rfl, by decide +kernel, rfl, tyF8_ok, nmF8, Or.inl (mem_4 71 rfl rfl)⟩
set_option maxRecDepth 20000 in
theorem fl_M_13 : FLk "InstrumentFilesModel" 13 8 2 2 25 (.array .double) true := ⟨_, _, _, tyF8, rfl, by decide, rfl, rfl, by decide +kernel, rfl, tyF8_ok, nmF8, Or.inl (mem_4 73 rfl rfl)⟩
set_option maxRecDepth 20000 in
theorem fl_M_17 : FLk "InstrumentFilesModel" 17 8 5 2 26 (.array .int) true := ⟨_, _, _, tyF8, rfl, by decide, rfl, rfl, by decide +kernel, rfl, tyF8_ok, nmF8, Or.inl (mem_4 76 rfl rfl)⟩
set_option maxRecDepth 20000 in
theorem fl_M_20 : FLk "InstrumentFilesModel" 20 8 6 2 27 (.array .long) true := ⟨_, _, _, tyF8, rfl, by decide, rfl, rfl, by decide +kernel, rfl, tyF8_ok, nmF8, Or.inl (mem_4 77 rfl rfl)⟩
set_option maxRecDepth 20000 in
theorem fl_M_24 : FLk "InstrumentFilesModel" 24 8 7 2 28 (.array .int) true := ⟨_, _, _, tyF8, rfl, by decide, rfl, rfl, by decide +kernel, rfl, tyF8_ok, nmF8, Or.inl (mem_4 78 rfl rfl)⟩
set_option maxRecDepth 20000 in
theorem fl_M_27 : FLk "InstrumentFilesModel" 27 8 8 2 29 (.array .int) true := ⟨_, _, _, tyF8, rfl, by decide, rfl, rfl, by decide +kernel, rfl, tyF8_ok, nmF8, Or.inl (mem_4 79 rfl rfl)⟩
set_option maxRecDepth 20000 in
theorem fl_M_30 : FLk "InstrumentFilesModel" 30 8 10 2 30 (.array .int) true := ⟨_, _, _, tyF8, rfl, by decide, rfl, rfl, by decide +kernel, rfl, tyF8_ok, nmF8, Or.inl (mem_4 81 rfl rfl)⟩
set_option maxRecDepth 20000 in
theorem fl_M_33 : FLk "InstrumentFilesModel" 33 8 11 2 31 (.array .int) true := ⟨_, _, _, tyF8, rfl, by decide, rfl, rfl, by decide +kernel, rfl, tyF8_ok, nmF8, Or.inl (mem_4 82 rfl rfl)⟩
set_option maxRecDepth 20000 in
theorem fl_M_36 : FLk "InstrumentFilesModel" 36 8 12 2 32 (.array .int) true := ⟨_, _, _, tyF8, rfl, by decide, rfl, rfl, by decide +kernel, rfl, tyF8_ok, nmF8, Or.inl (mem_4 83 rfl rfl)⟩
set_option maxRecDepth 20000 in
theorem fl_M_39 : FLk "InstrumentFilesModel" 39 8 13 2 33 (.array .int) true := ⟨_, _, _, tyF8, rfl, by decide, rfl, rfl, by decide +kernel, rfl, tyF8_ok, nmF8, Or.inl (mem_4 84 rfl rfl)⟩
set_option maxRecDepth 20000 in
theorem fl_M_42 : FLk "InstrumentFilesModel" 42 8 14 2 34 (.array .int) true := ⟨_, _, _, tyF8, rfl, by decide, rfl, rfl, by decide +kernel, rfl, tyF8_ok, nmF8, Or.inl (mem_4 85 rfl rfl)⟩
set_option maxRecDepth 20000 in
theorem fl_M_45 : FLk "InstrumentFilesModel" 45 8 15 2 35 (.array .int) true := ⟨_, _, _, tyF8, rfl, by decide, rfl, rfl, by decide +kernel, rfl, tyF8_ok, nmF8, Or.inl (mem_4 86 rfl rfl)⟩
set_option maxRecDepth 20000 in
theorem fl_M_48 : FLk "InstrumentFilesModel" 48 8 16 2 36 (.array .int) true := ⟨_, _, _, tyF8, rfl, by decide, rfl, rfl, by decide +kernel, rfl, tyF8_ok, nmF8, Or.inl (mem_4 87 rfl rfl)⟩
set_option maxRecDepth 20000 in
theorem fl_M_51 : FLk "InstrumentFilesModel" 51 8 17 2 37 (.array .int) true := ⟨_, _, _, tyF8, rfl, by decide, rfl, rfl, by decide +kernel, rfl, tyF8_ok, nmF8, Or.inl (mem_4 88 rfl rfl)⟩
set_option maxRecDepth 20000 in
theorem fl_M_54 : FLk "InstrumentFilesModel" 54 8 18 2 38 (.array .int) true := ⟨_, _, _, tyF8, rfl, by decide, rfl, rfl, by decide +kernel, rfl, tyF8_ok, nmF8, Or.inl (mem_4 89 rfl rfl)⟩
set_option maxRecDepth 20000 in
theorem fl_M_57 : FLk "InstrumentFilesModel" 57 8 19 2 39 (.array .int) true := ⟨_, _, _, tyF8, rfl, by decide, rfl, rfl, by decide +kernel, rfl, tyF8_ok, nmF8, Or.inl (mem_4 90 rfl rfl)⟩
set_option maxRecDepth 20000 in
theorem fl_M_60 : FLk "InstrumentFilesModel" 60 8 20 2 40 (.array .int) true := ⟨_, _, _, tyF8, rfl, by decide, rfl, rfl, by decide +kernel, rfl, tyF8_ok, nmF8, Or.inl (mem_4 91 rfl rfl)⟩
set_option maxRecDepth 20000 in
theorem fl_M_63 : FLk "InstrumentFilesModel" 63 8 21 2 41 (.array .int) true := ⟨_, _, _, tyF8, rfl, by decide, rfl, rfl, by decide +kernel, rfl, tyF8_ok, nmF8, Or.inl (mem_4 92 rfl rfl)⟩
set_option maxRecDepth 20000 in
theorem fl_M_66 : FLk "InstrumentFilesModel" 66 8 22 2 42 (.array .int) true := ⟨_, _, _, tyF8, rfl, by decide, rfl, rfl, by decide +kernel, rfl, tyF8_ok, nmF8, Or.inl (mem_4 93 rfl rfl)⟩
set_option maxRecDepth 20000 in
theorem fl_M_69 : FLk "InstrumentFilesModel" 69 8 23 2 43 (.array .boolean) true := ⟨_, _, _, tyF8, rfl, by decide, rfl, rfl, by decide +kernel, rfl, tyF8_ok, nmF8, Or.inl (mem_4 94 rfl rfl)⟩
set_option maxRecDepth 20000 in
theorem fl_M_73 : FLk "InstrumentFilesModel" 73 8 24 2 44 (.array .int) true := ⟨_, _, _, tyF8, rfl, by decide, rfl, rfl, by decide +kernel, rfl, tyF8_ok, nmF8, Or.inl (mem_4 95 rfl rfl)⟩
set_option maxRecDepth 20000 in
theorem fl_M_76 : FLk "InstrumentFilesModel" 76 8 25 2 45 (.array .int) true := ⟨_, _, _, tyF8, rfl, by decide, rfl, rfl, by decide +kernel, rfl, tyF8_ok, nmF8, Or.inl (mem_4 96 rfl rfl)⟩
set_option maxRecDepth 20000 in
theorem fl_M_79 : FLk "InstrumentFilesModel" 79 8 26 2 46 (.array .int) true := ⟨_, _, _, tyF8, rfl, by decide, rfl, rfl, by decide +kernel, rfl, tyF8_ok, nmF8, Or.inl (mem_4 97 rfl rfl)⟩
set_option maxRecDepth 20000 in
theorem fl_M_82 : FLk "InstrumentFilesModel" 82 8 27 2 47 (.array .int) true := ⟨_, _, _, tyF8, rfl, by decide, rfl, rfl, by decide +kernel, rfl, tyF8_ok, nmF8, Or.inl (mem_4 98 rfl rfl)⟩
set_option maxRecDepth 20000 in
theorem fl_M_85 : FLk "InstrumentFilesModel" 85 8 34 2 48 (.array .int) true := ⟨_, _, _, tyF8, rfl, by decide, rfl, rfl, by decide +kernel, rfl, tyF8_ok, nmF8, Or.inl (mem_4 105 rfl rfl)⟩
set_option maxRecDepth 20000 in
theorem fl_M_88 : FLk "InstrumentFilesModel" 88 8 35 2 49 (.array .int) true := ⟨_, _, _, tyF8, rfl, by decide, rfl, rfl, by decide +kernel, rfl, tyF8_ok, nmF8, Or.inl (mem_4 106 rfl rfl)⟩
set_option maxRecDepth 20000 in
theorem fl_M_91 : FLk "InstrumentFilesModel" 91 8 37 2 50 (.array .int) true := ⟨_, _, _, tyF8, rfl, by decide, rfl, rfl, by decide +kernel, rfl, tyF8_ok, nmF8, Or.inl (mem_4 108 rfl rfl)⟩
set_option maxRecDepth 20000 in
theorem fl_M_94 : FLk "InstrumentFilesModel" 94 8 38 2 51 (.array .int) true := ⟨_, _, _, tyF8, rfl, by decide, rfl, rfl, by decide +kernel, rfl, tyF8_ok, nmF8, Or.inl (mem_4 109 rfl rfl)⟩
set_option maxRecDepth 20000 in
theorem fl_M_97 : FLk "InstrumentFilesModel" 97 8 39 2 52 (.array .int) true := ⟨_, _, _, tyF8, rfl, by decide, rfl, rfl, by decide +kernel, rfl, tyF8_ok, nmF8, Or.inl (mem_4 110 rfl rfl)⟩
set_option maxRecDepth 20000 in
theorem fl_M_100 : FLk "InstrumentFilesModel" 100 8 40 2 53 (.array .int) true := ⟨_, _, _, tyF8, rfl, by decide, rfl, rfl, by decide +kernel, rfl, tyF8_ok, nmF8, Or.inl (mem_4 111 rfl rfl)⟩
set_option maxRecDepth 20000 in
theorem fl_M_103 : FLk "InstrumentFilesModel" 103 8 41 2 54 (.array .double) true := ⟨_, _, _, tyF8, rfl, by decide, rfl, rfl, by decide +kernel, rfl, tyF8_ok, nmF8, Or.inl (mem_4 112 rfl rfl)⟩
set_option maxRecDepth 20000 in
theorem fl_M_110 : FLk "InstrumentFilesModel" 110 8 1 0 0 (.int) false := ⟨_, _, _, tyF8, rfl, by decide, rfl, rfl, by decide +kernel, rfl, tyF8_ok, nmF8, Or.inl (mem_4 72 rfl rfl)⟩
set_option maxRecDepth 20000 in
theorem fl_M_118 : FLk "InstrumentFilesModel" 118 8 28 0 0 (.int) false := ⟨_, _, _, tyF8, rfl, by decide, rfl, rfl, by decide +kernel, rfl, tyF8_ok, nmF8, Or.inl (mem_4 99 rfl rfl)⟩
set_option maxRecDepth 20000 in
theorem fl_M_121 : FLk "InstrumentFilesModel" 121 8 29 0 0 (.int) false := ⟨_, _, _, tyF8, rfl, by decide, rfl, rfl, by decide +kernel, rfl, tyF8_ok, nmF8, Or.inl (mem_4 100 rfl rfl)⟩
set_option maxRecDepth 20000 in
theorem fl_M_124 : FLk "InstrumentFilesModel" 124 8 31 0 0 (.int) false := ⟨_, _, _, tyF8, rfl, by decide, rfl, rfl, by decide +kernel, rfl, tyF8_ok, nmF8, Or.inl (mem_4 102 rfl rfl)⟩
set_option maxRecDepth 20000 in
theorem fl_M_138 : FLk "InstrumentFilesModel" 138 8 4 0 0 (.int) false := ⟨_, _, _, tyF8, rfl, by decide, rfl, rfl, by decide +kernel, rfl, tyF8_ok, nmF8, Or.inl (mem_4 75 rfl rfl)⟩
set_option maxRecDepth 20000 in
theorem fl_M_156 : FLk "InstrumentFilesModel" 156 8 3 0 0 (.int) false := ⟨_, _, _, tyF8, rfl, by decide, rfl, rfl, by decide +kernel, rfl, tyF8_ok, nmF8, Or.inl (mem_4 74 rfl rfl)⟩
set_option maxRecDepth 20000 in
theorem fl_M_162 : FLk "InstrumentFilesModel" 162 8 9 0 0 (.int) false := ⟨_, _, _, tyF8, rfl, by decide, rfl, rfl, by decide +kernel, rfl, tyF8_ok, nmF8, Or.inl (mem_4 80 rfl rfl)⟩
set_option maxRecDepth 20000 in
theorem fl_M_168 : FLk "InstrumentFilesModel" 168 8 30 0 0 (.int) false := ⟨_, _, _, tyF8, rfl, by decide, rfl, rfl, by decide +kernel, rfl, tyF8_ok, nmF8, Or.inl (mem_4 101 rfl rfl)⟩
set_option maxRecDepth 20000 in
theorem fl_M_177 : FLk "InstrumentFilesModel" 177 8 33 0 0 (.int) false := ⟨_, _, _, tyF8, rfl, by decide, rfl, rfl, by decide +kernel, rfl, tyF8_ok, nmF8, Or.inl (mem_4 104 rfl rfl)⟩
set_option maxRecDepth 20000 in
theorem fl_M_180 : FLk "InstrumentFilesModel" 180 8 32 3 0 (.boolean) false := ⟨_, _, _, tyF8, rfl, by decide, rfl, rfl, by decide +kernel, rfl, tyF8_ok, nmF8, Or.inl (mem_4 103 rfl rfl)⟩
set_option maxRecDepth 20000 in
theorem fl_M_243 : FLk "InstrumentFilesModel" 243 8 36 0 0 (.int) false := ⟨_, _, _, tyF8, rfl, by decide, rfl, rfl, by decide +kernel, rfl, tyF8_ok, nmF8, Or.inl (mem_4 107 rfl rfl)⟩
set_option maxRecDepth 20000 in
theorem fl_M_246 : FLk "InstrumentFilesModel" 246 8 48 0 0 (.int) false := ⟨_, _, _, tyF8, rfl, by decide, rfl, rfl, by decide +kernel, rfl, tyF8_ok, nmF8, Or.inl (mem_4 119 rfl rfl)⟩
set_option maxRecDepth 20000 in
theorem fl_M_249 : FLk "InstrumentFilesModel" 249 8 44 0 0 (.int) false := ⟨_, _, _, tyF8, rfl, by decide, rfl, rfl, by decide +kernel, rfl, tyF8_ok, nmF8, Or.inl (mem_4 115 rfl rfl)⟩
set_option maxRecDepth 20000 in
theorem fl_M_252 : FLk "InstrumentFilesModel" 252 8 47 0 0 (.int) false := ⟨_, _, _, tyF8, rfl, by decide, rfl, rfl, by decide +kernel, rfl, tyF8_ok, nmF8, Or.inl (mem_4 118 rfl rfl)⟩
set_option maxRecDepth 20000 in
theorem fl_M_255 : FLk "InstrumentFilesModel" 255 8 42 3 0 (.boolean) false := ⟨_, _, _, tyF8, rfl, by decide, rfl, rfl, by decide +kernel, rfl, tyF8_ok, nmF8, Or.inl (mem_4 113 rfl rfl)⟩
set_option maxRecDepth 20000 in
theorem fl_M_258 : FLk "InstrumentFilesModel" 258 8 43 1 0 (.long) false := ⟨_, _, _, tyF8, rfl, by decide, rfl, rfl, by decide +kernel, rfl, tyF8_ok, nmF8, Or.inl (mem_4 114 rfl rfl)⟩
set_option maxRecDepth 20000 in
theorem fl_M_262 : FLk "InstrumentFilesModel" 262 8 45 0 0 (.int) false := ⟨_, _, _, tyF8, rfl, by decide, rfl, rfl, by decide +kernel, rfl, tyF8_ok, nmF8, Or.inl (mem_4 116 rfl rfl)⟩
set_option maxRecDepth 20000 in
theorem fl_M_265 : FLk "InstrumentFilesModel" 265 8 46 0 0 (.int) false := ⟨_, _, _, tyF8, rfl, by decide, rfl, rfl, by decide +kernel, rfl, tyF8_ok, nmF8, Or.inl (mem_4 117 rfl rfl)⟩
set_option maxRecDepth 20000 in
theorem fl_Mach_11 : FLk "InstrumentFiles$Machine" 11 7 0 2 18 (.array .long) true := ⟨_, _, _, tyF7, rfl, by decide, rfl, rfl, by decide +kernel, rfl, tyF7_ok, nmF7, Or.inl (mem_1 193 rfl rfl)⟩
set_option maxRecDepth 20000 in
theorem fl_Mach_15 : FLk "InstrumentFiles$Machine" 15 7 1 2 19 (.array .long) true := ⟨_, _, _, tyF7, rfl, by decide, rfl, rfl, by decide +kernel, rfl, tyF7_ok, nmF7, Or.inl (mem_1 194 rfl rfl)⟩
set_option maxRecDepth 20000 in
theorem fl_Mach_18 : FLk "InstrumentFiles$Machine" 18 7 2 2 20 (.array .long) true := ⟨_, _, _, tyF7, rfl, by decide, rfl, rfl, by decide +kernel, rfl, tyF7_ok, nmF7, Or.inl (mem_1 195 rfl rfl)⟩
set_option maxRecDepth 20000 in
theorem fl_Mach_21 : FLk "InstrumentFiles$Machine" 21 7 3 2 21 (.array .int) true := ⟨_, _, _, tyF7, rfl, by decide, rfl, rfl, by decide +kernel, rfl, tyF7_ok, nmF7, Or.inl (mem_1 196 rfl rfl)⟩
set_option maxRecDepth 20000 in
theorem fl_Mach_25 : FLk "InstrumentFiles$Machine" 25 7 4 2 22 (.array .int) true := ⟨_, _, _, tyF7, rfl, by decide, rfl, rfl, by decide +kernel, rfl, tyF7_ok, nmF7, Or.inl (mem_1 197 rfl rfl)⟩
set_option maxRecDepth 20000 in
theorem fl_Mach_28 : FLk "InstrumentFiles$Machine" 28 7 5 2 23 (.array .int) true := ⟨_, _, _, tyF7, rfl, by decide, rfl, rfl, by decide +kernel, rfl, tyF7_ok, nmF7, Or.inl (mem_1 198 rfl rfl)⟩
set_option maxRecDepth 20000 in
theorem fl_Mach_31 : FLk "InstrumentFiles$Machine" 31 7 9 0 0 (.int) false := ⟨_, _, _, tyF7, rfl, by decide, rfl, rfl, by decide +kernel, rfl, tyF7_ok, nmF7, Or.inl (mem_1 202 rfl rfl)⟩
set_option maxRecDepth 20000 in
theorem fl_Mach_35 : FLk "InstrumentFiles$Machine" 35 7 10 0 0 (.int) false := ⟨_, _, _, tyF7, rfl, by decide, rfl, rfl, by decide +kernel, rfl, tyF7_ok, nmF7, Or.inl (mem_1 204 rfl rfl)⟩
set_option maxRecDepth 20000 in
theorem fl_Mach_38 : FLk "InstrumentFiles$Machine" 38 7 11 0 0 (.int) false := ⟨_, _, _, tyF7, rfl, by decide, rfl, rfl, by decide +kernel, rfl, tyF7_ok, nmF7, Or.inl (mem_1 206 rfl rfl)⟩
set_option maxRecDepth 20000 in
theorem fl_Mach_41 : FLk "InstrumentFiles$Machine" 41 7 12 0 0 (.int) false := ⟨_, _, _, tyF7, rfl, by decide, rfl, rfl, by decide +kernel, rfl, tyF7_ok, nmF7, Or.inl (mem_1 208 rfl rfl)⟩
set_option maxRecDepth 20000 in
theorem fl_Mach_44 : FLk "InstrumentFiles$Machine" 44 7 13 0 0 (.int) false := ⟨_, _, _, tyF7, rfl, by decide, rfl, rfl, by decide +kernel, rfl, tyF7_ok, nmF7, Or.inl (mem_1 210 rfl rfl)⟩
set_option maxRecDepth 20000 in
theorem fl_Mach_47 : FLk "InstrumentFiles$Machine" 47 7 14 1 0 (.long) false := ⟨_, _, _, tyF7, rfl, by decide, rfl, rfl, by decide +kernel, rfl, tyF7_ok, nmF7, Or.inl (mem_1 212 rfl rfl)⟩
set_option maxRecDepth 20000 in
theorem fl_Mach_51 : FLk "InstrumentFiles$Machine" 51 7 7 0 0 (.int) false := ⟨_, _, _, tyF7, rfl, by decide, rfl, rfl, by decide +kernel, rfl, tyF7_ok, nmF7, Or.inl (mem_1 200 rfl rfl)⟩
set_option maxRecDepth 20000 in
theorem fl_Mach_54 : FLk "InstrumentFiles$Machine" 54 7 6 0 0 (.int) false := ⟨_, _, _, tyF7, rfl, by decide, rfl, rfl, by decide +kernel, rfl, tyF7_ok, nmF7, Or.inl (mem_1 199 rfl rfl)⟩
set_option maxRecDepth 20000 in
theorem fl_Mach_61 : FLk "InstrumentFiles$Machine" 61 4 1 0 0 (.int) false := ⟨_, _, _, tyF4, rfl, by decide, rfl, rfl, by decide +kernel, rfl, tyF4_ok, nmF4, Or.inr ⟨"InstrumentFiles", men_1 76 rfl rfl⟩⟩
set_option maxRecDepth 20000 in
theorem fl_Mach_88 : FLk "InstrumentFiles$Machine" 88 7 8 0 0 (.int) false := ⟨_, _, _, tyF7, rfl, by decide, rfl, rfl, by decide +kernel, rfl, tyF7_ok, nmF7, Or.inl (mem_1 201 rfl rfl)⟩
set_option maxRecDepth 20000 in
theorem fl_Mach_129 : FLk "InstrumentFiles$Machine" 129 2 0 2 3 (.object "InstrumentFiles$Pool") true := ⟨_, _, _, tyF2, rfl, by decide, rfl, rfl, by decide +kernel, rfl, tyF2_ok, nmF2, Or.inr ⟨"InstrumentFiles", men_1 138 rfl rfl⟩⟩
set_option maxRecDepth 20000 in
theorem fl_Meth_9 : FLk "InstrumentFiles$Method" 9 4 9 2 14 (.array .int) true := ⟨_, _, _, tyF4, rfl, by decide, rfl, rfl, by decide +kernel, rfl, tyF4_ok, nmF4, Or.inl (mem_1 103 rfl rfl)⟩
set_option maxRecDepth 20000 in
theorem fl_Meth_15 : FLk "InstrumentFiles$Method" 15 4 10 2 15 (.array .int) true := ⟨_, _, _, tyF4, rfl, by decide, rfl, rfl, by decide +kernel, rfl, tyF4_ok, nmF4, Or.inl (mem_1 104 rfl rfl)⟩
set_option maxRecDepth 20000 in
theorem fl_Meth_18 : FLk "InstrumentFiles$Method" 18 4 11 2 16 (.array .int) true := ⟨_, _, _, tyF4, rfl, by decide, rfl, rfl, by decide +kernel, rfl, tyF4_ok, nmF4, Or.inl (mem_1 105 rfl rfl)⟩
set_option maxRecDepth 20000 in
theorem fl_Meth_21 : FLk "InstrumentFiles$Method" 21 4 12 2 17 (.array .int) true := ⟨_, _, _, tyF4, rfl, by decide, rfl, rfl, by decide +kernel, rfl, tyF4_ok, nmF4, Or.inl (mem_1 106 rfl rfl)⟩
set_option maxRecDepth 20000 in
theorem fl_Meth_24 : FLk "InstrumentFiles$Method" 24 4 7 0 0 (.int) false := ⟨_, _, _, tyF4, rfl, by decide, rfl, rfl, by decide +kernel, rfl, tyF4_ok, nmF4, Or.inl (mem_1 97 rfl rfl)⟩
set_option maxRecDepth 20000 in
theorem fl_Meth_28 : FLk "InstrumentFiles$Method" 28 4 8 0 0 (.int) false := ⟨_, _, _, tyF4, rfl, by decide, rfl, rfl, by decide +kernel, rfl, tyF4_ok, nmF4, Or.inl (mem_1 101 rfl rfl)⟩
set_option maxRecDepth 20000 in
theorem fl_Meth_37 : FLk "InstrumentFiles$Method" 37 4 5 0 0 (.int) false := ⟨_, _, _, tyF4, rfl, by decide, rfl, rfl, by decide +kernel, rfl, tyF4_ok, nmF4, Or.inl (mem_1 90 rfl rfl)⟩
set_option maxRecDepth 20000 in
theorem fl_Meth_40 : FLk "InstrumentFiles$Method" 40 4 6 0 0 (.int) false := ⟨_, _, _, tyF4, rfl, by decide, rfl, rfl, by decide +kernel, rfl, tyF4_ok, nmF4, Or.inl (mem_1 94 rfl rfl)⟩
set_option maxRecDepth 20000 in
theorem sl_Ops_13 : Cond.fieldLink "InstrumentFiles$Ops" 13 "InstrumentFiles$Ops" (stn 0) "[I" ∈ lw_gd := mem_3 29 rfl rfl
set_option maxRecDepth 20000 in
theorem sl_Ops_17 : Cond.fieldLink "InstrumentFiles$Ops" 17 "InstrumentFiles$Ops" (stn 1) "[I" ∈ lw_gd := mem_3 34 rfl rfl
set_option maxRecDepth 20000 in
theorem sl_Ops_20 : Cond.fieldLink "InstrumentFiles$Ops" 20 "InstrumentFiles$Ops" (stn 2) "[I" ∈ lw_gd := mem_3 41 rfl rfl
set_option maxRecDepth 20000 in
theorem fl_Pool_9 : FLk "InstrumentFiles$Pool" 9 3 0 2 11 (.array .int) true := ⟨_, _, _, tyF3, rfl, by decide, rfl, rfl, by decide +kernel, rfl, tyF3_ok, nmF3, Or.inl (mem_1 50 rfl rfl)⟩
set_option maxRecDepth 20000 in
theorem fl_Pool_15 : FLk "InstrumentFiles$Pool" 15 3 1 2 12 (.array .int) true := ⟨_, _, _, tyF3, rfl, by decide, rfl, rfl, by decide +kernel, rfl, tyF3_ok, nmF3, Or.inl (mem_1 51 rfl rfl)⟩
set_option maxRecDepth 20000 in
theorem fl_Pool_18 : FLk "InstrumentFiles$Pool" 18 3 2 2 13 (.array .long) true := ⟨_, _, _, tyF3, rfl, by decide, rfl, rfl, by decide +kernel, rfl, tyF3_ok, nmF3, Or.inl (mem_1 52 rfl rfl)⟩
set_option maxRecDepth 20000 in
theorem fl_Pool_22 : FLk "InstrumentFiles$Pool" 22 3 3 0 0 (.int) false := ⟨_, _, _, tyF3, rfl, by decide, rfl, rfl, by decide +kernel, rfl, tyF3_ok, nmF3, Or.inl (mem_1 53 rfl rfl)⟩
set_option maxRecDepth 20000 in
theorem fl_Prog_12 : FLk "InstrumentFiles$Program" 12 2 0 2 3 (.object "InstrumentFiles$Pool") true := ⟨_, _, _, tyF2, rfl, by decide, rfl, rfl, by decide +kernel, rfl, tyF2_ok, nmF2, Or.inl (mem_1 134 rfl rfl)⟩
set_option maxRecDepth 20000 in
theorem fl_Prog_20 : FLk "InstrumentFiles$Program" 20 2 1 2 10 (.array (.object "InstrumentFiles$Method")) true := ⟨_, _, _, tyF2, rfl, by decide, rfl, rfl, by decide +kernel, rfl, tyF2_ok, nmF2, Or.inl (mem_1 139 rfl rfl)⟩
set_option maxRecDepth 20000 in
theorem fl_Prog_25 : FLk "InstrumentFiles$Program" 25 2 2 0 0 (.int) false := ⟨_, _, _, tyF2, rfl, by decide, rfl, rfl, by decide +kernel, rfl, tyF2_ok, nmF2, Or.inl (mem_1 140 rfl rfl)⟩
set_option maxRecDepth 20000 in
theorem fl_Prog_29 : FLk "InstrumentFiles$Program" 29 2 3 0 0 (.int) false := ⟨_, _, _, tyF2, rfl, by decide, rfl, rfl, by decide +kernel, rfl, tyF2_ok, nmF2, Or.inl (mem_1 143 rfl rfl)⟩
set_option maxRecDepth 20000 in
theorem fl_Prog_32 : FLk "InstrumentFiles$Program" 32 3 3 0 0 (.int) false := ⟨_, _, _, tyF3, rfl, by decide, rfl, rfl, by decide +kernel, rfl, tyF3_ok, nmF3, Or.inr ⟨"InstrumentFiles", men_1 54 rfl rfl⟩⟩
set_option maxRecDepth 20000 in
theorem fl_Prog_43 : FLk "InstrumentFiles$Program" 43 4 0 0 0 (.int) false := ⟨_, _, _, tyF4, rfl, by decide, rfl, rfl, by decide +kernel, rfl, tyF4_ok, nmF4, Or.inr ⟨"InstrumentFiles", men_1 73 rfl rfl⟩⟩
set_option maxRecDepth 20000 in
theorem fl_Read_9 : FLk "InstrumentFiles$Reader" 9 5 0 0 0 (.int) false := ⟨_, _, _, tyF5, rfl, by decide, rfl, rfl, by decide +kernel, rfl, tyF5_ok, nmF5, Or.inl (mem_1 161 rfl rfl)⟩
set_option maxRecDepth 20000 in
theorem fl_Read_15 : FLk "InstrumentFiles$Reader" 15 5 1 0 0 (.int) false := ⟨_, _, _, tyF5, rfl, by decide, rfl, rfl, by decide +kernel, rfl, tyF5_ok, nmF5, Or.inl (mem_1 163 rfl rfl)⟩
set_option maxRecDepth 20000 in
theorem fl_Read_27 : FLk "InstrumentFiles$Reader" 27 2 2 0 0 (.int) false := ⟨_, _, _, tyF2, rfl, by decide, rfl, rfl, by decide +kernel, rfl, tyF2_ok, nmF2, Or.inr ⟨"InstrumentFiles", men_1 141 rfl rfl⟩⟩
set_option maxRecDepth 20000 in
theorem fl_Read_30 : FLk "InstrumentFiles$Reader" 30 2 0 2 3 (.object "InstrumentFiles$Pool") true := ⟨_, _, _, tyF2, rfl, by decide, rfl, rfl, by decide +kernel, rfl, tyF2_ok, nmF2, Or.inr ⟨"InstrumentFiles", men_1 135 rfl rfl⟩⟩
set_option maxRecDepth 20000 in
theorem fl_Read_79 : FLk "InstrumentFiles$Reader" 79 4 0 0 0 (.int) false := ⟨_, _, _, tyF4, rfl, by decide, rfl, rfl, by decide +kernel, rfl, tyF4_ok, nmF4, Or.inr ⟨"InstrumentFiles", men_1 74 rfl rfl⟩⟩
set_option maxRecDepth 20000 in
theorem fl_Read_94 : FLk "InstrumentFiles$Reader" 94 2 3 0 0 (.int) false := ⟨_, _, _, tyF2, rfl, by decide, rfl, rfl, by decide +kernel, rfl, tyF2_ok, nmF2, Or.inr ⟨"InstrumentFiles", men_1 144 rfl rfl⟩⟩
set_option maxRecDepth 20000 in
theorem fl_Read_100 : FLk "InstrumentFiles$Reader" 100 4 7 0 0 (.int) false := ⟨_, _, _, tyF4, rfl, by decide, rfl, rfl, by decide +kernel, rfl, tyF4_ok, nmF4, Or.inr ⟨"InstrumentFiles", men_1 98 rfl rfl⟩⟩
set_option maxRecDepth 20000 in
theorem fl_Read_103 : FLk "InstrumentFiles$Reader" 103 4 8 0 0 (.int) false := ⟨_, _, _, tyF4, rfl, by decide, rfl, rfl, by decide +kernel, rfl, tyF4_ok, nmF4, Or.inr ⟨"InstrumentFiles", men_1 102 rfl rfl⟩⟩
set_option maxRecDepth 20000 in
theorem fl_Read_106 : FLk "InstrumentFiles$Reader" 106 4 1 0 0 (.int) false := ⟨_, _, _, tyF4, rfl, by decide, rfl, rfl, by decide +kernel, rfl, tyF4_ok, nmF4, Or.inr ⟨"InstrumentFiles", men_1 78 rfl rfl⟩⟩
set_option maxRecDepth 20000 in
theorem fl_Read_115 : FLk "InstrumentFiles$Reader" 115 4 2 0 0 (.int) false := ⟨_, _, _, tyF4, rfl, by decide, rfl, rfl, by decide +kernel, rfl, tyF4_ok, nmF4, Or.inr ⟨"InstrumentFiles", men_1 80 rfl rfl⟩⟩
set_option maxRecDepth 20000 in
theorem fl_Read_118 : FLk "InstrumentFiles$Reader" 118 4 3 0 0 (.int) false := ⟨_, _, _, tyF4, rfl, by decide, rfl, rfl, by decide +kernel, rfl, tyF4_ok, nmF4, Or.inr ⟨"InstrumentFiles", men_1 84 rfl rfl⟩⟩
set_option maxRecDepth 20000 in
theorem fl_Read_121 : FLk "InstrumentFiles$Reader" 121 4 4 0 0 (.int) false := ⟨_, _, _, tyF4, rfl, by decide, rfl, rfl, by decide +kernel, rfl, tyF4_ok, nmF4, Or.inr ⟨"InstrumentFiles", men_1 86 rfl rfl⟩⟩
set_option maxRecDepth 20000 in
theorem fl_Read_124 : FLk "InstrumentFiles$Reader" 124 4 5 0 0 (.int) false := ⟨_, _, _, tyF4, rfl, by decide, rfl, rfl, by decide +kernel, rfl, tyF4_ok, nmF4, Or.inr ⟨"InstrumentFiles", men_1 91 rfl rfl⟩⟩
set_option maxRecDepth 20000 in
theorem fl_Read_131 : FLk "InstrumentFiles$Reader" 131 4 6 0 0 (.int) false := ⟨_, _, _, tyF4, rfl, by decide, rfl, rfl, by decide +kernel, rfl, tyF4_ok, nmF4, Or.inr ⟨"InstrumentFiles", men_1 95 rfl rfl⟩⟩
set_option maxRecDepth 20000 in
theorem fl_Tape_11 : FLk "InstrumentFiles$Tape" 11 1 0 2 9 (.array .int) true := ⟨_, _, _, tyF1, rfl, by decide, rfl, rfl, by decide +kernel, rfl, tyF1_ok, nmF1, Or.inl (mem_1 29 rfl rfl)⟩
set_option maxRecDepth 20000 in
theorem fl_Tape_15 : FLk "InstrumentFiles$Tape" 15 1 1 0 0 (.int) false := ⟨_, _, _, tyF1, rfl, by decide, rfl, rfl, by decide +kernel, rfl, tyF1_ok, nmF1, Or.inl (mem_1 30 rfl rfl)⟩
set_option maxRecDepth 20000 in
theorem ml_Dbl_7 : Cond.methodLink "InstrumentFiles$Doubles" 7 y_Dbl_isNan ∈ lw_gd := mem_2 100 rfl rfl
set_option maxRecDepth 20000 in
theorem ml_Dbl_21 : Cond.methodLink "InstrumentFiles$Doubles" 21 y_Dbl_canonical ∈ lw_gd := mem_3 220 rfl rfl
set_option maxRecDepth 20000 in
theorem ml_Dbl_25 : Cond.methodLink "InstrumentFiles$Doubles" 25 y_JM_max ∈ lw_gd := mem_3 196 rfl rfl
set_option maxRecDepth 20000 in
theorem ml_Dbl_35 : Cond.methodLink "InstrumentFiles$Doubles" 35 y_Dbl_absolute ∈ lw_gd := mem_3 190 rfl rfl
set_option maxRecDepth 20000 in
theorem ml_Dbl_38 : Cond.methodLink "InstrumentFiles$Doubles" 38 y_Dbl_scaleOf ∈ lw_gd := mem_3 193 rfl rfl
set_option maxRecDepth 20000 in
theorem ml_Dbl_42 : Cond.methodLink "InstrumentFiles$Doubles" 42 y_Dbl_digitsOf ∈ lw_gd := mem_3 197 rfl rfl
set_option maxRecDepth 20000 in
theorem ml_Dbl_45 : Cond.methodLink "InstrumentFiles$Doubles" 45 y_Dbl_shiftedDown ∈ lw_gd := mem_3 202 rfl rfl
set_option maxRecDepth 20000 in
theorem ml_Dbl_49 : Cond.methodLink "InstrumentFiles$Doubles" 49 y_Dbl_rounded ∈ lw_gd := mem_3 206 rfl rfl
set_option maxRecDepth 20000 in
theorem ml_Dbl_53 : Cond.methodLink "InstrumentFiles$Doubles" 53 y_Dbl_leadingZeros ∈ lw_gd := mem_3 209 rfl rfl
set_option maxRecDepth 20000 in
theorem ml_Dbl_56 : Cond.methodLink "InstrumentFiles$Doubles" 56 y_Dbl_productAbove49 ∈ lw_gd := mem_3 224 rfl rfl
set_option maxRecDepth 20000 in
theorem ml_Dbl_62 : Cond.methodLink "InstrumentFiles$Doubles" 62 y_Dbl_quotientWith60 ∈ lw_gd := mem_3 231 rfl rfl
set_option maxRecDepth 20000 in
theorem ml_Dbl_65 : Cond.methodLink "InstrumentFiles$Doubles" 65 y_Dbl_rootWith29 ∈ lw_gd := mem_4 22 rfl rfl
set_option maxRecDepth 20000 in
theorem ml_Dbl_76 : Cond.methodLink "InstrumentFiles$Doubles" 76 y_JM_abs ∈ lw_gd := mem_4 1 rfl rfl
set_option maxRecDepth 20000 in
theorem ml_Dbl_83 : Cond.methodLink "InstrumentFiles$Doubles" 83 y_JM_min ∈ lw_gd := mem_3 212 rfl rfl
set_option maxRecDepth 20000 in
theorem ml_IF_18 : Cond.methodLink "InstrumentFiles" 18 y_Prog_init ∈ lw_gd := mem_1 40 rfl rfl
set_option maxRecDepth 20000 in
theorem ml_IF_48 : Cond.methodLink "InstrumentFiles" 48 y_Tape_append ∈ lw_gd := mem_2 31 rfl rfl
set_option maxRecDepth 20000 in
theorem ml_IF_52 : Cond.methodLink "InstrumentFiles" 52 y_Tape_has ∈ lw_gd := mem_2 43 rfl rfl
set_option maxRecDepth 20000 in
theorem ml_IF_56 : Cond.methodLink "InstrumentFiles" 56 y_Tape_byteAt ∈ lw_gd := mem_2 47 rfl rfl
set_option maxRecDepth 20000 in
theorem ml_IF_60 : Cond.methodLink "InstrumentFiles" 60 y_Tape_replace ∈ lw_gd := mem_2 52 rfl rfl
set_option maxRecDepth 20000 in
theorem ml_IF_64 : Cond.methodLink "InstrumentFiles" 64 y_Tape_sumAhead ∈ lw_gd := mem_2 64 rfl rfl
set_option maxRecDepth 20000 in
theorem ml_IF_70 : Cond.methodLink "InstrumentFiles" 70 y_Read_readFile ∈ lw_gd := mem_2 72 rfl rfl
set_option maxRecDepth 20000 in
theorem ml_IF_86 : Cond.methodLink "InstrumentFiles" 86 y_Judge_judgeMethod ∈ lw_gd := mem_2 174 rfl rfl
set_option maxRecDepth 20000 in
theorem ml_IF_91 : Cond.methodLink "InstrumentFiles" 91 y_Prog_forget ∈ lw_gd := mem_3 63 rfl rfl
set_option maxRecDepth 20000 in
theorem ml_IF_94 : Cond.methodLink "InstrumentFiles" 94 y_Dbl_canonical ∈ lw_gd := mem_3 72 rfl rfl
set_option maxRecDepth 20000 in
theorem ml_IF_100 : Cond.methodLink "InstrumentFiles" 100 y_Mach_setTable ∈ lw_gd := mem_3 73 rfl rfl
set_option maxRecDepth 20000 in
theorem ml_IF_104 : Cond.methodLink "InstrumentFiles" 104 y_Prog_methodAt ∈ lw_gd := mem_3 81 rfl rfl
set_option maxRecDepth 20000 in
theorem ml_IF_132 : Cond.methodLink "InstrumentFiles" 132 y_Meth_isAside ∈ lw_gd := mem_3 82 rfl rfl
set_option maxRecDepth 20000 in
theorem ml_IF_140 : Cond.methodLink "InstrumentFiles" 140 y_Pool_has ∈ lw_gd := mem_3 90 rfl rfl
set_option maxRecDepth 20000 in
theorem ml_IF_145 : Cond.methodLink "InstrumentFiles" 145 y_Pool_tagOf ∈ lw_gd := mem_3 92 rfl rfl
set_option maxRecDepth 20000 in
theorem ml_IF_148 : Cond.methodLink "InstrumentFiles" 148 y_Pool_isTagged ∈ lw_gd := mem_3 96 rfl rfl
set_option maxRecDepth 20000 in
theorem ml_IF_152 : Cond.methodLink "InstrumentFiles" 152 y_Pool_sizeOf ∈ lw_gd := mem_3 97 rfl rfl
set_option maxRecDepth 20000 in
theorem ml_IF_155 : Cond.methodLink "InstrumentFiles" 155 y_Pool_valueOf ∈ lw_gd := mem_3 101 rfl rfl
set_option maxRecDepth 20000 in
theorem ml_IF_161 : Cond.methodLink "InstrumentFiles" 161 y_Meth_kindsAt ∈ lw_gd := mem_3 107 rfl rfl
set_option maxRecDepth 20000 in
theorem ml_IF_164 : Cond.methodLink "InstrumentFiles" 164 y_Kinds_item ∈ lw_gd := mem_3 108 rfl rfl
set_option maxRecDepth 20000 in
theorem ml_IF_169 : Cond.methodLink "InstrumentFiles" 169 y_Kinds_local ∈ lw_gd := mem_3 109 rfl rfl
set_option maxRecDepth 20000 in
theorem ml_IF_172 : Cond.methodLink "InstrumentFiles" 172 y_Mach_prepare ∈ lw_gd := mem_3 114 rfl rfl
set_option maxRecDepth 20000 in
theorem ml_IF_175 : Cond.methodLink "InstrumentFiles" 175 y_Mach_giveArgument ∈ lw_gd := mem_3 125 rfl rfl
set_option maxRecDepth 20000 in
theorem ml_IF_179 : Cond.methodLink "InstrumentFiles" 179 y_Mach_run ∈ lw_gd := mem_3 135 rfl rfl
set_option maxRecDepth 20000 in
theorem ml_JD_122 : Cond.methodLink "java/lang/Double" 122 y_JD_isNaN ∈ lw_gd := mem_5 137 rfl rfl
set_option maxRecDepth 20000 in
theorem ml_JD_134 : Cond.methodLink "java/lang/Double" 134 y_d2r ∈ lw_gd := mem_5 140 rfl rfl
set_option maxRecDepth 20000 in
theorem ml_Judge_9 : Cond.methodLink "InstrumentFiles$Judge" 9 y_Prog_methodAt ∈ lw_gd := mem_2 178 rfl rfl
set_option maxRecDepth 20000 in
theorem ml_Judge_15 : Cond.methodLink "InstrumentFiles$Judge" 15 y_Meth_forgetJudgement ∈ lw_gd := mem_2 179 rfl rfl
set_option maxRecDepth 20000 in
theorem ml_Judge_39 : Cond.methodLink "InstrumentFiles$Judge" 39 y_Judge_judgeOp ∈ lw_gd := mem_2 183 rfl rfl
set_option maxRecDepth 20000 in
theorem ml_Judge_43 : Cond.methodLink "InstrumentFiles$Judge" 43 y_Meth_codeAt ∈ lw_gd := mem_2 206 rfl rfl
set_option maxRecDepth 20000 in
theorem ml_Judge_47 : Cond.methodLink "InstrumentFiles$Judge" 47 y_Ops_hasByte ∈ lw_gd := mem_3 50 rfl rfl
set_option maxRecDepth 20000 in
theorem ml_Judge_53 : Cond.methodLink "InstrumentFiles$Judge" 53 y_Judge_judgeMapPlaces ∈ lw_gd := mem_3 51 rfl rfl
set_option maxRecDepth 20000 in
theorem ml_Judge_60 : Cond.methodLink "InstrumentFiles$Judge" 60 y_Meth_mapPlace ∈ lw_gd := mem_3 55 rfl rfl
set_option maxRecDepth 20000 in
theorem ml_Judge_63 : Cond.methodLink "InstrumentFiles$Judge" 63 y_Meth_kindsAt ∈ lw_gd := mem_3 59 rfl rfl
set_option maxRecDepth 20000 in
theorem ml_Judge_66 : Cond.methodLink "InstrumentFiles$Judge" 66 y_Judge_meetsMap ∈ lw_gd := mem_2 187 rfl rfl
set_option maxRecDepth 20000 in
theorem ml_Judge_70 : Cond.methodLink "InstrumentFiles$Judge" 70 y_Meth_setKinds ∈ lw_gd := mem_2 202 rfl rfl
set_option maxRecDepth 20000 in
theorem ml_Judge_74 : Cond.methodLink "InstrumentFiles$Judge" 74 y_Ops_isOp ∈ lw_gd := mem_2 210 rfl rfl
set_option maxRecDepth 20000 in
theorem ml_Judge_77 : Cond.methodLink "InstrumentFiles$Judge" 77 y_Ops_size ∈ lw_gd := mem_2 213 rfl rfl
set_option maxRecDepth 20000 in
theorem ml_Judge_80 : Cond.methodLink "InstrumentFiles$Judge" 80 y_Ops_goesOn ∈ lw_gd := mem_2 219 rfl rfl
set_option maxRecDepth 20000 in
theorem ml_Judge_83 : Cond.methodLink "InstrumentFiles$Judge" 83 y_Judge_hasEntry ∈ lw_gd := mem_2 222 rfl rfl
set_option maxRecDepth 20000 in
theorem ml_Judge_87 : Cond.methodLink "InstrumentFiles$Judge" 87 y_Judge_judgeCall ∈ lw_gd := mem_2 237 rfl rfl
set_option maxRecDepth 20000 in
theorem ml_Judge_91 : Cond.methodLink "InstrumentFiles$Judge" 91 y_Judge_judgeStack ∈ lw_gd := mem_3 22 rfl rfl
set_option maxRecDepth 20000 in
theorem ml_Judge_95 : Cond.methodLink "InstrumentFiles$Judge" 95 y_Ops_jumps ∈ lw_gd := mem_3 43 rfl rfl
set_option maxRecDepth 20000 in
theorem ml_Judge_98 : Cond.methodLink "InstrumentFiles$Judge" 98 y_Judge_reaches ∈ lw_gd := mem_3 46 rfl rfl
set_option maxRecDepth 20000 in
theorem ml_Judge_102 : Cond.methodLink "InstrumentFiles$Judge" 102 y_Meth_mapAt ∈ lw_gd := mem_2 191 rfl rfl
set_option maxRecDepth 20000 in
theorem ml_Judge_105 : Cond.methodLink "InstrumentFiles$Judge" 105 y_Kinds_fits ∈ lw_gd := mem_2 195 rfl rfl
set_option maxRecDepth 20000 in
theorem ml_Judge_115 : Cond.methodLink "InstrumentFiles$Judge" 115 y_Pool_isTagged ∈ lw_gd := mem_2 226 rfl rfl
set_option maxRecDepth 20000 in
theorem ml_Judge_120 : Cond.methodLink "InstrumentFiles$Judge" 120 y_Pool_isListed ∈ lw_gd := mem_2 227 rfl rfl
set_option maxRecDepth 20000 in
theorem ml_Judge_126 : Cond.methodLink "InstrumentFiles$Judge" 126 y_Kinds_depth ∈ lw_gd := mem_3 1 rfl rfl
set_option maxRecDepth 20000 in
theorem ml_Judge_132 : Cond.methodLink "InstrumentFiles$Judge" 132 y_Judge_popped ∈ lw_gd := mem_3 2 rfl rfl
set_option maxRecDepth 20000 in
theorem ml_Judge_136 : Cond.methodLink "InstrumentFiles$Judge" 136 y_Meth_takenKind ∈ lw_gd := mem_3 12 rfl rfl
set_option maxRecDepth 20000 in
theorem ml_Judge_142 : Cond.methodLink "InstrumentFiles$Judge" 142 y_Judge_push ∈ lw_gd := mem_3 17 rfl rfl
set_option maxRecDepth 20000 in
theorem ml_Judge_146 : Cond.methodLink "InstrumentFiles$Judge" 146 y_Ops_taken ∈ lw_gd := mem_3 26 rfl rfl
set_option maxRecDepth 20000 in
theorem ml_Judge_149 : Cond.methodLink "InstrumentFiles$Judge" 149 y_Ops_takenKind ∈ lw_gd := mem_3 31 rfl rfl
set_option maxRecDepth 20000 in
theorem ml_Judge_150 : Cond.methodLink "InstrumentFiles$Judge" 150 y_Kinds_local ∈ lw_gd := mem_3 36 rfl rfl
set_option maxRecDepth 20000 in
theorem ml_Judge_154 : Cond.methodLink "InstrumentFiles$Judge" 154 y_Kinds_withLocal ∈ lw_gd := mem_3 37 rfl rfl
set_option maxRecDepth 20000 in
theorem ml_Judge_158 : Cond.methodLink "InstrumentFiles$Judge" 158 y_Kinds_push ∈ lw_gd := mem_3 21 rfl rfl
set_option maxRecDepth 20000 in
theorem ml_Judge_160 : Cond.methodLink "InstrumentFiles$Judge" 160 y_Ops_pushedKind ∈ lw_gd := mem_3 38 rfl rfl
set_option maxRecDepth 20000 in
theorem ml_Judge_163 : Cond.methodLink "InstrumentFiles$Judge" 163 y_Kinds_item ∈ lw_gd := mem_3 6 rfl rfl
set_option maxRecDepth 20000 in
theorem ml_Judge_166 : Cond.methodLink "InstrumentFiles$Judge" 166 y_Kinds_pop ∈ lw_gd := mem_3 9 rfl rfl
set_option maxRecDepth 20000 in
theorem ml_Kinds_11 : Cond.methodLink "InstrumentFiles$Kinds" 11 y_Kinds_depth ∈ lw_gd := mem_2 164 rfl rfl
set_option maxRecDepth 20000 in
theorem ml_Kinds_17 : Cond.methodLink "InstrumentFiles$Kinds" 17 y_Kinds_local ∈ lw_gd := mem_2 199 rfl rfl
set_option maxRecDepth 20000 in
theorem ml_L_9 : Cond.methodLink "InstrumentFilesLaw" 9 y_IF_init ∈ lw_gd := mem_1 17 rfl rfl
set_option maxRecDepth 20000 in
theorem ml_L_12 : Cond.methodLink "InstrumentFilesLaw" 12 y_M_init ∈ lw_gd := mem_4 67 rfl rfl
set_option maxRecDepth 20000 in
theorem ml_L_15 : Cond.methodLink "InstrumentFilesLaw" 15 y_IF_feed ∈ lw_gd := mem_2 27 rfl rfl
set_option maxRecDepth 20000 in
theorem ml_L_19 : Cond.methodLink "InstrumentFilesLaw" 19 y_M_feed ∈ lw_gd := mem_4 221 rfl rfl
set_option maxRecDepth 20000 in
theorem ml_L_20 : Cond.methodLink "InstrumentFilesLaw" 20 y_IF_wipe ∈ lw_gd := mem_2 35 rfl rfl
set_option maxRecDepth 20000 in
theorem ml_L_24 : Cond.methodLink "InstrumentFilesLaw" 24 y_M_wipe ∈ lw_gd := mem_4 228 rfl rfl
set_option maxRecDepth 20000 in
theorem ml_L_25 : Cond.methodLink "InstrumentFilesLaw" 25 y_IF_alter ∈ lw_gd := mem_2 39 rfl rfl
set_option maxRecDepth 20000 in
theorem ml_L_29 : Cond.methodLink "InstrumentFilesLaw" 29 y_M_alter ∈ lw_gd := mem_4 232 rfl rfl
set_option maxRecDepth 20000 in
theorem ml_L_30 : Cond.methodLink "InstrumentFilesLaw" 30 y_IF_at ∈ lw_gd := mem_2 56 rfl rfl
set_option maxRecDepth 20000 in
theorem ml_L_34 : Cond.methodLink "InstrumentFilesLaw" 34 y_M_at ∈ lw_gd := mem_4 236 rfl rfl
set_option maxRecDepth 20000 in
theorem ml_L_35 : Cond.methodLink "InstrumentFilesLaw" 35 y_IF_seal ∈ lw_gd := mem_2 60 rfl rfl
set_option maxRecDepth 20000 in
theorem ml_L_38 : Cond.methodLink "InstrumentFilesLaw" 38 y_M_seal ∈ lw_gd := mem_5 0 rfl rfl
set_option maxRecDepth 20000 in
theorem ml_L_39 : Cond.methodLink "InstrumentFilesLaw" 39 y_IF_read ∈ lw_gd := mem_2 68 rfl rfl
set_option maxRecDepth 20000 in
theorem ml_L_42 : Cond.methodLink "InstrumentFilesLaw" 42 y_M_read ∈ lw_gd := mem_5 8 rfl rfl
set_option maxRecDepth 20000 in
theorem ml_L_43 : Cond.methodLink "InstrumentFilesLaw" 43 y_IF_fault ∈ lw_gd := mem_3 64 rfl rfl
set_option maxRecDepth 20000 in
theorem ml_L_46 : Cond.methodLink "InstrumentFilesLaw" 46 y_M_fault ∈ lw_gd := mem_5 103 rfl rfl
set_option maxRecDepth 20000 in
theorem ml_L_47 : Cond.methodLink "InstrumentFilesLaw" 47 y_IF_table ∈ lw_gd := mem_3 68 rfl rfl
set_option maxRecDepth 20000 in
theorem ml_L_51 : Cond.methodLink "InstrumentFilesLaw" 51 y_M_table ∈ lw_gd := mem_5 107 rfl rfl
set_option maxRecDepth 20000 in
theorem ml_L_52 : Cond.methodLink "InstrumentFilesLaw" 52 y_IF_method ∈ lw_gd := mem_3 77 rfl rfl
set_option maxRecDepth 20000 in
theorem ml_L_55 : Cond.methodLink "InstrumentFilesLaw" 55 y_M_method ∈ lw_gd := mem_5 120 rfl rfl
set_option maxRecDepth 20000 in
theorem ml_L_56 : Cond.methodLink "InstrumentFilesLaw" 56 y_IF_pool ∈ lw_gd := mem_3 86 rfl rfl
set_option maxRecDepth 20000 in
theorem ml_L_60 : Cond.methodLink "InstrumentFilesLaw" 60 y_M_pool ∈ lw_gd := mem_5 128 rfl rfl
set_option maxRecDepth 20000 in
theorem ml_L_61 : Cond.methodLink "InstrumentFilesLaw" 61 y_IF_kind ∈ lw_gd := mem_3 103 rfl rfl
set_option maxRecDepth 20000 in
theorem ml_L_65 : Cond.methodLink "InstrumentFilesLaw" 65 y_M_kind ∈ lw_gd := mem_5 144 rfl rfl
set_option maxRecDepth 20000 in
theorem ml_L_66 : Cond.methodLink "InstrumentFilesLaw" 66 y_IF_call ∈ lw_gd := mem_3 110 rfl rfl
set_option maxRecDepth 20000 in
theorem ml_L_70 : Cond.methodLink "InstrumentFilesLaw" 70 y_M_call ∈ lw_gd := mem_5 148 rfl rfl
set_option maxRecDepth 20000 in
theorem ml_L_71 : Cond.methodLink "InstrumentFilesLaw" 71 y_IF_result ∈ lw_gd := mem_4 53 rfl rfl
set_option maxRecDepth 20000 in
theorem ml_L_75 : Cond.methodLink "InstrumentFilesLaw" 75 y_M_result ∈ lw_gd := mem_5 235 rfl rfl
set_option maxRecDepth 20000 in
theorem ml_L_76 : Cond.methodLink "InstrumentFilesLaw" 76 y_IF_told ∈ lw_gd := mem_4 57 rfl rfl
set_option maxRecDepth 20000 in
theorem ml_L_79 : Cond.methodLink "InstrumentFilesLaw" 79 y_M_told ∈ lw_gd := mem_5 239 rfl rfl
set_option maxRecDepth 20000 in
theorem ml_L_80 : Cond.methodLink "InstrumentFilesLaw" 80 y_IF_count ∈ lw_gd := mem_4 61 rfl rfl
set_option maxRecDepth 20000 in
theorem ml_L_83 : Cond.methodLink "InstrumentFilesLaw" 83 y_M_count ∈ lw_gd := mem_6 3 rfl rfl
set_option maxRecDepth 20000 in
theorem ml_M_106 : Cond.methodLink "InstrumentFilesModel" 106 y_M_in ∈ lw_gd := mem_4 225 rfl rfl
set_option maxRecDepth 20000 in
theorem ml_M_114 : Cond.methodLink "InstrumentFilesModel" 114 y_M_sumAhead ∈ lw_gd := mem_5 4 rfl rfl
set_option maxRecDepth 20000 in
theorem ml_M_127 : Cond.methodLink "InstrumentFilesModel" 127 y_M_faults ∈ lw_gd := mem_5 24 rfl rfl
set_option maxRecDepth 20000 in
theorem ml_M_131 : Cond.methodLink "InstrumentFilesModel" 131 y_M_take ∈ lw_gd := mem_5 20 rfl rfl
set_option maxRecDepth 20000 in
theorem ml_M_135 : Cond.methodLink "InstrumentFilesModel" 135 y_M_taken ∈ lw_gd := mem_5 16 rfl rfl
set_option maxRecDepth 20000 in
theorem ml_M_141 : Cond.methodLink "InstrumentFilesModel" 141 y_M_takeLong ∈ lw_gd := mem_5 32 rfl rfl
set_option maxRecDepth 20000 in
theorem ml_M_145 : Cond.methodLink "InstrumentFilesModel" 145 y_M_isSameWord ∈ lw_gd := mem_5 44 rfl rfl
set_option maxRecDepth 20000 in
theorem ml_M_149 : Cond.methodLink "InstrumentFilesModel" 149 y_M_readName ∈ lw_gd := mem_5 40 rfl rfl
set_option maxRecDepth 20000 in
theorem ml_M_153 : Cond.methodLink "InstrumentFilesModel" 153 y_M_readMap ∈ lw_gd := mem_5 48 rfl rfl
set_option maxRecDepth 20000 in
theorem ml_M_159 : Cond.methodLink "InstrumentFilesModel" 159 y_M_readPool ∈ lw_gd := mem_5 28 rfl rfl
set_option maxRecDepth 20000 in
theorem ml_M_165 : Cond.methodLink "InstrumentFilesModel" 165 y_M_readMethod ∈ lw_gd := mem_5 36 rfl rfl
set_option maxRecDepth 20000 in
theorem ml_M_171 : Cond.methodLink "InstrumentFilesModel" 171 y_M_readFile ∈ lw_gd := mem_5 12 rfl rfl
set_option maxRecDepth 20000 in
theorem ml_M_174 : Cond.methodLink "InstrumentFilesModel" 174 y_M_judge ∈ lw_gd := mem_5 52 rfl rfl
set_option maxRecDepth 20000 in
theorem ml_M_184 : Cond.methodLink "InstrumentFilesModel" 184 y_M_judgeOp ∈ lw_gd := mem_5 56 rfl rfl
set_option maxRecDepth 20000 in
theorem ml_M_188 : Cond.methodLink "InstrumentFilesModel" 188 y_M_hasByte ∈ lw_gd := mem_5 72 rfl rfl
set_option maxRecDepth 20000 in
theorem ml_M_192 : Cond.methodLink "InstrumentFilesModel" 192 y_M_mapAt ∈ lw_gd := mem_5 60 rfl rfl
set_option maxRecDepth 20000 in
theorem ml_M_196 : Cond.methodLink "InstrumentFilesModel" 196 y_M_fits ∈ lw_gd := mem_5 64 rfl rfl
set_option maxRecDepth 20000 in
theorem ml_M_199 : Cond.methodLink "InstrumentFilesModel" 199 y_M_becomes ∈ lw_gd := mem_5 68 rfl rfl
set_option maxRecDepth 20000 in
theorem ml_M_202 : Cond.methodLink "InstrumentFilesModel" 202 y_M_isEntry ∈ lw_gd := mem_5 75 rfl rfl
set_option maxRecDepth 20000 in
theorem ml_M_205 : Cond.methodLink "InstrumentFilesModel" 205 y_M_judgeKinds ∈ lw_gd := mem_5 87 rfl rfl
set_option maxRecDepth 20000 in
theorem ml_M_209 : Cond.methodLink "InstrumentFilesModel" 209 y_M_isWord ∈ lw_gd := mem_5 83 rfl rfl
set_option maxRecDepth 20000 in
theorem ml_M_213 : Cond.methodLink "InstrumentFilesModel" 213 y_M_isListed ∈ lw_gd := mem_5 79 rfl rfl
set_option maxRecDepth 20000 in
theorem ml_M_216 : Cond.methodLink "InstrumentFilesModel" 216 y_M_pops ∈ lw_gd := mem_5 91 rfl rfl
set_option maxRecDepth 20000 in
theorem ml_M_219 : Cond.methodLink "InstrumentFilesModel" 219 y_M_wants ∈ lw_gd := mem_5 95 rfl rfl
set_option maxRecDepth 20000 in
theorem ml_M_223 : Cond.methodLink "InstrumentFilesModel" 223 y_M_pushes ∈ lw_gd := mem_5 99 rfl rfl
set_option maxRecDepth 20000 in
theorem ml_M_226 : Cond.methodLink "InstrumentFilesModel" 226 y_M_doubleOf ∈ lw_gd := mem_5 111 rfl rfl
set_option maxRecDepth 20000 in
theorem ml_M_230 : Cond.methodLink "InstrumentFilesModel" 230 y_M_isMethod ∈ lw_gd := mem_5 124 rfl rfl
set_option maxRecDepth 20000 in
theorem ml_M_237 : Cond.methodLink "InstrumentFilesModel" 237 y_JD_doubleToLongBits ∈ lw_gd := mem_5 134 rfl rfl
set_option maxRecDepth 20000 in
theorem ml_M_268 : Cond.methodLink "InstrumentFilesModel" 268 y_M_enter ∈ lw_gd := mem_5 152 rfl rfl
set_option maxRecDepth 20000 in
theorem ml_M_271 : Cond.methodLink "InstrumentFilesModel" 271 y_M_give ∈ lw_gd := mem_5 156 rfl rfl
set_option maxRecDepth 20000 in
theorem ml_M_275 : Cond.methodLink "InstrumentFilesModel" 275 y_M_fails ∈ lw_gd := mem_5 160 rfl rfl
set_option maxRecDepth 20000 in
theorem ml_M_278 : Cond.methodLink "InstrumentFilesModel" 278 y_M_step ∈ lw_gd := mem_5 164 rfl rfl
set_option maxRecDepth 20000 in
theorem ml_M_281 : Cond.methodLink "InstrumentFilesModel" 281 y_M_calls ∈ lw_gd := mem_5 168 rfl rfl
set_option maxRecDepth 20000 in
theorem ml_M_283 : Cond.methodLink "InstrumentFilesModel" 283 y_M_gives ∈ lw_gd := mem_5 172 rfl rfl
set_option maxRecDepth 20000 in
theorem ml_M_285 : Cond.methodLink "InstrumentFilesModel" 285 y_M_pop ∈ lw_gd := mem_5 176 rfl rfl
set_option maxRecDepth 20000 in
theorem ml_M_288 : Cond.methodLink "InstrumentFilesModel" 288 y_M_moves ∈ lw_gd := mem_5 184 rfl rfl
set_option maxRecDepth 20000 in
theorem ml_M_291 : Cond.methodLink "InstrumentFilesModel" 291 y_M_joinsInts ∈ lw_gd := mem_5 188 rfl rfl
set_option maxRecDepth 20000 in
theorem ml_M_294 : Cond.methodLink "InstrumentFilesModel" 294 y_M_joinsDoubles ∈ lw_gd := mem_5 192 rfl rfl
set_option maxRecDepth 20000 in
theorem ml_M_297 : Cond.methodLink "InstrumentFilesModel" 297 y_M_turns ∈ lw_gd := mem_5 213 rfl rfl
set_option maxRecDepth 20000 in
theorem ml_M_300 : Cond.methodLink "InstrumentFilesModel" 300 y_M_push ∈ lw_gd := mem_5 180 rfl rfl
set_option maxRecDepth 20000 in
theorem ml_M_308 : Cond.methodLink "InstrumentFilesModel" 308 y_M_isEndless ∈ lw_gd := mem_5 199 rfl rfl
set_option maxRecDepth 20000 in
theorem ml_M_318 : Cond.methodLink "InstrumentFilesModel" 318 y_l2r ∈ lw_gd := mem_5 117 rfl rfl
set_option maxRecDepth 20000 in
theorem ml_M_321 : Cond.methodLink "InstrumentFilesModel" 321 y_M_plus ∈ lw_gd := mem_5 196 rfl rfl
set_option maxRecDepth 20000 in
theorem ml_M_325 : Cond.methodLink "InstrumentFilesModel" 325 y_M_minus ∈ lw_gd := mem_5 204 rfl rfl
set_option maxRecDepth 20000 in
theorem ml_M_328 : Cond.methodLink "InstrumentFilesModel" 328 y_M_times ∈ lw_gd := mem_5 207 rfl rfl
set_option maxRecDepth 20000 in
theorem ml_M_331 : Cond.methodLink "InstrumentFilesModel" 331 y_M_by ∈ lw_gd := mem_5 210 rfl rfl
set_option maxRecDepth 20000 in
theorem ml_M_334 : Cond.methodLink "InstrumentFilesModel" 334 y_M_listed ∈ lw_gd := mem_5 217 rfl rfl
set_option maxRecDepth 20000 in
theorem ml_M_338 : Cond.methodLink "InstrumentFilesModel" 338 y_M_root ∈ lw_gd := mem_5 221 rfl rfl
set_option maxRecDepth 20000 in
theorem ml_M_342 : Cond.methodLink "InstrumentFilesModel" 342 y_M_floor ∈ lw_gd := mem_5 229 rfl rfl
set_option maxRecDepth 20000 in
theorem ml_Mach_57 : Cond.methodLink "InstrumentFiles$Machine" 57 y_Mach_enter ∈ lw_gd := mem_3 118 rfl rfl
set_option maxRecDepth 20000 in
theorem ml_Mach_66 : Cond.methodLink "InstrumentFiles$Machine" 66 y_Meth_takenKind ∈ lw_gd := mem_3 129 rfl rfl
set_option maxRecDepth 20000 in
theorem ml_Mach_70 : Cond.methodLink "InstrumentFiles$Machine" 70 y_Dbl_canonical ∈ lw_gd := mem_3 130 rfl rfl
set_option maxRecDepth 20000 in
theorem ml_Mach_76 : Cond.methodLink "InstrumentFiles$Machine" 76 y_Mach_setLocal ∈ lw_gd := mem_3 131 rfl rfl
set_option maxRecDepth 20000 in
theorem ml_Mach_80 : Cond.methodLink "InstrumentFiles$Machine" 80 y_Mach_runOp ∈ lw_gd := mem_3 139 rfl rfl
set_option maxRecDepth 20000 in
theorem ml_Mach_84 : Cond.methodLink "InstrumentFiles$Machine" 84 y_Mach_nextPlace ∈ lw_gd := mem_3 148 rfl rfl
set_option maxRecDepth 20000 in
theorem ml_Mach_91 : Cond.methodLink "InstrumentFiles$Machine" 91 y_Mach_fail ∈ lw_gd := mem_3 179 rfl rfl
set_option maxRecDepth 20000 in
theorem ml_Mach_94 : Cond.methodLink "InstrumentFiles$Machine" 94 y_JM_max ∈ lw_gd := mem_3 122 rfl rfl
set_option maxRecDepth 20000 in
theorem ml_Mach_100 : Cond.methodLink "InstrumentFiles$Machine" 100 y_Mach_pop ∈ lw_gd := mem_3 171 rfl rfl
set_option maxRecDepth 20000 in
theorem ml_Mach_104 : Cond.methodLink "InstrumentFiles$Machine" 104 y_Mach_push ∈ lw_gd := mem_3 163 rfl rfl
set_option maxRecDepth 20000 in
theorem ml_Mach_108 : Cond.methodLink "InstrumentFiles$Machine" 108 y_Prog_methodAt ∈ lw_gd := mem_3 147 rfl rfl
set_option maxRecDepth 20000 in
theorem ml_Mach_114 : Cond.methodLink "InstrumentFiles$Machine" 114 y_Mach_openMethod ∈ lw_gd := mem_3 143 rfl rfl
set_option maxRecDepth 20000 in
theorem ml_Mach_118 : Cond.methodLink "InstrumentFiles$Machine" 118 y_Meth_codeAt ∈ lw_gd := mem_3 152 rfl rfl
set_option maxRecDepth 20000 in
theorem ml_Mach_121 : Cond.methodLink "InstrumentFiles$Machine" 121 y_Ops_size ∈ lw_gd := mem_3 153 rfl rfl
set_option maxRecDepth 20000 in
theorem ml_Mach_126 : Cond.methodLink "InstrumentFiles$Machine" 126 y_Mach_goTo ∈ lw_gd := mem_3 154 rfl rfl
set_option maxRecDepth 20000 in
theorem ml_Mach_133 : Cond.methodLink "InstrumentFiles$Machine" 133 y_Mach_runMove ∈ lw_gd := mem_3 158 rfl rfl
set_option maxRecDepth 20000 in
theorem ml_Mach_137 : Cond.methodLink "InstrumentFiles$Machine" 137 y_Mach_runInts ∈ lw_gd := mem_3 175 rfl rfl
set_option maxRecDepth 20000 in
theorem ml_Mach_140 : Cond.methodLink "InstrumentFiles$Machine" 140 y_Mach_runDoubles ∈ lw_gd := mem_3 183 rfl rfl
set_option maxRecDepth 20000 in
theorem ml_Mach_143 : Cond.methodLink "InstrumentFiles$Machine" 143 y_Mach_runChange ∈ lw_gd := mem_3 234 rfl rfl
set_option maxRecDepth 20000 in
theorem ml_Mach_146 : Cond.methodLink "InstrumentFiles$Machine" 146 y_Pool_valueOf ∈ lw_gd := mem_3 162 rfl rfl
set_option maxRecDepth 20000 in
theorem ml_Mach_152 : Cond.methodLink "InstrumentFiles$Machine" 152 y_Mach_runListed ∈ lw_gd := mem_4 12 rfl rfl
set_option maxRecDepth 20000 in
theorem ml_Mach_155 : Cond.methodLink "InstrumentFiles$Machine" 155 y_Mach_runRest ∈ lw_gd := mem_4 36 rfl rfl
set_option maxRecDepth 20000 in
theorem ml_Mach_159 : Cond.methodLink "InstrumentFiles$Machine" 159 y_Mach_local ∈ lw_gd := mem_3 167 rfl rfl
set_option maxRecDepth 20000 in
theorem ml_Mach_162 : Cond.methodLink "InstrumentFiles$Machine" 162 y_Dbl_add ∈ lw_gd := mem_3 187 rfl rfl
set_option maxRecDepth 20000 in
theorem ml_Mach_166 : Cond.methodLink "InstrumentFiles$Machine" 166 y_Dbl_negate ∈ lw_gd := mem_3 217 rfl rfl
set_option maxRecDepth 20000 in
theorem ml_Mach_169 : Cond.methodLink "InstrumentFiles$Machine" 169 y_Dbl_multiply ∈ lw_gd := mem_3 221 rfl rfl
set_option maxRecDepth 20000 in
theorem ml_Mach_172 : Cond.methodLink "InstrumentFiles$Machine" 172 y_Dbl_divide ∈ lw_gd := mem_3 228 rfl rfl
set_option maxRecDepth 20000 in
theorem ml_Mach_175 : Cond.methodLink "InstrumentFiles$Machine" 175 y_Dbl_fromInt ∈ lw_gd := mem_3 238 rfl rfl
set_option maxRecDepth 20000 in
theorem ml_Mach_178 : Cond.methodLink "InstrumentFiles$Machine" 178 y_Dbl_toInt ∈ lw_gd := mem_4 4 rfl rfl
set_option maxRecDepth 20000 in
theorem ml_Mach_182 : Cond.methodLink "InstrumentFiles$Machine" 182 y_Dbl_isBelow ∈ lw_gd := mem_4 9 rfl rfl
set_option maxRecDepth 20000 in
theorem ml_Mach_186 : Cond.methodLink "InstrumentFiles$Machine" 186 y_Mach_callInside ∈ lw_gd := mem_4 40 rfl rfl
set_option maxRecDepth 20000 in
theorem ml_Mach_190 : Cond.methodLink "InstrumentFiles$Machine" 190 y_Mach_leave ∈ lw_gd := mem_4 44 rfl rfl
set_option maxRecDepth 20000 in
theorem ml_Mach_193 : Cond.methodLink "InstrumentFiles$Machine" 193 y_Mach_pushFromTable ∈ lw_gd := mem_4 48 rfl rfl
set_option maxRecDepth 20000 in
theorem ml_Mach_200 : Cond.methodLink "InstrumentFiles$Machine" 200 y_Dbl_absolute ∈ lw_gd := mem_4 17 rfl rfl
set_option maxRecDepth 20000 in
theorem ml_Mach_205 : Cond.methodLink "InstrumentFiles$Machine" 205 y_Dbl_root ∈ lw_gd := mem_4 19 rfl rfl
set_option maxRecDepth 20000 in
theorem ml_Mach_210 : Cond.methodLink "InstrumentFiles$Machine" 210 y_Dbl_floor ∈ lw_gd := mem_4 27 rfl rfl
set_option maxRecDepth 20000 in
theorem ml_Mach_213 : Cond.methodLink "InstrumentFiles$Machine" 213 y_Dbl_sign ∈ lw_gd := mem_4 32 rfl rfl
set_option maxRecDepth 20000 in
theorem ml_Meth_31 : Cond.methodLink "InstrumentFiles$Method" 31 y_Kinds_local ∈ lw_gd := mem_3 16 rfl rfl
set_option maxRecDepth 20000 in
theorem ml_Ops_9 : Cond.methodLink "InstrumentFiles$Ops" 9 y_Ops_hasByte ∈ lw_gd := mem_2 216 rfl rfl
set_option maxRecDepth 20000 in
theorem ml_Pool_26 : Cond.methodLink "InstrumentFiles$Pool" 26 y_Pool_has ∈ lw_gd := mem_2 126 rfl rfl
set_option maxRecDepth 20000 in
theorem ml_Pool_30 : Cond.methodLink "InstrumentFiles$Pool" 30 y_Pool_valueOf ∈ lw_gd := mem_2 231 rfl rfl
set_option maxRecDepth 20000 in
theorem ml_Pool_34 : Cond.methodLink "InstrumentFiles$Pool" 34 y_Pool_isTagged ∈ lw_gd := mem_2 232 rfl rfl
set_option maxRecDepth 20000 in
theorem ml_Prog_35 : Cond.methodLink "InstrumentFiles$Program" 35 y_Pool_isTagged ∈ lw_gd := mem_2 122 rfl rfl
set_option maxRecDepth 20000 in
theorem ml_Prog_39 : Cond.methodLink "InstrumentFiles$Program" 39 y_Prog_methodAt ∈ lw_gd := mem_2 130 rfl rfl
set_option maxRecDepth 20000 in
theorem ml_Prog_46 : Cond.methodLink "InstrumentFiles$Program" 46 y_Pool_valueOf ∈ lw_gd := mem_2 134 rfl rfl
set_option maxRecDepth 20000 in
theorem ml_Read_18 : Cond.methodLink "InstrumentFiles$Reader" 18 y_Prog_forget ∈ lw_gd := mem_2 76 rfl rfl
set_option maxRecDepth 20000 in
theorem ml_Read_23 : Cond.methodLink "InstrumentFiles$Reader" 23 y_Read_take ∈ lw_gd := mem_2 80 rfl rfl
set_option maxRecDepth 20000 in
theorem ml_Read_34 : Cond.methodLink "InstrumentFiles$Reader" 34 y_Read_readPool ∈ lw_gd := mem_2 85 rfl rfl
set_option maxRecDepth 20000 in
theorem ml_Read_38 : Cond.methodLink "InstrumentFiles$Reader" 38 y_Read_readMethods ∈ lw_gd := mem_2 106 rfl rfl
set_option maxRecDepth 20000 in
theorem ml_Read_42 : Cond.methodLink "InstrumentFiles$Reader" 42 y_Tape_sumAhead ∈ lw_gd := mem_2 172 rfl rfl
set_option maxRecDepth 20000 in
theorem ml_Read_48 : Cond.methodLink "InstrumentFiles$Reader" 48 y_Tape_has ∈ lw_gd := mem_2 173 rfl rfl
set_option maxRecDepth 20000 in
theorem ml_Read_52 : Cond.methodLink "InstrumentFiles$Reader" 52 y_Tape_byteAt ∈ lw_gd := mem_2 84 rfl rfl
set_option maxRecDepth 20000 in
theorem ml_Read_55 : Cond.methodLink "InstrumentFiles$Reader" 55 y_Read_takeMany ∈ lw_gd := mem_2 89 rfl rfl
set_option maxRecDepth 20000 in
theorem ml_Read_59 : Cond.methodLink "InstrumentFiles$Reader" 59 y_Pool_append ∈ lw_gd := mem_2 93 rfl rfl
set_option maxRecDepth 20000 in
theorem ml_Read_65 : Cond.methodLink "InstrumentFiles$Reader" 65 y_Dbl_canonical ∈ lw_gd := mem_2 97 rfl rfl
set_option maxRecDepth 20000 in
theorem ml_Read_71 : Cond.methodLink "InstrumentFiles$Reader" 71 y_Prog_nextMethod ∈ lw_gd := mem_2 110 rfl rfl
set_option maxRecDepth 20000 in
theorem ml_Read_75 : Cond.methodLink "InstrumentFiles$Reader" 75 y_Read_takeName ∈ lw_gd := mem_2 114 rfl rfl
set_option maxRecDepth 20000 in
theorem ml_Read_84 : Cond.methodLink "InstrumentFiles$Reader" 84 y_Read_readHead ∈ lw_gd := mem_2 138 rfl rfl
set_option maxRecDepth 20000 in
theorem ml_Read_88 : Cond.methodLink "InstrumentFiles$Reader" 88 y_Read_readCode ∈ lw_gd := mem_2 145 rfl rfl
set_option maxRecDepth 20000 in
theorem ml_Read_91 : Cond.methodLink "InstrumentFiles$Reader" 91 y_Read_readMaps ∈ lw_gd := mem_2 153 rfl rfl
set_option maxRecDepth 20000 in
theorem ml_Read_97 : Cond.methodLink "InstrumentFiles$Reader" 97 y_Prog_canName ∈ lw_gd := mem_2 118 rfl rfl
set_option maxRecDepth 20000 in
theorem ml_Read_109 : Cond.methodLink "InstrumentFiles$Reader" 109 y_Kinds_withLocal ∈ lw_gd := mem_2 142 rfl rfl
set_option maxRecDepth 20000 in
theorem ml_Read_127 : Cond.methodLink "InstrumentFiles$Reader" 127 y_Meth_setCode ∈ lw_gd := mem_2 149 rfl rfl
set_option maxRecDepth 20000 in
theorem ml_Read_134 : Cond.methodLink "InstrumentFiles$Reader" 134 y_Read_takeMapKinds ∈ lw_gd := mem_2 157 rfl rfl
set_option maxRecDepth 20000 in
theorem ml_Read_138 : Cond.methodLink "InstrumentFiles$Reader" 138 y_Meth_appendMap ∈ lw_gd := mem_2 168 rfl rfl
set_option maxRecDepth 20000 in
theorem ml_Read_141 : Cond.methodLink "InstrumentFiles$Reader" 141 y_Kinds_push ∈ lw_gd := mem_2 161 rfl rfl
set_option maxRecDepth 20000 in
theorem ml_Tape_19 : Cond.methodLink "InstrumentFiles$Tape" 19 y_Tape_has ∈ lw_gd := mem_2 51 rfl rfl
set_option maxRecDepth 20000 in
theorem nt_y_d2r : Cond.native y_d2r ∈ lw_gd := mem_5 142 rfl rfl
set_option maxRecDepth 20000 in
theorem ns_y_d2r : Cond.static y_d2r ∈ lw_gd := mem_5 141 rfl rfl
set_option maxRecDepth 20000 in
theorem nt_y_l2r : Cond.native y_l2r ∈ lw_gd := mem_5 119 rfl rfl
set_option maxRecDepth 20000 in
theorem ns_y_l2r : Cond.static y_l2r ∈ lw_gd := mem_5 118 rfl rfl
set_option maxRecDepth 20000 in
theorem in_JD : Cond.initialized "java/lang/Double" ∈ lw_gd := mem_1 13 rfl rfl
set_option maxRecDepth 20000 in
theorem ct_Dbl_13 : Cond.constantLong "InstrumentFiles$Doubles" 13 (9221120237041090560) ∈ lw_gd := mem_2 105 rfl rfl
set_option maxRecDepth 20000 in
theorem ct_Dbl_15 : Cond.constantLong "InstrumentFiles$Doubles" 15 (9223372036854775807) ∈ lw_gd := mem_2 103 rfl rfl
set_option maxRecDepth 20000 in
theorem ct_Dbl_17 : Cond.constantLong "InstrumentFiles$Doubles" 17 (9218868437227405312) ∈ lw_gd := mem_2 104 rfl rfl
set_option maxRecDepth 20000 in
theorem ct_Dbl_19 : Cond.constantLong "InstrumentFiles$Doubles" 19 (-9223372036854775808) ∈ lw_gd := mem_3 205 rfl rfl
set_option maxRecDepth 20000 in
theorem ct_Dbl_31 : Cond.constantLong "InstrumentFiles$Doubles" 31 (4503599627370495) ∈ lw_gd := mem_3 200 rfl rfl
set_option maxRecDepth 20000 in
theorem ct_Dbl_33 : Cond.constantLong "InstrumentFiles$Doubles" 33 (4503599627370496) ∈ lw_gd := mem_3 201 rfl rfl
set_option maxRecDepth 20000 in
theorem ct_Dbl_60 : Cond.constantLong "InstrumentFiles$Doubles" 60 (67108863) ∈ lw_gd := mem_3 227 rfl rfl
set_option maxRecDepth 20000 in
theorem ct_Dbl_68 : Cond.constantLong "InstrumentFiles$Doubles" 68 (3) ∈ lw_gd := mem_4 25 rfl rfl
set_option maxRecDepth 20000 in
theorem ct_Dbl_70 : Cond.constantLong "InstrumentFiles$Doubles" 70 (-4616189618054758400) ∈ lw_gd := mem_4 30 rfl rfl
set_option maxRecDepth 20000 in
theorem ct_Dbl_72 : Cond.constantLong "InstrumentFiles$Doubles" 72 (-1) ∈ lw_gd := mem_4 31 rfl rfl
set_option maxRecDepth 20000 in
theorem ct_Dbl_74 : Cond.constantLong "InstrumentFiles$Doubles" 74 (4607182418800017408) ∈ lw_gd := mem_4 35 rfl rfl
set_option maxRecDepth 20000 in
theorem ct_Dbl_81 : Cond.constant "InstrumentFiles$Doubles" 81 (-2147483648) ∈ lw_gd := mem_4 7 rfl rfl
set_option maxRecDepth 20000 in
theorem ct_Dbl_82 : Cond.constant "InstrumentFiles$Doubles" 82 (2147483647) ∈ lw_gd := mem_4 8 rfl rfl
set_option maxRecDepth 20000 in
theorem ct_Dbl_86 : Cond.constantLong "InstrumentFiles$Doubles" 86 (7) ∈ lw_gd := mem_3 215 rfl rfl
set_option maxRecDepth 20000 in
theorem ct_Dbl_88 : Cond.constantLong "InstrumentFiles$Doubles" 88 (4) ∈ lw_gd := mem_3 216 rfl rfl
set_option maxRecDepth 20000 in
theorem ct_IF_143 : Cond.constantLong "InstrumentFiles" 143 (-101) ∈ lw_gd := mem_3 91 rfl rfl
set_option maxRecDepth 20000 in
theorem ct_IF_159 : Cond.constantLong "InstrumentFiles" 159 (-102) ∈ lw_gd := mem_3 102 rfl rfl
set_option maxRecDepth 20000 in
theorem ct_JD_137 : Cond.constantLong "java/lang/Double" 137 (9221120237041090560) ∈ lw_gd := mem_5 143 rfl rfl
set_option maxRecDepth 20000 in
theorem ct_Kinds_15 : Cond.constant "InstrumentFiles$Kinds" 15 (16777216) ∈ lw_gd := mem_2 167 rfl rfl
set_option maxRecDepth 20000 in
theorem ct_Kinds_16 : Cond.constant "InstrumentFiles$Kinds" 16 (117444607) ∈ lw_gd := mem_2 198 rfl rfl
set_option maxRecDepth 20000 in
theorem ct_L_13 : Cond.constantLong "InstrumentFilesLaw" 13 (4294967295) ∈ lw_gd := mem_6 7 rfl rfl
set_option maxRecDepth 20000 in
theorem ct_M_233 : Cond.constantLong "InstrumentFilesModel" 233 (-101) ∈ lw_gd := mem_5 132 rfl rfl
set_option maxRecDepth 20000 in
theorem ct_M_235 : Cond.constantLong "InstrumentFilesModel" 235 (-102) ∈ lw_gd := mem_5 133 rfl rfl
set_option maxRecDepth 20000 in
theorem ct_M_304 : Cond.constantDouble "InstrumentFilesModel" 304 (9218868437227405312) ∈ lw_gd := mem_5 202 rfl rfl
set_option maxRecDepth 20000 in
theorem ct_M_306 : Cond.constantDouble "InstrumentFilesModel" 306 (18442240474082181120) ∈ lw_gd := mem_5 203 rfl rfl
set_option maxRecDepth 20000 in
theorem ct_M_312 : Cond.constantDouble "InstrumentFilesModel" 312 (9221120237041090560) ∈ lw_gd := mem_5 116 rfl rfl
set_option maxRecDepth 20000 in
theorem ct_M_314 : Cond.constantLong "InstrumentFilesModel" 314 (9218868437227405312) ∈ lw_gd := mem_5 114 rfl rfl
set_option maxRecDepth 20000 in
theorem ct_M_316 : Cond.constantLong "InstrumentFilesModel" 316 (4503599627370495) ∈ lw_gd := mem_5 115 rfl rfl
set_option maxRecDepth 20000 in
theorem ct_M_345 : Cond.constantDouble "InstrumentFilesModel" 345 (13830554455654793216) ∈ lw_gd := mem_5 234 rfl rfl
set_option maxRecDepth 20000 in
theorem ct_M_347 : Cond.constantDouble "InstrumentFilesModel" 347 (14064741636278059008) ∈ lw_gd := mem_5 232 rfl rfl
set_option maxRecDepth 20000 in
theorem ct_M_349 : Cond.constantDouble "InstrumentFilesModel" 349 (4841369599423283200) ∈ lw_gd := mem_5 233 rfl rfl
set_option maxRecDepth 20000 in
theorem ct_M_351 : Cond.constantDouble "InstrumentFilesModel" 351 (4611686018427387904) ∈ lw_gd := mem_5 224 rfl rfl
set_option maxRecDepth 20000 in
theorem ct_M_353 : Cond.constantLong "InstrumentFilesModel" 353 (4503599627370496) ∈ lw_gd := mem_5 225 rfl rfl
set_option maxRecDepth 20000 in
theorem ct_M_355 : Cond.constantLong "InstrumentFilesModel" 355 (3) ∈ lw_gd := mem_5 226 rfl rfl
set_option maxRecDepth 20000 in
theorem ct_M_357 : Cond.constantLong "InstrumentFilesModel" 357 (2) ∈ lw_gd := mem_5 227 rfl rfl
set_option maxRecDepth 20000 in
theorem ct_M_359 : Cond.constantLong "InstrumentFilesModel" 359 (9007199254740992) ∈ lw_gd := mem_5 228 rfl rfl
set_option maxRecDepth 20000 in
theorem ct_Mach_196 : Cond.constantLong "InstrumentFiles$Machine" 196 (8) ∈ lw_gd := mem_4 52 rfl rfl
set_option maxRecDepth 20000 in
theorem ct_Mach_198 : Cond.constantLong "InstrumentFiles$Machine" 198 (6382195) ∈ lw_gd := mem_4 16 rfl rfl
set_option maxRecDepth 20000 in
theorem ct_Mach_203 : Cond.constantLong "InstrumentFiles$Machine" 203 (1919905652) ∈ lw_gd := mem_4 18 rfl rfl
set_option maxRecDepth 20000 in
theorem ct_Mach_208 : Cond.constantLong "InstrumentFiles$Machine" 208 (439905906546) ∈ lw_gd := mem_4 26 rfl rfl
set_option maxRecDepth 20000 in
theorem ct_Pool_38 : Cond.constantLong "InstrumentFiles$Pool" 38 (6382195) ∈ lw_gd := mem_2 233 rfl rfl
set_option maxRecDepth 20000 in
theorem ct_Pool_40 : Cond.constantLong "InstrumentFiles$Pool" 40 (1919905652) ∈ lw_gd := mem_2 234 rfl rfl
set_option maxRecDepth 20000 in
theorem ct_Pool_42 : Cond.constantLong "InstrumentFiles$Pool" 42 (439905906546) ∈ lw_gd := mem_2 235 rfl rfl
set_option maxRecDepth 20000 in
theorem ct_Pool_44 : Cond.constantLong "InstrumentFiles$Pool" 44 (1936287598) ∈ lw_gd := mem_2 236 rfl rfl
set_option maxRecDepth 20000 in
theorem cs_Dbl_canonical : CSm y_Dbl_canonical c_Dbl_canonical 2 ((some .long)) 1 := ⟨mem_2 98 rfl rfl, mem_1 10 rfl rfl, mem_2 99 rfl rfl, by decide +kernel⟩
set_option maxRecDepth 20000 in
theorem cs_Dbl_isNan : CSm y_Dbl_isNan c_Dbl_isNan 2 ((some .boolean)) 1 := ⟨mem_2 101 rfl rfl, mem_1 10 rfl rfl, mem_2 102 rfl rfl, by decide +kernel⟩
set_option maxRecDepth 20000 in
theorem cs_Dbl_absolute : CSm y_Dbl_absolute c_Dbl_absolute 2 ((some .long)) 1 := ⟨mem_3 191 rfl rfl, mem_1 10 rfl rfl, mem_3 192 rfl rfl, by decide +kernel⟩
set_option maxRecDepth 20000 in
theorem cs_Dbl_negate : CSm y_Dbl_negate c_Dbl_negate 2 ((some .long)) 1 := ⟨mem_3 218 rfl rfl, mem_1 10 rfl rfl, mem_3 219 rfl rfl, by decide +kernel⟩
set_option maxRecDepth 20000 in
theorem cs_Dbl_scaleOf : CSm y_Dbl_scaleOf c_Dbl_scaleOf 2 ((some .int)) 1 := ⟨mem_3 194 rfl rfl, mem_1 10 rfl rfl, mem_3 195 rfl rfl, by decide +kernel⟩
set_option maxRecDepth 20000 in
theorem cs_Dbl_digitsOf : CSm y_Dbl_digitsOf c_Dbl_digitsOf 4 ((some .long)) 1 := ⟨mem_3 198 rfl rfl, mem_1 10 rfl rfl, mem_3 199 rfl rfl, by decide +kernel⟩
set_option maxRecDepth 20000 in
theorem cs_Dbl_add : CSm y_Dbl_add c_Dbl_add 14 ((some .long)) 2 := ⟨mem_3 188 rfl rfl, mem_1 10 rfl rfl, mem_3 189 rfl rfl, by decide +kernel⟩
set_option maxRecDepth 20000 in
theorem cs_Dbl_multiply : CSm y_Dbl_multiply c_Dbl_multiply 14 ((some .long)) 2 := ⟨mem_3 222 rfl rfl, mem_1 10 rfl rfl, mem_3 223 rfl rfl, by decide +kernel⟩
set_option maxRecDepth 20000 in
theorem cs_Dbl_productAbove49 : CSm y_Dbl_productAbove49 c_Dbl_productAbove49 12 ((some .long)) 2 := ⟨mem_3 225 rfl rfl, mem_1 10 rfl rfl, mem_3 226 rfl rfl, by decide +kernel⟩
set_option maxRecDepth 20000 in
theorem cs_Dbl_divide : CSm y_Dbl_divide c_Dbl_divide 14 ((some .long)) 2 := ⟨mem_3 229 rfl rfl, mem_1 10 rfl rfl, mem_3 230 rfl rfl, by decide +kernel⟩
set_option maxRecDepth 20000 in
theorem cs_Dbl_quotientWith60 : CSm y_Dbl_quotientWith60 c_Dbl_quotientWith60 9 ((some .long)) 2 := ⟨mem_3 232 rfl rfl, mem_1 10 rfl rfl, mem_3 233 rfl rfl, by decide +kernel⟩
set_option maxRecDepth 20000 in
theorem cs_Dbl_root : CSm y_Dbl_root c_Dbl_root 7 ((some .long)) 1 := ⟨mem_4 20 rfl rfl, mem_1 10 rfl rfl, mem_4 21 rfl rfl, by decide +kernel⟩
set_option maxRecDepth 20000 in
theorem cs_Dbl_rootWith29 : CSm y_Dbl_rootWith29 c_Dbl_rootWith29 11 ((some .long)) 1 := ⟨mem_4 23 rfl rfl, mem_1 10 rfl rfl, mem_4 24 rfl rfl, by decide +kernel⟩
set_option maxRecDepth 20000 in
theorem cs_Dbl_floor : CSm y_Dbl_floor c_Dbl_floor 6 ((some .long)) 1 := ⟨mem_4 28 rfl rfl, mem_1 10 rfl rfl, mem_4 29 rfl rfl, by decide +kernel⟩
set_option maxRecDepth 20000 in
theorem cs_Dbl_sign : CSm y_Dbl_sign c_Dbl_sign 2 ((some .long)) 1 := ⟨mem_4 33 rfl rfl, mem_1 10 rfl rfl, mem_4 34 rfl rfl, by decide +kernel⟩
set_option maxRecDepth 20000 in
theorem cs_Dbl_isBelow : CSm y_Dbl_isBelow c_Dbl_isBelow 8 ((some .boolean)) 2 := ⟨mem_4 10 rfl rfl, mem_1 10 rfl rfl, mem_4 11 rfl rfl, by decide +kernel⟩
set_option maxRecDepth 20000 in
theorem cs_Dbl_fromInt : CSm y_Dbl_fromInt c_Dbl_fromInt 3 ((some .long)) 1 := ⟨mem_3 239 rfl rfl, mem_1 10 rfl rfl, mem_4 0 rfl rfl, by decide +kernel⟩
set_option maxRecDepth 20000 in
theorem cs_Dbl_toInt : CSm y_Dbl_toInt c_Dbl_toInt 4 ((some .int)) 1 := ⟨mem_4 5 rfl rfl, mem_1 10 rfl rfl, mem_4 6 rfl rfl, by decide +kernel⟩
set_option maxRecDepth 20000 in
theorem cs_Dbl_rounded : CSm y_Dbl_rounded c_Dbl_rounded 13 ((some .long)) 3 := ⟨mem_3 207 rfl rfl, mem_1 10 rfl rfl, mem_3 208 rfl rfl, by decide +kernel⟩
set_option maxRecDepth 20000 in
theorem cs_Dbl_shiftedDown : CSm y_Dbl_shiftedDown c_Dbl_shiftedDown 5 ((some .long)) 2 := ⟨mem_3 203 rfl rfl, mem_1 10 rfl rfl, mem_3 204 rfl rfl, by decide +kernel⟩
set_option maxRecDepth 20000 in
theorem cs_Dbl_leadingZeros : CSm y_Dbl_leadingZeros c_Dbl_leadingZeros 6 ((some .int)) 1 := ⟨mem_3 210 rfl rfl, mem_1 10 rfl rfl, mem_3 211 rfl rfl, by decide +kernel⟩
set_option maxRecDepth 20000 in
theorem cv_Judge_judgeMethod : CVm y_Judge_judgeMethod c_Judge_judgeMethod 6 ((some .int)) 2 6 := ⟨⟨_, _, rfl⟩, mem_2 175 rfl rfl, mem_2 176 rfl rfl, mem_1 7 rfl rfl, mem_2 177 rfl rfl, by decide +kernel⟩
set_option maxRecDepth 20000 in
theorem cv_Judge_judgeMapPlaces : CVm y_Judge_judgeMapPlaces c_Judge_judgeMapPlaces 3 ((some .int)) 1 6 := ⟨⟨_, _, rfl⟩, mem_3 53 rfl rfl, mem_p 17 (by decide +kernel) rfl, mem_1 7 rfl rfl, mem_3 54 rfl rfl, by decide +kernel⟩
set_option maxRecDepth 20000 in
theorem cv_Judge_judgeOp : CVm y_Judge_judgeOp c_Judge_judgeOp 7 ((some .int)) 2 6 := ⟨⟨_, _, rfl⟩, mem_2 185 rfl rfl, mem_p 9 (by decide +kernel) rfl, mem_1 7 rfl rfl, mem_2 186 rfl rfl, by decide +kernel⟩
set_option maxRecDepth 20000 in
theorem cv_Judge_meetsMap : CVm y_Judge_meetsMap c_Judge_meetsMap 4 ((some .boolean)) 1 6 := ⟨⟨_, _, rfl⟩, mem_2 189 rfl rfl, mem_p 10 (by decide +kernel) rfl, mem_1 7 rfl rfl, mem_2 190 rfl rfl, by decide +kernel⟩
set_option maxRecDepth 20000 in
theorem cv_Judge_reaches : CVm y_Judge_reaches c_Judge_reaches 4 ((some .boolean)) 2 6 := ⟨⟨_, _, rfl⟩, mem_3 48 rfl rfl, mem_p 16 (by decide +kernel) rfl, mem_1 7 rfl rfl, mem_3 49 rfl rfl, by decide +kernel⟩
set_option maxRecDepth 20000 in
theorem cv_Judge_hasEntry : CVm y_Judge_hasEntry c_Judge_hasEntry 5 ((some .boolean)) 4 6 := ⟨⟨_, _, rfl⟩, mem_2 224 rfl rfl, mem_p 11 (by decide +kernel) rfl, mem_1 7 rfl rfl, mem_2 225 rfl rfl, by decide +kernel⟩
set_option maxRecDepth 20000 in
theorem cv_Judge_judgeCall : CVm y_Judge_judgeCall c_Judge_judgeCall 5 ((some .int)) 2 6 := ⟨⟨_, _, rfl⟩, mem_2 239 rfl rfl, mem_p 12 (by decide +kernel) rfl, mem_1 7 rfl rfl, mem_3 0 rfl rfl, by decide +kernel⟩
set_option maxRecDepth 20000 in
theorem cv_Judge_judgeStack : CVm y_Judge_judgeStack c_Judge_judgeStack 8 ((some .int)) 3 6 := ⟨⟨_, _, rfl⟩, mem_3 24 rfl rfl, mem_p 15 (by decide +kernel) rfl, mem_1 7 rfl rfl, mem_3 25 rfl rfl, by decide +kernel⟩
set_option maxRecDepth 20000 in
theorem cv_Judge_popped : CVm y_Judge_popped c_Judge_popped 2 ((some .int)) 0 6 := ⟨⟨_, _, rfl⟩, mem_3 4 rfl rfl, mem_p 13 (by decide +kernel) rfl, mem_1 7 rfl rfl, mem_3 5 rfl rfl, by decide +kernel⟩
set_option maxRecDepth 20000 in
theorem cv_Judge_push : CVm y_Judge_push c_Judge_push 3 ((some .int)) 2 6 := ⟨⟨_, _, rfl⟩, mem_3 19 rfl rfl, mem_p 14 (by decide +kernel) rfl, mem_1 7 rfl rfl, mem_3 20 rfl rfl, by decide +kernel⟩
set_option maxRecDepth 20000 in
theorem cs_Kinds_depth : CSm y_Kinds_depth c_Kinds_depth 1 ((some .int)) 1 := ⟨mem_2 165 rfl rfl, mem_1 11 rfl rfl, mem_2 166 rfl rfl, by decide +kernel⟩
set_option maxRecDepth 20000 in
theorem cs_Kinds_item : CSm y_Kinds_item c_Kinds_item 2 ((some .int)) 2 := ⟨mem_3 7 rfl rfl, mem_1 11 rfl rfl, mem_3 8 rfl rfl, by decide +kernel⟩
set_option maxRecDepth 20000 in
theorem cs_Kinds_local : CSm y_Kinds_local c_Kinds_local 2 ((some .int)) 2 := ⟨mem_2 200 rfl rfl, mem_1 11 rfl rfl, mem_2 201 rfl rfl, by decide +kernel⟩
set_option maxRecDepth 20000 in
theorem cs_Kinds_push : CSm y_Kinds_push c_Kinds_push 2 ((some .int)) 2 := ⟨mem_2 162 rfl rfl, mem_1 11 rfl rfl, mem_2 163 rfl rfl, by decide +kernel⟩
set_option maxRecDepth 20000 in
theorem cs_Kinds_pop : CSm y_Kinds_pop c_Kinds_pop 2 ((some .int)) 1 := ⟨mem_3 10 rfl rfl, mem_1 11 rfl rfl, mem_3 11 rfl rfl, by decide +kernel⟩
set_option maxRecDepth 20000 in
theorem cs_Kinds_withLocal : CSm y_Kinds_withLocal c_Kinds_withLocal 4 ((some .int)) 3 := ⟨mem_2 143 rfl rfl, mem_1 11 rfl rfl, mem_2 144 rfl rfl, by decide +kernel⟩
set_option maxRecDepth 20000 in
theorem cs_Kinds_fits : CSm y_Kinds_fits c_Kinds_fits 5 ((some .boolean)) 2 := ⟨mem_2 196 rfl rfl, mem_1 11 rfl rfl, mem_2 197 rfl rfl, by decide +kernel⟩
set_option maxRecDepth 20000 in
theorem cv_Mach_setTable : CVm y_Mach_setTable c_Mach_setTable 5 ((some .boolean)) 2 7 := ⟨⟨_, _, rfl⟩, mem_3 74 rfl rfl, mem_3 75 rfl rfl, mem_1 8 rfl rfl, mem_3 76 rfl rfl, by decide +kernel⟩
set_option maxRecDepth 20000 in
theorem cv_Mach_prepare : CVm y_Mach_prepare c_Mach_prepare 2 (none) 1 7 := ⟨⟨_, _, rfl⟩, mem_3 115 rfl rfl, mem_3 116 rfl rfl, mem_1 8 rfl rfl, mem_3 117 rfl rfl, by decide +kernel⟩
set_option maxRecDepth 20000 in
theorem cv_Mach_giveArgument : CVm y_Mach_giveArgument c_Mach_giveArgument 5 (none) 3 7 := ⟨⟨_, _, rfl⟩, mem_3 126 rfl rfl, mem_3 127 rfl rfl, mem_1 8 rfl rfl, mem_3 128 rfl rfl, by decide +kernel⟩
set_option maxRecDepth 20000 in
theorem cv_Mach_run : CVm y_Mach_run c_Mach_run 4 (none) 2 7 := ⟨⟨_, _, rfl⟩, mem_3 136 rfl rfl, mem_3 137 rfl rfl, mem_1 8 rfl rfl, mem_3 138 rfl rfl, by decide +kernel⟩
set_option maxRecDepth 20000 in
theorem cv_Mach_enter : CVm y_Mach_enter c_Mach_enter 2 (none) 1 7 := ⟨⟨_, _, rfl⟩, mem_3 120 rfl rfl, mem_p 18 (by decide +kernel) rfl, mem_1 8 rfl rfl, mem_3 121 rfl rfl, by decide +kernel⟩
set_option maxRecDepth 20000 in
theorem cv_Mach_leave : CVm y_Mach_leave c_Mach_leave 4 (none) 0 7 := ⟨⟨_, _, rfl⟩, mem_4 46 rfl rfl, mem_p 35 (by decide +kernel) rfl, mem_1 8 rfl rfl, mem_4 47 rfl rfl, by decide +kernel⟩
set_option maxRecDepth 20000 in
theorem cv_Mach_fail : CVm y_Mach_fail c_Mach_fail 2 (none) 1 7 := ⟨⟨_, _, rfl⟩, mem_3 181 rfl rfl, mem_p 29 (by decide +kernel) rfl, mem_1 8 rfl rfl, mem_3 182 rfl rfl, by decide +kernel⟩
set_option maxRecDepth 20000 in
theorem cv_Mach_nextPlace : CVm y_Mach_nextPlace c_Mach_nextPlace 2 ((some .int)) 0 7 := ⟨⟨_, _, rfl⟩, mem_3 150 rfl rfl, mem_p 22 (by decide +kernel) rfl, mem_1 8 rfl rfl, mem_3 151 rfl rfl, by decide +kernel⟩
set_option maxRecDepth 20000 in
theorem cv_Mach_goTo : CVm y_Mach_goTo c_Mach_goTo 3 (none) 1 7 := ⟨⟨_, _, rfl⟩, mem_3 156 rfl rfl, mem_p 23 (by decide +kernel) rfl, mem_1 8 rfl rfl, mem_3 157 rfl rfl, by decide +kernel⟩
set_option maxRecDepth 20000 in
theorem cv_Mach_openMethod : CVm y_Mach_openMethod c_Mach_openMethod 3 ((some (.object "InstrumentFiles$Method"))) 1 7 := ⟨⟨_, _, rfl⟩, mem_3 145 rfl rfl, mem_p 21 (by decide +kernel) rfl, mem_1 8 rfl rfl, mem_3 146 rfl rfl, by decide +kernel⟩
set_option maxRecDepth 20000 in
theorem cv_Mach_push : CVm y_Mach_push c_Mach_push 3 (none) 1 7 := ⟨⟨_, _, rfl⟩, mem_3 165 rfl rfl, mem_p 25 (by decide +kernel) rfl, mem_1 8 rfl rfl, mem_3 166 rfl rfl, by decide +kernel⟩
set_option maxRecDepth 20000 in
theorem cv_Mach_pop : CVm y_Mach_pop c_Mach_pop 2 ((some .long)) 0 7 := ⟨⟨_, _, rfl⟩, mem_3 173 rfl rfl, mem_p 27 (by decide +kernel) rfl, mem_1 8 rfl rfl, mem_3 174 rfl rfl, by decide +kernel⟩
set_option maxRecDepth 20000 in
theorem cv_Mach_local : CVm y_Mach_local c_Mach_local 3 ((some .long)) 1 7 := ⟨⟨_, _, rfl⟩, mem_3 169 rfl rfl, mem_p 26 (by decide +kernel) rfl, mem_1 8 rfl rfl, mem_3 170 rfl rfl, by decide +kernel⟩
set_option maxRecDepth 20000 in
theorem cv_Mach_setLocal : CVm y_Mach_setLocal c_Mach_setLocal 5 (none) 2 7 := ⟨⟨_, _, rfl⟩, mem_3 133 rfl rfl, mem_p 19 (by decide +kernel) rfl, mem_1 8 rfl rfl, mem_3 134 rfl rfl, by decide +kernel⟩
set_option maxRecDepth 20000 in
theorem cv_Mach_runOp : CVm y_Mach_runOp c_Mach_runOp 5 (none) 1 7 := ⟨⟨_, _, rfl⟩, mem_3 141 rfl rfl, mem_p 20 (by decide +kernel) rfl, mem_1 8 rfl rfl, mem_3 142 rfl rfl, by decide +kernel⟩
set_option maxRecDepth 20000 in
theorem cv_Mach_runMove : CVm y_Mach_runMove c_Mach_runMove 6 (none) 3 7 := ⟨⟨_, _, rfl⟩, mem_3 160 rfl rfl, mem_p 24 (by decide +kernel) rfl, mem_1 8 rfl rfl, mem_3 161 rfl rfl, by decide +kernel⟩
set_option maxRecDepth 20000 in
theorem cv_Mach_runInts : CVm y_Mach_runInts c_Mach_runInts 4 (none) 1 7 := ⟨⟨_, _, rfl⟩, mem_3 177 rfl rfl, mem_p 28 (by decide +kernel) rfl, mem_1 8 rfl rfl, mem_3 178 rfl rfl, by decide +kernel⟩
set_option maxRecDepth 20000 in
theorem cv_Mach_runDoubles : CVm y_Mach_runDoubles c_Mach_runDoubles 6 (none) 1 7 := ⟨⟨_, _, rfl⟩, mem_3 185 rfl rfl, mem_p 30 (by decide +kernel) rfl, mem_1 8 rfl rfl, mem_3 186 rfl rfl, by decide +kernel⟩
set_option maxRecDepth 20000 in
theorem cv_Mach_runChange : CVm y_Mach_runChange c_Mach_runChange 4 (none) 1 7 := ⟨⟨_, _, rfl⟩, mem_3 236 rfl rfl, mem_p 31 (by decide +kernel) rfl, mem_1 8 rfl rfl, mem_3 237 rfl rfl, by decide +kernel⟩
set_option maxRecDepth 20000 in
theorem cv_Mach_runRest : CVm y_Mach_runRest c_Mach_runRest 4 (none) 3 7 := ⟨⟨_, _, rfl⟩, mem_4 38 rfl rfl, mem_p 33 (by decide +kernel) rfl, mem_1 8 rfl rfl, mem_4 39 rfl rfl, by decide +kernel⟩
set_option maxRecDepth 20000 in
theorem cv_Mach_callInside : CVm y_Mach_callInside c_Mach_callInside 5 (none) 2 7 := ⟨⟨_, _, rfl⟩, mem_4 42 rfl rfl, mem_p 34 (by decide +kernel) rfl, mem_1 8 rfl rfl, mem_4 43 rfl rfl, by decide +kernel⟩
set_option maxRecDepth 20000 in
theorem cv_Mach_pushFromTable : CVm y_Mach_pushFromTable c_Mach_pushFromTable 3 (none) 1 7 := ⟨⟨_, _, rfl⟩, mem_4 50 rfl rfl, mem_p 36 (by decide +kernel) rfl, mem_1 8 rfl rfl, mem_4 51 rfl rfl, by decide +kernel⟩
set_option maxRecDepth 20000 in
theorem cv_Mach_runListed : CVm y_Mach_runListed c_Mach_runListed 5 (none) 1 7 := ⟨⟨_, _, rfl⟩, mem_4 14 rfl rfl, mem_p 32 (by decide +kernel) rfl, mem_1 8 rfl rfl, mem_4 15 rfl rfl, by decide +kernel⟩
set_option maxRecDepth 20000 in
theorem cv_Meth_isAside : CVm y_Meth_isAside c_Meth_isAside 1 ((some .boolean)) 0 4 := ⟨⟨_, _, rfl⟩, mem_3 83 rfl rfl, mem_3 84 rfl rfl, mem_1 5 rfl rfl, mem_3 85 rfl rfl, by decide +kernel⟩
set_option maxRecDepth 20000 in
theorem cv_Meth_takenKind : CVm y_Meth_takenKind c_Meth_takenKind 2 ((some .int)) 1 4 := ⟨⟨_, _, rfl⟩, mem_3 13 rfl rfl, mem_3 14 rfl rfl, mem_1 5 rfl rfl, mem_3 15 rfl rfl, by decide +kernel⟩
set_option maxRecDepth 20000 in
theorem cv_Meth_codeAt : CVm y_Meth_codeAt c_Meth_codeAt 2 ((some .int)) 1 4 := ⟨⟨_, _, rfl⟩, mem_2 207 rfl rfl, mem_2 208 rfl rfl, mem_1 5 rfl rfl, mem_2 209 rfl rfl, by decide +kernel⟩
set_option maxRecDepth 20000 in
theorem cv_Meth_setCode : CVm y_Meth_setCode c_Meth_setCode 3 (none) 2 4 := ⟨⟨_, _, rfl⟩, mem_2 150 rfl rfl, mem_2 151 rfl rfl, mem_1 5 rfl rfl, mem_2 152 rfl rfl, by decide +kernel⟩
set_option maxRecDepth 20000 in
theorem cv_Meth_appendMap : CVm y_Meth_appendMap c_Meth_appendMap 3 (none) 2 4 := ⟨⟨_, _, rfl⟩, mem_2 169 rfl rfl, mem_2 170 rfl rfl, mem_1 5 rfl rfl, mem_2 171 rfl rfl, by decide +kernel⟩
set_option maxRecDepth 20000 in
theorem cv_Meth_mapPlace : CVm y_Meth_mapPlace c_Meth_mapPlace 2 ((some .int)) 1 4 := ⟨⟨_, _, rfl⟩, mem_3 56 rfl rfl, mem_3 57 rfl rfl, mem_1 5 rfl rfl, mem_3 58 rfl rfl, by decide +kernel⟩
set_option maxRecDepth 20000 in
theorem cv_Meth_mapAt : CVm y_Meth_mapAt c_Meth_mapAt 3 ((some .int)) 1 4 := ⟨⟨_, _, rfl⟩, mem_2 192 rfl rfl, mem_2 193 rfl rfl, mem_1 5 rfl rfl, mem_2 194 rfl rfl, by decide +kernel⟩
set_option maxRecDepth 20000 in
theorem cv_Meth_kindsAt : CVm y_Meth_kindsAt c_Meth_kindsAt 2 ((some .int)) 1 4 := ⟨⟨_, _, rfl⟩, mem_3 60 rfl rfl, mem_3 61 rfl rfl, mem_1 5 rfl rfl, mem_3 62 rfl rfl, by decide +kernel⟩
set_option maxRecDepth 20000 in
theorem cv_Meth_setKinds : CVm y_Meth_setKinds c_Meth_setKinds 3 (none) 2 4 := ⟨⟨_, _, rfl⟩, mem_2 203 rfl rfl, mem_2 204 rfl rfl, mem_1 5 rfl rfl, mem_2 205 rfl rfl, by decide +kernel⟩
set_option maxRecDepth 20000 in
theorem cv_Meth_forgetJudgement : CVm y_Meth_forgetJudgement c_Meth_forgetJudgement 2 (none) 0 4 := ⟨⟨_, _, rfl⟩, mem_2 180 rfl rfl, mem_2 181 rfl rfl, mem_1 5 rfl rfl, mem_2 182 rfl rfl, by decide +kernel⟩
set_option maxRecDepth 20000 in
theorem cs_Ops_isOp : CSm y_Ops_isOp c_Ops_isOp 1 ((some .boolean)) 1 := ⟨mem_2 211 rfl rfl, mem_1 12 rfl rfl, mem_2 212 rfl rfl, by decide +kernel⟩
set_option maxRecDepth 20000 in
theorem cs_Ops_hasByte : CSm y_Ops_hasByte c_Ops_hasByte 1 ((some .boolean)) 1 := ⟨mem_2 217 rfl rfl, mem_1 12 rfl rfl, mem_2 218 rfl rfl, by decide +kernel⟩
set_option maxRecDepth 20000 in
theorem cs_Ops_size : CSm y_Ops_size c_Ops_size 1 ((some .int)) 1 := ⟨mem_2 214 rfl rfl, mem_1 12 rfl rfl, mem_2 215 rfl rfl, by decide +kernel⟩
set_option maxRecDepth 20000 in
theorem cs_Ops_goesOn : CSm y_Ops_goesOn c_Ops_goesOn 1 ((some .boolean)) 1 := ⟨mem_2 220 rfl rfl, mem_1 12 rfl rfl, mem_2 221 rfl rfl, by decide +kernel⟩
set_option maxRecDepth 20000 in
theorem cs_Ops_jumps : CSm y_Ops_jumps c_Ops_jumps 1 ((some .boolean)) 1 := ⟨mem_3 44 rfl rfl, mem_1 12 rfl rfl, mem_3 45 rfl rfl, by decide +kernel⟩
set_option maxRecDepth 20000 in
theorem cs_Ops_taken : CSm y_Ops_taken c_Ops_taken 1 ((some .int)) 1 := ⟨mem_3 27 rfl rfl, mem_1 12 rfl rfl, mem_3 28 rfl rfl, by decide +kernel⟩
set_option maxRecDepth 20000 in
theorem cs_Ops_takenKind : CSm y_Ops_takenKind c_Ops_takenKind 1 ((some .int)) 1 := ⟨mem_3 32 rfl rfl, mem_1 12 rfl rfl, mem_3 33 rfl rfl, by decide +kernel⟩
set_option maxRecDepth 20000 in
theorem cs_Ops_pushedKind : CSm y_Ops_pushedKind c_Ops_pushedKind 1 ((some .int)) 1 := ⟨mem_3 39 rfl rfl, mem_1 12 rfl rfl, mem_3 40 rfl rfl, by decide +kernel⟩
set_option maxRecDepth 20000 in
theorem cv_Pool_has : CVm y_Pool_has c_Pool_has 2 ((some .boolean)) 1 3 := ⟨⟨_, _, rfl⟩, mem_2 127 rfl rfl, mem_2 128 rfl rfl, mem_1 4 rfl rfl, mem_2 129 rfl rfl, by decide +kernel⟩
set_option maxRecDepth 20000 in
theorem cv_Pool_isTagged : CVm y_Pool_isTagged c_Pool_isTagged 3 ((some .boolean)) 2 3 := ⟨⟨_, _, rfl⟩, mem_2 123 rfl rfl, mem_2 124 rfl rfl, mem_1 4 rfl rfl, mem_2 125 rfl rfl, by decide +kernel⟩
set_option maxRecDepth 20000 in
theorem cv_Pool_isListed : CVm y_Pool_isListed c_Pool_isListed 4 ((some .boolean)) 1 3 := ⟨⟨_, _, rfl⟩, mem_2 228 rfl rfl, mem_2 229 rfl rfl, mem_1 4 rfl rfl, mem_2 230 rfl rfl, by decide +kernel⟩
set_option maxRecDepth 20000 in
theorem cv_Pool_tagOf : CVm y_Pool_tagOf c_Pool_tagOf 2 ((some .int)) 1 3 := ⟨⟨_, _, rfl⟩, mem_3 93 rfl rfl, mem_3 94 rfl rfl, mem_1 4 rfl rfl, mem_3 95 rfl rfl, by decide +kernel⟩
set_option maxRecDepth 20000 in
theorem cv_Pool_sizeOf : CVm y_Pool_sizeOf c_Pool_sizeOf 2 ((some .int)) 1 3 := ⟨⟨_, _, rfl⟩, mem_3 98 rfl rfl, mem_3 99 rfl rfl, mem_1 4 rfl rfl, mem_3 100 rfl rfl, by decide +kernel⟩
set_option maxRecDepth 20000 in
theorem cv_Pool_valueOf : CVm y_Pool_valueOf c_Pool_valueOf 2 ((some .long)) 1 3 := ⟨⟨_, _, rfl⟩, mem_2 135 rfl rfl, mem_2 136 rfl rfl, mem_1 4 rfl rfl, mem_2 137 rfl rfl, by decide +kernel⟩
set_option maxRecDepth 20000 in
theorem cv_Pool_append : CVm y_Pool_append c_Pool_append 5 (none) 3 3 := ⟨⟨_, _, rfl⟩, mem_2 94 rfl rfl, mem_2 95 rfl rfl, mem_1 4 rfl rfl, mem_2 96 rfl rfl, by decide +kernel⟩
set_option maxRecDepth 20000 in
theorem cv_Prog_forget : CVm y_Prog_forget c_Prog_forget 1 (none) 0 2 := ⟨⟨_, _, rfl⟩, mem_2 77 rfl rfl, mem_2 78 rfl rfl, mem_1 3 rfl rfl, mem_2 79 rfl rfl, by decide +kernel⟩
set_option maxRecDepth 20000 in
theorem cv_Prog_methodAt : CVm y_Prog_methodAt c_Prog_methodAt 2 ((some (.object "InstrumentFiles$Method"))) 1 2 := ⟨⟨_, _, rfl⟩, mem_2 131 rfl rfl, mem_2 132 rfl rfl, mem_1 3 rfl rfl, mem_2 133 rfl rfl, by decide +kernel⟩
set_option maxRecDepth 20000 in
theorem cv_Prog_nextMethod : CVm y_Prog_nextMethod c_Prog_nextMethod 1 ((some (.object "InstrumentFiles$Method"))) 0 2 := ⟨⟨_, _, rfl⟩, mem_2 111 rfl rfl, mem_2 112 rfl rfl, mem_1 3 rfl rfl, mem_2 113 rfl rfl, by decide +kernel⟩
set_option maxRecDepth 20000 in
theorem cv_Prog_canName : CVm y_Prog_canName c_Prog_canName 5 ((some .boolean)) 1 2 := ⟨⟨_, _, rfl⟩, mem_2 119 rfl rfl, mem_2 120 rfl rfl, mem_1 3 rfl rfl, mem_2 121 rfl rfl, by decide +kernel⟩
set_option maxRecDepth 20000 in
theorem cv_Read_readFile : CVm y_Read_readFile c_Read_readFile 4 (none) 2 5 := ⟨⟨_, _, rfl⟩, mem_2 73 rfl rfl, mem_2 74 rfl rfl, mem_1 6 rfl rfl, mem_2 75 rfl rfl, by decide +kernel⟩
set_option maxRecDepth 20000 in
theorem cv_Read_take : CVm y_Read_take c_Read_take 6 ((some .int)) 4 5 := ⟨⟨_, _, rfl⟩, mem_2 82 rfl rfl, mem_p 0 (by decide +kernel) rfl, mem_1 6 rfl rfl, mem_2 83 rfl rfl, by decide +kernel⟩
set_option maxRecDepth 20000 in
theorem cv_Read_takeMany : CVm y_Read_takeMany c_Read_takeMany 8 ((some .long)) 4 5 := ⟨⟨_, _, rfl⟩, mem_2 91 rfl rfl, mem_p 2 (by decide +kernel) rfl, mem_1 6 rfl rfl, mem_2 92 rfl rfl, by decide +kernel⟩
set_option maxRecDepth 20000 in
theorem cv_Read_readPool : CVm y_Read_readPool c_Read_readPool 7 (none) 2 5 := ⟨⟨_, _, rfl⟩, mem_2 87 rfl rfl, mem_p 1 (by decide +kernel) rfl, mem_1 6 rfl rfl, mem_2 88 rfl rfl, by decide +kernel⟩
set_option maxRecDepth 20000 in
theorem cv_Read_readMethods : CVm y_Read_readMethods c_Read_readMethods 6 (none) 2 5 := ⟨⟨_, _, rfl⟩, mem_2 108 rfl rfl, mem_p 3 (by decide +kernel) rfl, mem_1 6 rfl rfl, mem_2 109 rfl rfl, by decide +kernel⟩
set_option maxRecDepth 20000 in
theorem cv_Read_takeName : CVm y_Read_takeName c_Read_takeName 4 ((some .int)) 2 5 := ⟨⟨_, _, rfl⟩, mem_2 116 rfl rfl, mem_p 4 (by decide +kernel) rfl, mem_1 6 rfl rfl, mem_2 117 rfl rfl, by decide +kernel⟩
set_option maxRecDepth 20000 in
theorem cv_Read_readHead : CVm y_Read_readHead c_Read_readHead 4 (none) 2 5 := ⟨⟨_, _, rfl⟩, mem_2 140 rfl rfl, mem_p 5 (by decide +kernel) rfl, mem_1 6 rfl rfl, mem_2 141 rfl rfl, by decide +kernel⟩
set_option maxRecDepth 20000 in
theorem cv_Read_readCode : CVm y_Read_readCode c_Read_readCode 4 (none) 2 5 := ⟨⟨_, _, rfl⟩, mem_2 147 rfl rfl, mem_p 6 (by decide +kernel) rfl, mem_1 6 rfl rfl, mem_2 148 rfl rfl, by decide +kernel⟩
set_option maxRecDepth 20000 in
theorem cv_Read_readMaps : CVm y_Read_readMaps c_Read_readMaps 7 (none) 2 5 := ⟨⟨_, _, rfl⟩, mem_2 155 rfl rfl, mem_p 7 (by decide +kernel) rfl, mem_1 6 rfl rfl, mem_2 156 rfl rfl, by decide +kernel⟩
set_option maxRecDepth 20000 in
theorem cv_Read_takeMapKinds : CVm y_Read_takeMapKinds c_Read_takeMapKinds 6 ((some .int)) 2 5 := ⟨⟨_, _, rfl⟩, mem_2 159 rfl rfl, mem_p 8 (by decide +kernel) rfl, mem_1 6 rfl rfl, mem_2 160 rfl rfl, by decide +kernel⟩
set_option maxRecDepth 20000 in
theorem cv_Tape_has : CVm y_Tape_has c_Tape_has 2 ((some .boolean)) 1 1 := ⟨⟨_, _, rfl⟩, mem_2 44 rfl rfl, mem_2 45 rfl rfl, mem_1 2 rfl rfl, mem_2 46 rfl rfl, by decide +kernel⟩
set_option maxRecDepth 20000 in
theorem cv_Tape_byteAt : CVm y_Tape_byteAt c_Tape_byteAt 2 ((some .int)) 1 1 := ⟨⟨_, _, rfl⟩, mem_2 48 rfl rfl, mem_2 49 rfl rfl, mem_1 2 rfl rfl, mem_2 50 rfl rfl, by decide +kernel⟩
set_option maxRecDepth 20000 in
theorem cv_Tape_replace : CVm y_Tape_replace c_Tape_replace 3 ((some .int)) 2 1 := ⟨⟨_, _, rfl⟩, mem_2 53 rfl rfl, mem_2 54 rfl rfl, mem_1 2 rfl rfl, mem_2 55 rfl rfl, by decide +kernel⟩
set_option maxRecDepth 20000 in
theorem cv_Tape_append : CVm y_Tape_append c_Tape_append 2 (none) 1 1 := ⟨⟨_, _, rfl⟩, mem_2 32 rfl rfl, mem_2 33 rfl rfl, mem_1 2 rfl rfl, mem_2 34 rfl rfl, by decide +kernel⟩
set_option maxRecDepth 20000 in
theorem cv_Tape_sumAhead : CVm y_Tape_sumAhead c_Tape_sumAhead 4 ((some .int)) 1 1 := ⟨⟨_, _, rfl⟩, mem_2 65 rfl rfl, mem_2 66 rfl rfl, mem_1 2 rfl rfl, mem_2 67 rfl rfl, by decide +kernel⟩
set_option maxRecDepth 20000 in
theorem cv_IF_feed : CVm y_IF_feed c_IF_feed 5 ((some .int)) 2 0 := ⟨⟨_, _, rfl⟩, mem_2 28 rfl rfl, mem_2 29 rfl rfl, mem_1 1 rfl rfl, mem_2 30 rfl rfl, by decide +kernel⟩
set_option maxRecDepth 20000 in
theorem cv_IF_wipe : CVm y_IF_wipe c_IF_wipe 2 ((some .int)) 0 0 := ⟨⟨_, _, rfl⟩, mem_2 36 rfl rfl, mem_2 37 rfl rfl, mem_1 1 rfl rfl, mem_2 38 rfl rfl, by decide +kernel⟩
set_option maxRecDepth 20000 in
theorem cv_IF_alter : CVm y_IF_alter c_IF_alter 3 ((some .int)) 2 0 := ⟨⟨_, _, rfl⟩, mem_2 40 rfl rfl, mem_2 41 rfl rfl, mem_1 1 rfl rfl, mem_2 42 rfl rfl, by decide +kernel⟩
set_option maxRecDepth 20000 in
theorem cv_IF_at : CVm y_IF_at c_IF_at 2 ((some .int)) 1 0 := ⟨⟨_, _, rfl⟩, mem_2 57 rfl rfl, mem_2 58 rfl rfl, mem_1 1 rfl rfl, mem_2 59 rfl rfl, by decide +kernel⟩
set_option maxRecDepth 20000 in
theorem cv_IF_seal : CVm y_IF_seal c_IF_seal 2 ((some .int)) 0 0 := ⟨⟨_, _, rfl⟩, mem_2 61 rfl rfl, mem_2 62 rfl rfl, mem_1 1 rfl rfl, mem_2 63 rfl rfl, by decide +kernel⟩
set_option maxRecDepth 20000 in
theorem cv_IF_read : CVm y_IF_read c_IF_read 3 ((some .int)) 0 0 := ⟨⟨_, _, rfl⟩, mem_2 69 rfl rfl, mem_2 70 rfl rfl, mem_1 1 rfl rfl, mem_2 71 rfl rfl, by decide +kernel⟩
set_option maxRecDepth 20000 in
theorem cv_IF_fault : CVm y_IF_fault c_IF_fault 1 ((some .int)) 0 0 := ⟨⟨_, _, rfl⟩, mem_3 65 rfl rfl, mem_3 66 rfl rfl, mem_1 1 rfl rfl, mem_3 67 rfl rfl, by decide +kernel⟩
set_option maxRecDepth 20000 in
theorem cv_IF_table : CVm y_IF_table c_IF_table 4 ((some .int)) 2 0 := ⟨⟨_, _, rfl⟩, mem_3 69 rfl rfl, mem_3 70 rfl rfl, mem_1 1 rfl rfl, mem_3 71 rfl rfl, by decide +kernel⟩
set_option maxRecDepth 20000 in
theorem cv_IF_method : CVm y_IF_method c_IF_method 4 ((some .int)) 2 0 := ⟨⟨_, _, rfl⟩, mem_3 78 rfl rfl, mem_3 79 rfl rfl, mem_1 1 rfl rfl, mem_3 80 rfl rfl, by decide +kernel⟩
set_option maxRecDepth 20000 in
theorem cv_IF_pool : CVm y_IF_pool c_IF_pool 4 ((some .long)) 2 0 := ⟨⟨_, _, rfl⟩, mem_3 87 rfl rfl, mem_3 88 rfl rfl, mem_1 1 rfl rfl, mem_3 89 rfl rfl, by decide +kernel⟩
set_option maxRecDepth 20000 in
theorem cv_IF_kind : CVm y_IF_kind c_IF_kind 6 ((some .int)) 3 0 := ⟨⟨_, _, rfl⟩, mem_3 104 rfl rfl, mem_3 105 rfl rfl, mem_1 1 rfl rfl, mem_3 106 rfl rfl, by decide +kernel⟩
set_option maxRecDepth 20000 in
theorem cv_IF_call : CVm y_IF_call c_IF_call 10 ((some .int)) 5 0 := ⟨⟨_, _, rfl⟩, mem_3 111 rfl rfl, mem_3 112 rfl rfl, mem_1 1 rfl rfl, mem_3 113 rfl rfl, by decide +kernel⟩
set_option maxRecDepth 20000 in
theorem cv_IF_result : CVm y_IF_result c_IF_result 1 ((some .long)) 0 0 := ⟨⟨_, _, rfl⟩, mem_4 54 rfl rfl, mem_4 55 rfl rfl, mem_1 1 rfl rfl, mem_4 56 rfl rfl, by decide +kernel⟩
set_option maxRecDepth 20000 in
theorem cv_IF_told : CVm y_IF_told c_IF_told 2 ((some .int)) 1 0 := ⟨⟨_, _, rfl⟩, mem_4 58 rfl rfl, mem_4 59 rfl rfl, mem_1 1 rfl rfl, mem_4 60 rfl rfl, by decide +kernel⟩
set_option maxRecDepth 20000 in
theorem cv_IF_count : CVm y_IF_count c_IF_count 2 ((some .int)) 1 0 := ⟨⟨_, _, rfl⟩, mem_4 62 rfl rfl, mem_4 63 rfl rfl, mem_1 1 rfl rfl, mem_4 64 rfl rfl, by decide +kernel⟩
set_option maxRecDepth 20000 in
theorem cs_M_in : CSm y_M_in c_M_in 3 ((some .boolean)) 3 := ⟨mem_4 226 rfl rfl, mem_1 9 rfl rfl, mem_4 227 rfl rfl, by decide +kernel⟩
set_option maxRecDepth 20000 in
theorem cv_M_feed : CVm y_M_feed c_M_feed 5 ((some .int)) 2 8 := ⟨⟨_, _, rfl⟩, mem_4 222 rfl rfl, mem_4 223 rfl rfl, mem_1 9 rfl rfl, mem_4 224 rfl rfl, by decide +kernel⟩
set_option maxRecDepth 20000 in
theorem cv_M_wipe : CVm y_M_wipe c_M_wipe 2 ((some .int)) 0 8 := ⟨⟨_, _, rfl⟩, mem_4 229 rfl rfl, mem_4 230 rfl rfl, mem_1 9 rfl rfl, mem_4 231 rfl rfl, by decide +kernel⟩
set_option maxRecDepth 20000 in
theorem cv_M_alter : CVm y_M_alter c_M_alter 3 ((some .int)) 2 8 := ⟨⟨_, _, rfl⟩, mem_4 233 rfl rfl, mem_4 234 rfl rfl, mem_1 9 rfl rfl, mem_4 235 rfl rfl, by decide +kernel⟩
set_option maxRecDepth 20000 in
theorem cv_M_at : CVm y_M_at c_M_at 2 ((some .int)) 1 8 := ⟨⟨_, _, rfl⟩, mem_4 237 rfl rfl, mem_4 238 rfl rfl, mem_1 9 rfl rfl, mem_4 239 rfl rfl, by decide +kernel⟩
set_option maxRecDepth 20000 in
theorem cv_M_sumAhead : CVm y_M_sumAhead c_M_sumAhead 4 ((some .int)) 1 8 := ⟨⟨_, _, rfl⟩, mem_5 6 rfl rfl, mem_p 37 (by decide +kernel) rfl, mem_1 9 rfl rfl, mem_5 7 rfl rfl, by decide +kernel⟩
set_option maxRecDepth 20000 in
theorem cv_M_seal : CVm y_M_seal c_M_seal 1 ((some .int)) 0 8 := ⟨⟨_, _, rfl⟩, mem_5 1 rfl rfl, mem_5 2 rfl rfl, mem_1 9 rfl rfl, mem_5 3 rfl rfl, by decide +kernel⟩
set_option maxRecDepth 20000 in
theorem cv_M_faults : CVm y_M_faults c_M_faults 3 (none) 2 8 := ⟨⟨_, _, rfl⟩, mem_5 26 rfl rfl, mem_p 41 (by decide +kernel) rfl, mem_1 9 rfl rfl, mem_5 27 rfl rfl, by decide +kernel⟩
set_option maxRecDepth 20000 in
theorem cv_M_take : CVm y_M_take c_M_take 1 ((some .int)) 0 8 := ⟨⟨_, _, rfl⟩, mem_5 22 rfl rfl, mem_p 40 (by decide +kernel) rfl, mem_1 9 rfl rfl, mem_5 23 rfl rfl, by decide +kernel⟩
set_option maxRecDepth 20000 in
theorem cv_M_taken : CVm y_M_taken c_M_taken 5 ((some .int)) 3 8 := ⟨⟨_, _, rfl⟩, mem_5 18 rfl rfl, mem_p 39 (by decide +kernel) rfl, mem_1 9 rfl rfl, mem_5 19 rfl rfl, by decide +kernel⟩
set_option maxRecDepth 20000 in
theorem cv_M_takeLong : CVm y_M_takeLong c_M_takeLong 5 ((some .long)) 1 8 := ⟨⟨_, _, rfl⟩, mem_5 34 rfl rfl, mem_p 43 (by decide +kernel) rfl, mem_1 9 rfl rfl, mem_5 35 rfl rfl, by decide +kernel⟩
set_option maxRecDepth 20000 in
theorem cv_M_readPool : CVm y_M_readPool c_M_readPool 3 (none) 0 8 := ⟨⟨_, _, rfl⟩, mem_5 30 rfl rfl, mem_p 42 (by decide +kernel) rfl, mem_1 9 rfl rfl, mem_5 31 rfl rfl, by decide +kernel⟩
set_option maxRecDepth 20000 in
theorem cv_M_isSameWord : CVm y_M_isSameWord c_M_isSameWord 5 ((some .boolean)) 2 8 := ⟨⟨_, _, rfl⟩, mem_5 46 rfl rfl, mem_p 46 (by decide +kernel) rfl, mem_1 9 rfl rfl, mem_5 47 rfl rfl, by decide +kernel⟩
set_option maxRecDepth 20000 in
theorem cv_M_readName : CVm y_M_readName c_M_readName 5 (none) 1 8 := ⟨⟨_, _, rfl⟩, mem_5 42 rfl rfl, mem_p 45 (by decide +kernel) rfl, mem_1 9 rfl rfl, mem_5 43 rfl rfl, by decide +kernel⟩
set_option maxRecDepth 20000 in
theorem cv_M_readMap : CVm y_M_readMap c_M_readMap 6 (none) 2 8 := ⟨⟨_, _, rfl⟩, mem_5 50 rfl rfl, mem_p 47 (by decide +kernel) rfl, mem_1 9 rfl rfl, mem_5 51 rfl rfl, by decide +kernel⟩
set_option maxRecDepth 20000 in
theorem cv_M_readMethod : CVm y_M_readMethod c_M_readMethod 3 (none) 1 8 := ⟨⟨_, _, rfl⟩, mem_5 38 rfl rfl, mem_p 44 (by decide +kernel) rfl, mem_1 9 rfl rfl, mem_5 39 rfl rfl, by decide +kernel⟩
set_option maxRecDepth 20000 in
theorem cv_M_readFile : CVm y_M_readFile c_M_readFile 2 (none) 0 8 := ⟨⟨_, _, rfl⟩, mem_5 14 rfl rfl, mem_p 38 (by decide +kernel) rfl, mem_1 9 rfl rfl, mem_5 15 rfl rfl, by decide +kernel⟩
set_option maxRecDepth 20000 in
theorem cv_M_read : CVm y_M_read c_M_read 3 ((some .int)) 0 8 := ⟨⟨_, _, rfl⟩, mem_5 9 rfl rfl, mem_5 10 rfl rfl, mem_1 9 rfl rfl, mem_5 11 rfl rfl, by decide +kernel⟩
set_option maxRecDepth 20000 in
theorem cv_M_fault : CVm y_M_fault c_M_fault 1 ((some .int)) 0 8 := ⟨⟨_, _, rfl⟩, mem_5 104 rfl rfl, mem_5 105 rfl rfl, mem_1 9 rfl rfl, mem_5 106 rfl rfl, by decide +kernel⟩
set_option maxRecDepth 20000 in
theorem cv_M_mapAt : CVm y_M_mapAt c_M_mapAt 5 ((some .int)) 2 8 := ⟨⟨_, _, rfl⟩, mem_5 62 rfl rfl, mem_p 50 (by decide +kernel) rfl, mem_1 9 rfl rfl, mem_5 63 rfl rfl, by decide +kernel⟩
set_option maxRecDepth 20000 in
theorem cv_M_fits : CVm y_M_fits c_M_fits 5 ((some .boolean)) 2 8 := ⟨⟨_, _, rfl⟩, mem_5 66 rfl rfl, mem_p 51 (by decide +kernel) rfl, mem_1 9 rfl rfl, mem_5 67 rfl rfl, by decide +kernel⟩
set_option maxRecDepth 20000 in
theorem cv_M_becomes : CVm y_M_becomes c_M_becomes 4 (none) 2 8 := ⟨⟨_, _, rfl⟩, mem_5 70 rfl rfl, mem_p 52 (by decide +kernel) rfl, mem_1 9 rfl rfl, mem_5 71 rfl rfl, by decide +kernel⟩
set_option maxRecDepth 20000 in
theorem cs_M_hasByte : CSm y_M_hasByte c_M_hasByte 1 ((some .boolean)) 1 := ⟨mem_5 73 rfl rfl, mem_1 9 rfl rfl, mem_5 74 rfl rfl, by decide +kernel⟩
set_option maxRecDepth 20000 in
theorem cv_M_judge : CVm y_M_judge c_M_judge 4 (none) 1 8 := ⟨⟨_, _, rfl⟩, mem_5 54 rfl rfl, mem_p 48 (by decide +kernel) rfl, mem_1 9 rfl rfl, mem_5 55 rfl rfl, by decide +kernel⟩
set_option maxRecDepth 20000 in
theorem cv_M_judgeOp : CVm y_M_judgeOp c_M_judgeOp 8 (none) 3 8 := ⟨⟨_, _, rfl⟩, mem_5 58 rfl rfl, mem_p 49 (by decide +kernel) rfl, mem_1 9 rfl rfl, mem_5 59 rfl rfl, by decide +kernel⟩
set_option maxRecDepth 20000 in
theorem cv_M_isListed : CVm y_M_isListed c_M_isListed 2 ((some .boolean)) 1 8 := ⟨⟨_, _, rfl⟩, mem_5 81 rfl rfl, mem_p 54 (by decide +kernel) rfl, mem_1 9 rfl rfl, mem_5 82 rfl rfl, by decide +kernel⟩
set_option maxRecDepth 20000 in
theorem cv_M_isWord : CVm y_M_isWord c_M_isWord 9 ((some .boolean)) 6 8 := ⟨⟨_, _, rfl⟩, mem_5 85 rfl rfl, mem_p 55 (by decide +kernel) rfl, mem_1 9 rfl rfl, mem_5 86 rfl rfl, by decide +kernel⟩
set_option maxRecDepth 20000 in
theorem cv_M_isEntry : CVm y_M_isEntry c_M_isEntry 4 ((some .boolean)) 3 8 := ⟨⟨_, _, rfl⟩, mem_5 77 rfl rfl, mem_p 53 (by decide +kernel) rfl, mem_1 9 rfl rfl, mem_5 78 rfl rfl, by decide +kernel⟩
set_option maxRecDepth 20000 in
theorem cv_M_pops : CVm y_M_pops c_M_pops 3 ((some .int)) 2 8 := ⟨⟨_, _, rfl⟩, mem_5 93 rfl rfl, mem_p 57 (by decide +kernel) rfl, mem_1 9 rfl rfl, mem_5 94 rfl rfl, by decide +kernel⟩
set_option maxRecDepth 20000 in
theorem cv_M_wants : CVm y_M_wants c_M_wants 5 ((some .int)) 4 8 := ⟨⟨_, _, rfl⟩, mem_5 97 rfl rfl, mem_p 58 (by decide +kernel) rfl, mem_1 9 rfl rfl, mem_5 98 rfl rfl, by decide +kernel⟩
set_option maxRecDepth 20000 in
theorem cv_M_pushes : CVm y_M_pushes c_M_pushes 4 ((some .int)) 3 8 := ⟨⟨_, _, rfl⟩, mem_5 101 rfl rfl, mem_p 59 (by decide +kernel) rfl, mem_1 9 rfl rfl, mem_5 102 rfl rfl, by decide +kernel⟩
set_option maxRecDepth 20000 in
theorem cv_M_judgeKinds : CVm y_M_judgeKinds c_M_judgeKinds 10 (none) 4 8 := ⟨⟨_, _, rfl⟩, mem_5 89 rfl rfl, mem_p 56 (by decide +kernel) rfl, mem_1 9 rfl rfl, mem_5 90 rfl rfl, by decide +kernel⟩
set_option maxRecDepth 20000 in
theorem cv_M_isMethod : CVm y_M_isMethod c_M_isMethod 2 ((some .boolean)) 1 8 := ⟨⟨_, _, rfl⟩, mem_5 126 rfl rfl, mem_p 60 (by decide +kernel) rfl, mem_1 9 rfl rfl, mem_5 127 rfl rfl, by decide +kernel⟩
set_option maxRecDepth 20000 in
theorem cv_M_table : CVm y_M_table c_M_table 4 ((some .int)) 2 8 := ⟨⟨_, _, rfl⟩, mem_5 108 rfl rfl, mem_5 109 rfl rfl, mem_1 9 rfl rfl, mem_5 110 rfl rfl, by decide +kernel⟩
set_option maxRecDepth 20000 in
theorem cv_M_method : CVm y_M_method c_M_method 3 ((some .int)) 2 8 := ⟨⟨_, _, rfl⟩, mem_5 121 rfl rfl, mem_5 122 rfl rfl, mem_1 9 rfl rfl, mem_5 123 rfl rfl, by decide +kernel⟩
set_option maxRecDepth 20000 in
theorem cv_M_pool : CVm y_M_pool c_M_pool 3 ((some .long)) 2 8 := ⟨⟨_, _, rfl⟩, mem_5 129 rfl rfl, mem_5 130 rfl rfl, mem_1 9 rfl rfl, mem_5 131 rfl rfl, by decide +kernel⟩
set_option maxRecDepth 20000 in
theorem cv_M_kind : CVm y_M_kind c_M_kind 5 ((some .int)) 3 8 := ⟨⟨_, _, rfl⟩, mem_5 145 rfl rfl, mem_5 146 rfl rfl, mem_1 9 rfl rfl, mem_5 147 rfl rfl, by decide +kernel⟩
set_option maxRecDepth 20000 in
theorem cv_M_push : CVm y_M_push c_M_push 6 (none) 2 8 := ⟨⟨_, _, rfl⟩, mem_5 182 rfl rfl, mem_p 68 (by decide +kernel) rfl, mem_1 9 rfl rfl, mem_5 183 rfl rfl, by decide +kernel⟩
set_option maxRecDepth 20000 in
theorem cv_M_pop : CVm y_M_pop c_M_pop 2 ((some .int)) 0 8 := ⟨⟨_, _, rfl⟩, mem_5 178 rfl rfl, mem_p 67 (by decide +kernel) rfl, mem_1 9 rfl rfl, mem_5 179 rfl rfl, by decide +kernel⟩
set_option maxRecDepth 20000 in
theorem cv_M_enter : CVm y_M_enter c_M_enter 3 (none) 1 8 := ⟨⟨_, _, rfl⟩, mem_5 154 rfl rfl, mem_p 61 (by decide +kernel) rfl, mem_1 9 rfl rfl, mem_5 155 rfl rfl, by decide +kernel⟩
set_option maxRecDepth 20000 in
theorem cv_M_fails : CVm y_M_fails c_M_fails 2 (none) 1 8 := ⟨⟨_, _, rfl⟩, mem_5 162 rfl rfl, mem_p 63 (by decide +kernel) rfl, mem_1 9 rfl rfl, mem_5 163 rfl rfl, by decide +kernel⟩
set_option maxRecDepth 20000 in
theorem cv_M_give : CVm y_M_give c_M_give 5 (none) 3 8 := ⟨⟨_, _, rfl⟩, mem_5 158 rfl rfl, mem_p 62 (by decide +kernel) rfl, mem_1 9 rfl rfl, mem_5 159 rfl rfl, by decide +kernel⟩
set_option maxRecDepth 20000 in
theorem cv_M_call : CVm y_M_call c_M_call 10 ((some .int)) 5 8 := ⟨⟨_, _, rfl⟩, mem_5 149 rfl rfl, mem_5 150 rfl rfl, mem_1 9 rfl rfl, mem_5 151 rfl rfl, by decide +kernel⟩
set_option maxRecDepth 20000 in
theorem cv_M_step : CVm y_M_step c_M_step 7 (none) 0 8 := ⟨⟨_, _, rfl⟩, mem_5 166 rfl rfl, mem_p 64 (by decide +kernel) rfl, mem_1 9 rfl rfl, mem_5 167 rfl rfl, by decide +kernel⟩
set_option maxRecDepth 20000 in
theorem cv_M_calls : CVm y_M_calls c_M_calls 5 (none) 2 8 := ⟨⟨_, _, rfl⟩, mem_5 170 rfl rfl, mem_p 65 (by decide +kernel) rfl, mem_1 9 rfl rfl, mem_5 171 rfl rfl, by decide +kernel⟩
set_option maxRecDepth 20000 in
theorem cv_M_gives : CVm y_M_gives c_M_gives 7 (none) 2 8 := ⟨⟨_, _, rfl⟩, mem_5 174 rfl rfl, mem_p 66 (by decide +kernel) rfl, mem_1 9 rfl rfl, mem_5 175 rfl rfl, by decide +kernel⟩
set_option maxRecDepth 20000 in
theorem cv_M_moves : CVm y_M_moves c_M_moves 5 (none) 3 8 := ⟨⟨_, _, rfl⟩, mem_5 186 rfl rfl, mem_p 69 (by decide +kernel) rfl, mem_1 9 rfl rfl, mem_5 187 rfl rfl, by decide +kernel⟩
set_option maxRecDepth 20000 in
theorem cv_M_joinsInts : CVm y_M_joinsInts c_M_joinsInts 4 (none) 1 8 := ⟨⟨_, _, rfl⟩, mem_5 190 rfl rfl, mem_p 70 (by decide +kernel) rfl, mem_1 9 rfl rfl, mem_5 191 rfl rfl, by decide +kernel⟩
set_option maxRecDepth 20000 in
theorem cs_M_isEndless : CSm y_M_isEndless c_M_isEndless 2 ((some .boolean)) 1 := ⟨mem_5 200 rfl rfl, mem_1 9 rfl rfl, mem_5 201 rfl rfl, by decide +kernel⟩
set_option maxRecDepth 20000 in
theorem cs_M_plus : CSm y_M_plus c_M_plus 5 ((some .double)) 2 := ⟨mem_5 197 rfl rfl, mem_1 9 rfl rfl, mem_5 198 rfl rfl, by decide +kernel⟩
set_option maxRecDepth 20000 in
theorem cs_M_minus : CSm y_M_minus c_M_minus 5 ((some .double)) 2 := ⟨mem_5 205 rfl rfl, mem_1 9 rfl rfl, mem_5 206 rfl rfl, by decide +kernel⟩
set_option maxRecDepth 20000 in
theorem cs_M_times : CSm y_M_times c_M_times 5 ((some .double)) 2 := ⟨mem_5 208 rfl rfl, mem_1 9 rfl rfl, mem_5 209 rfl rfl, by decide +kernel⟩
set_option maxRecDepth 20000 in
theorem cs_M_by : CSm y_M_by c_M_by 5 ((some .double)) 2 := ⟨mem_5 211 rfl rfl, mem_1 9 rfl rfl, mem_5 212 rfl rfl, by decide +kernel⟩
set_option maxRecDepth 20000 in
theorem cs_M_doubleOf : CSm y_M_doubleOf c_M_doubleOf 3 ((some .double)) 1 := ⟨mem_5 112 rfl rfl, mem_1 9 rfl rfl, mem_5 113 rfl rfl, by decide +kernel⟩
set_option maxRecDepth 20000 in
theorem cv_M_joinsDoubles : CVm y_M_joinsDoubles c_M_joinsDoubles 6 (none) 1 8 := ⟨⟨_, _, rfl⟩, mem_5 194 rfl rfl, mem_p 71 (by decide +kernel) rfl, mem_1 9 rfl rfl, mem_5 195 rfl rfl, by decide +kernel⟩
set_option maxRecDepth 20000 in
theorem cv_M_turns : CVm y_M_turns c_M_turns 5 (none) 2 8 := ⟨⟨_, _, rfl⟩, mem_5 215 rfl rfl, mem_p 72 (by decide +kernel) rfl, mem_1 9 rfl rfl, mem_5 216 rfl rfl, by decide +kernel⟩
set_option maxRecDepth 20000 in
theorem cv_M_listed : CVm y_M_listed c_M_listed 4 ((some .double)) 2 8 := ⟨⟨_, _, rfl⟩, mem_5 219 rfl rfl, mem_p 73 (by decide +kernel) rfl, mem_1 9 rfl rfl, mem_5 220 rfl rfl, by decide +kernel⟩
set_option maxRecDepth 20000 in
theorem cs_M_floor : CSm y_M_floor c_M_floor 4 ((some .double)) 1 := ⟨mem_5 230 rfl rfl, mem_1 9 rfl rfl, mem_5 231 rfl rfl, by decide +kernel⟩
set_option maxRecDepth 20000 in
theorem cs_M_root : CSm y_M_root c_M_root 16 ((some .double)) 1 := ⟨mem_5 222 rfl rfl, mem_1 9 rfl rfl, mem_5 223 rfl rfl, by decide +kernel⟩
set_option maxRecDepth 20000 in
theorem cv_M_result : CVm y_M_result c_M_result 1 ((some .long)) 0 8 := ⟨⟨_, _, rfl⟩, mem_5 236 rfl rfl, mem_5 237 rfl rfl, mem_1 9 rfl rfl, mem_5 238 rfl rfl, by decide +kernel⟩
set_option maxRecDepth 20000 in
theorem cv_M_told : CVm y_M_told c_M_told 2 ((some .int)) 1 8 := ⟨⟨_, _, rfl⟩, mem_6 0 rfl rfl, mem_6 1 rfl rfl, mem_1 9 rfl rfl, mem_6 2 rfl rfl, by decide +kernel⟩
set_option maxRecDepth 20000 in
theorem cv_M_count : CVm y_M_count c_M_count 2 ((some .int)) 1 8 := ⟨⟨_, _, rfl⟩, mem_6 4 rfl rfl, mem_6 5 rfl rfl, mem_1 9 rfl rfl, mem_6 6 rfl rfl, by decide +kernel⟩
set_option maxRecDepth 20000 in
theorem cs_JD_isNaN : CSm y_JD_isNaN c_JD_isNaN 2 ((some .boolean)) 1 := ⟨mem_5 138 rfl rfl, mem_1 13 rfl rfl, mem_5 139 rfl rfl, by decide +kernel⟩
set_option maxRecDepth 20000 in
theorem cs_JD_doubleToLongBits : CSm y_JD_doubleToLongBits c_JD_doubleToLongBits 2 ((some .long)) 1 := ⟨mem_5 135 rfl rfl, mem_1 13 rfl rfl, mem_5 136 rfl rfl, by decide +kernel⟩
set_option maxRecDepth 20000 in
theorem cs_JM_abs : CSm y_JM_abs c_JM_abs 2 ((some .long)) 1 := ⟨mem_4 2 rfl rfl, mem_1 14 rfl rfl, mem_4 3 rfl rfl, by decide +kernel⟩
set_option maxRecDepth 20000 in
theorem cs_JM_max : CSm y_JM_max c_JM_max 2 ((some .int)) 2 := ⟨mem_3 123 rfl rfl, mem_1 14 rfl rfl, mem_3 124 rfl rfl, by decide +kernel⟩
set_option maxRecDepth 20000 in
theorem cs_JM_min : CSm y_JM_min c_JM_min 2 ((some .int)) 2 := ⟨mem_3 213 rfl rfl, mem_1 14 rfl rfl, mem_3 214 rfl rfl, by decide +kernel⟩
set_option maxRecDepth 20000 in
theorem ob0 : (0, 0) ∈ objs := List.mem_of_getElem? (i := 0) rfl
set_option maxRecDepth 20000 in
theorem ob1 : (1, 0) ∈ objs := List.mem_of_getElem? (i := 1) rfl
set_option maxRecDepth 20000 in
theorem ob2 : (2, 0) ∈ objs := List.mem_of_getElem? (i := 2) rfl
set_option maxRecDepth 20000 in
theorem ob3 : (3, 0) ∈ objs := List.mem_of_getElem? (i := 3) rfl
set_option maxRecDepth 20000 in
theorem ob4 {i : Nat} (h : i < 5) : (4, i) ∈ objs := by
  match i, h with
  | 0, _ => exact List.mem_of_getElem? (i := 4) rfl
  | 1, _ => exact List.mem_of_getElem? (i := 5) rfl
  | 2, _ => exact List.mem_of_getElem? (i := 6) rfl
  | 3, _ => exact List.mem_of_getElem? (i := 7) rfl
  | 4, _ => exact List.mem_of_getElem? (i := 8) rfl
set_option maxRecDepth 20000 in
theorem ob5 : (5, 0) ∈ objs := List.mem_of_getElem? (i := 9) rfl
set_option maxRecDepth 20000 in
theorem ob6 : (6, 0) ∈ objs := List.mem_of_getElem? (i := 10) rfl
set_option maxRecDepth 20000 in
theorem ob7 : (7, 0) ∈ objs := List.mem_of_getElem? (i := 11) rfl
set_option maxRecDepth 20000 in
theorem ob8 : (8, 0) ∈ objs := List.mem_of_getElem? (i := 12) rfl
set_option maxRecDepth 20000 in
theorem ob9 : (9, 0) ∈ objs := List.mem_of_getElem? (i := 13) rfl
set_option maxRecDepth 20000 in
theorem ob10 : (10, 0) ∈ objs := List.mem_of_getElem? (i := 14) rfl
set_option maxRecDepth 20000 in
theorem ob11 : (11, 0) ∈ objs := List.mem_of_getElem? (i := 15) rfl
set_option maxRecDepth 20000 in
theorem ob12 : (12, 0) ∈ objs := List.mem_of_getElem? (i := 16) rfl
set_option maxRecDepth 20000 in
theorem ob13 : (13, 0) ∈ objs := List.mem_of_getElem? (i := 17) rfl
set_option maxRecDepth 20000 in
theorem ob14 {i : Nat} (h : i < 5) : (14, i) ∈ objs := by
  match i, h with
  | 0, _ => exact List.mem_of_getElem? (i := 18) rfl
  | 1, _ => exact List.mem_of_getElem? (i := 19) rfl
  | 2, _ => exact List.mem_of_getElem? (i := 20) rfl
  | 3, _ => exact List.mem_of_getElem? (i := 21) rfl
  | 4, _ => exact List.mem_of_getElem? (i := 22) rfl
set_option maxRecDepth 20000 in
theorem ob15 {i : Nat} (h : i < 5) : (15, i) ∈ objs := by
  match i, h with
  | 0, _ => exact List.mem_of_getElem? (i := 23) rfl
  | 1, _ => exact List.mem_of_getElem? (i := 24) rfl
  | 2, _ => exact List.mem_of_getElem? (i := 25) rfl
  | 3, _ => exact List.mem_of_getElem? (i := 26) rfl
  | 4, _ => exact List.mem_of_getElem? (i := 27) rfl
set_option maxRecDepth 20000 in
theorem ob16 {i : Nat} (h : i < 5) : (16, i) ∈ objs := by
  match i, h with
  | 0, _ => exact List.mem_of_getElem? (i := 28) rfl
  | 1, _ => exact List.mem_of_getElem? (i := 29) rfl
  | 2, _ => exact List.mem_of_getElem? (i := 30) rfl
  | 3, _ => exact List.mem_of_getElem? (i := 31) rfl
  | 4, _ => exact List.mem_of_getElem? (i := 32) rfl
set_option maxRecDepth 20000 in
theorem ob17 {i : Nat} (h : i < 5) : (17, i) ∈ objs := by
  match i, h with
  | 0, _ => exact List.mem_of_getElem? (i := 33) rfl
  | 1, _ => exact List.mem_of_getElem? (i := 34) rfl
  | 2, _ => exact List.mem_of_getElem? (i := 35) rfl
  | 3, _ => exact List.mem_of_getElem? (i := 36) rfl
  | 4, _ => exact List.mem_of_getElem? (i := 37) rfl
set_option maxRecDepth 20000 in
theorem ob18 : (18, 0) ∈ objs := List.mem_of_getElem? (i := 38) rfl
set_option maxRecDepth 20000 in
theorem ob19 : (19, 0) ∈ objs := List.mem_of_getElem? (i := 39) rfl
set_option maxRecDepth 20000 in
theorem ob20 : (20, 0) ∈ objs := List.mem_of_getElem? (i := 40) rfl
set_option maxRecDepth 20000 in
theorem ob21 : (21, 0) ∈ objs := List.mem_of_getElem? (i := 41) rfl
set_option maxRecDepth 20000 in
theorem ob22 : (22, 0) ∈ objs := List.mem_of_getElem? (i := 42) rfl
set_option maxRecDepth 20000 in
theorem ob23 : (23, 0) ∈ objs := List.mem_of_getElem? (i := 43) rfl
set_option maxRecDepth 20000 in
theorem ob24 : (24, 0) ∈ objs := List.mem_of_getElem? (i := 44) rfl
set_option maxRecDepth 20000 in
theorem ob25 : (25, 0) ∈ objs := List.mem_of_getElem? (i := 45) rfl
set_option maxRecDepth 20000 in
theorem ob26 : (26, 0) ∈ objs := List.mem_of_getElem? (i := 46) rfl
set_option maxRecDepth 20000 in
theorem ob27 : (27, 0) ∈ objs := List.mem_of_getElem? (i := 47) rfl
set_option maxRecDepth 20000 in
theorem ob28 : (28, 0) ∈ objs := List.mem_of_getElem? (i := 48) rfl
set_option maxRecDepth 20000 in
theorem ob29 : (29, 0) ∈ objs := List.mem_of_getElem? (i := 49) rfl
set_option maxRecDepth 20000 in
theorem ob30 : (30, 0) ∈ objs := List.mem_of_getElem? (i := 50) rfl
set_option maxRecDepth 20000 in
theorem ob31 : (31, 0) ∈ objs := List.mem_of_getElem? (i := 51) rfl
set_option maxRecDepth 20000 in
theorem ob32 : (32, 0) ∈ objs := List.mem_of_getElem? (i := 52) rfl
set_option maxRecDepth 20000 in
theorem ob33 : (33, 0) ∈ objs := List.mem_of_getElem? (i := 53) rfl
set_option maxRecDepth 20000 in
theorem ob34 : (34, 0) ∈ objs := List.mem_of_getElem? (i := 54) rfl
set_option maxRecDepth 20000 in
theorem ob35 : (35, 0) ∈ objs := List.mem_of_getElem? (i := 55) rfl
set_option maxRecDepth 20000 in
theorem ob36 : (36, 0) ∈ objs := List.mem_of_getElem? (i := 56) rfl
set_option maxRecDepth 20000 in
theorem ob37 : (37, 0) ∈ objs := List.mem_of_getElem? (i := 57) rfl
set_option maxRecDepth 20000 in
theorem ob38 : (38, 0) ∈ objs := List.mem_of_getElem? (i := 58) rfl
set_option maxRecDepth 20000 in
theorem ob39 : (39, 0) ∈ objs := List.mem_of_getElem? (i := 59) rfl
set_option maxRecDepth 20000 in
theorem ob40 : (40, 0) ∈ objs := List.mem_of_getElem? (i := 60) rfl
set_option maxRecDepth 20000 in
theorem ob41 : (41, 0) ∈ objs := List.mem_of_getElem? (i := 61) rfl
set_option maxRecDepth 20000 in
theorem ob42 : (42, 0) ∈ objs := List.mem_of_getElem? (i := 62) rfl
set_option maxRecDepth 20000 in
theorem ob43 : (43, 0) ∈ objs := List.mem_of_getElem? (i := 63) rfl
set_option maxRecDepth 20000 in
theorem ob44 : (44, 0) ∈ objs := List.mem_of_getElem? (i := 64) rfl
set_option maxRecDepth 20000 in
theorem ob45 : (45, 0) ∈ objs := List.mem_of_getElem? (i := 65) rfl
set_option maxRecDepth 20000 in
theorem ob46 : (46, 0) ∈ objs := List.mem_of_getElem? (i := 66) rfl
set_option maxRecDepth 20000 in
theorem ob47 : (47, 0) ∈ objs := List.mem_of_getElem? (i := 67) rfl
set_option maxRecDepth 20000 in
theorem ob48 : (48, 0) ∈ objs := List.mem_of_getElem? (i := 68) rfl
set_option maxRecDepth 20000 in
theorem ob49 : (49, 0) ∈ objs := List.mem_of_getElem? (i := 69) rfl
set_option maxRecDepth 20000 in
theorem ob50 : (50, 0) ∈ objs := List.mem_of_getElem? (i := 70) rfl
set_option maxRecDepth 20000 in
theorem ob51 : (51, 0) ∈ objs := List.mem_of_getElem? (i := 71) rfl
set_option maxRecDepth 20000 in
theorem ob52 : (52, 0) ∈ objs := List.mem_of_getElem? (i := 72) rfl
set_option maxRecDepth 20000 in
theorem ob53 : (53, 0) ∈ objs := List.mem_of_getElem? (i := 73) rfl
set_option maxRecDepth 20000 in
theorem ob54 : (54, 0) ∈ objs := List.mem_of_getElem? (i := 74) rfl
set_option maxRecDepth 20000 in
theorem ak9 : AKk 9 0 500 := ⟨by decide, rfl⟩
set_option maxRecDepth 20000 in
theorem ak10 : AKk 10 4 5 := ⟨by decide, rfl⟩
set_option maxRecDepth 20000 in
theorem ak11 : AKk 11 0 16 := ⟨by decide, rfl⟩
set_option maxRecDepth 20000 in
theorem ak12 : AKk 12 0 16 := ⟨by decide, rfl⟩
set_option maxRecDepth 20000 in
theorem ak13 : AKk 13 2 16 := ⟨by decide, rfl⟩
set_option maxRecDepth 20000 in
theorem ak14 : AKk 14 0 48 := ⟨by decide, rfl⟩
set_option maxRecDepth 20000 in
theorem ak15 : AKk 15 0 8 := ⟨by decide, rfl⟩
set_option maxRecDepth 20000 in
theorem ak16 : AKk 16 0 8 := ⟨by decide, rfl⟩
set_option maxRecDepth 20000 in
theorem ak17 : AKk 17 0 48 := ⟨by decide, rfl⟩
set_option maxRecDepth 20000 in
theorem ak18 : AKk 18 2 8 := ⟨by decide, rfl⟩
set_option maxRecDepth 20000 in
theorem ak19 : AKk 19 2 48 := ⟨by decide, rfl⟩
set_option maxRecDepth 20000 in
theorem ak20 : AKk 20 2 48 := ⟨by decide, rfl⟩
set_option maxRecDepth 20000 in
theorem ak21 : AKk 21 0 8 := ⟨by decide, rfl⟩
set_option maxRecDepth 20000 in
theorem ak22 : AKk 22 0 8 := ⟨by decide, rfl⟩
set_option maxRecDepth 20000 in
theorem ak23 : AKk 23 0 8 := ⟨by decide, rfl⟩
set_option maxRecDepth 20000 in
theorem ak24 : AKk 24 0 500 := ⟨by decide, rfl⟩
set_option maxRecDepth 20000 in
theorem ak25 : AKk 25 3 8 := ⟨by decide, rfl⟩
set_option maxRecDepth 20000 in
theorem ak26 : AKk 26 0 16 := ⟨by decide, rfl⟩
set_option maxRecDepth 20000 in
theorem ak27 : AKk 27 2 16 := ⟨by decide, rfl⟩
set_option maxRecDepth 20000 in
theorem ak28 : AKk 28 0 16 := ⟨by decide, rfl⟩
set_option maxRecDepth 20000 in
theorem ak29 : AKk 29 0 128 := ⟨by decide, rfl⟩
set_option maxRecDepth 20000 in
theorem ak30 : AKk 30 0 5 := ⟨by decide, rfl⟩
set_option maxRecDepth 20000 in
theorem ak31 : AKk 31 0 5 := ⟨by decide, rfl⟩
set_option maxRecDepth 20000 in
theorem ak32 : AKk 32 0 15 := ⟨by decide, rfl⟩
set_option maxRecDepth 20000 in
theorem ak33 : AKk 33 0 5 := ⟨by decide, rfl⟩
set_option maxRecDepth 20000 in
theorem ak34 : AKk 34 0 5 := ⟨by decide, rfl⟩
set_option maxRecDepth 20000 in
theorem ak35 : AKk 35 0 5 := ⟨by decide, rfl⟩
set_option maxRecDepth 20000 in
theorem ak36 : AKk 36 0 5 := ⟨by decide, rfl⟩
set_option maxRecDepth 20000 in
theorem ak37 : AKk 37 0 240 := ⟨by decide, rfl⟩
set_option maxRecDepth 20000 in
theorem ak38 : AKk 38 0 5 := ⟨by decide, rfl⟩
set_option maxRecDepth 20000 in
theorem ak39 : AKk 39 0 40 := ⟨by decide, rfl⟩
set_option maxRecDepth 20000 in
theorem ak40 : AKk 40 0 240 := ⟨by decide, rfl⟩
set_option maxRecDepth 20000 in
theorem ak41 : AKk 41 0 40 := ⟨by decide, rfl⟩
set_option maxRecDepth 20000 in
theorem ak42 : AKk 42 0 240 := ⟨by decide, rfl⟩
set_option maxRecDepth 20000 in
theorem ak43 : AKk 43 1 240 := ⟨by decide, rfl⟩
set_option maxRecDepth 20000 in
theorem ak44 : AKk 44 0 240 := ⟨by decide, rfl⟩
set_option maxRecDepth 20000 in
theorem ak45 : AKk 45 0 1440 := ⟨by decide, rfl⟩
set_option maxRecDepth 20000 in
theorem ak46 : AKk 46 0 1440 := ⟨by decide, rfl⟩
set_option maxRecDepth 20000 in
theorem ak47 : AKk 47 0 5 := ⟨by decide, rfl⟩
set_option maxRecDepth 20000 in
theorem ak48 : AKk 48 0 8 := ⟨by decide, rfl⟩
set_option maxRecDepth 20000 in
theorem ak49 : AKk 49 0 6 := ⟨by decide, rfl⟩
set_option maxRecDepth 20000 in
theorem ak50 : AKk 50 0 8 := ⟨by decide, rfl⟩
set_option maxRecDepth 20000 in
theorem ak51 : AKk 51 0 8 := ⟨by decide, rfl⟩
set_option maxRecDepth 20000 in
theorem ak52 : AKk 52 0 8 := ⟨by decide, rfl⟩
set_option maxRecDepth 20000 in
theorem ak53 : AKk 53 0 96 := ⟨by decide, rfl⟩
set_option maxRecDepth 20000 in
theorem ak54 : AKk 54 3 96 := ⟨by decide, rfl⟩
end
section
theorem d_Dbl_canonical_0 : DC c_Dbl_canonical 0 (.lload_n 0) 1 1 := ⟨by decide +kernel, rfl⟩
theorem d_Dbl_canonical_1 : DC c_Dbl_canonical 1 (.invokestatic 7) 3 4 := ⟨by decide +kernel, rfl⟩
theorem d_Dbl_canonical_4 : DB c_Dbl_canonical 4 (.ifCond .eq 9) (9) 7 13 := ⟨by decide +kernel, rfl, rfl⟩
theorem d_Dbl_canonical_7 : DC c_Dbl_canonical 7 (.ldc2_w 13) 3 10 := ⟨by decide +kernel, rfl⟩
theorem d_Dbl_canonical_10 : DB c_Dbl_canonical 10 (.goto 4) (4) 13 14 := ⟨by decide +kernel, rfl, rfl⟩
theorem d_Dbl_canonical_13 : DC c_Dbl_canonical 13 (.lload_n 0) 1 14 := ⟨by decide +kernel, rfl⟩
theorem d_Dbl_canonical_14 : DC c_Dbl_canonical 14 (.lreturn) 1 15 := ⟨by decide +kernel, rfl⟩
theorem d_Dbl_isNan_0 : DC c_Dbl_isNan 0 (.lload_n 0) 1 1 := ⟨by decide +kernel, rfl⟩
theorem d_Dbl_isNan_1 : DC c_Dbl_isNan 1 (.ldc2_w 15) 3 4 := ⟨by decide +kernel, rfl⟩
theorem d_Dbl_isNan_4 : DC c_Dbl_isNan 4 (.land) 1 5 := ⟨by decide +kernel, rfl⟩
theorem d_Dbl_isNan_5 : DC c_Dbl_isNan 5 (.ldc2_w 17) 3 8 := ⟨by decide +kernel, rfl⟩
theorem d_Dbl_isNan_8 : DC c_Dbl_isNan 8 (.lcmp) 1 9 := ⟨by decide +kernel, rfl⟩
theorem d_Dbl_isNan_9 : DB c_Dbl_isNan 9 (.ifCond .le 7) (7) 12 16 := ⟨by decide +kernel, rfl, rfl⟩
theorem d_Dbl_isNan_12 : DC c_Dbl_isNan 12 (.iconst 1) 1 13 := ⟨by decide +kernel, rfl⟩
theorem d_Dbl_isNan_13 : DB c_Dbl_isNan 13 (.goto 4) (4) 16 17 := ⟨by decide +kernel, rfl, rfl⟩
theorem d_Dbl_isNan_16 : DC c_Dbl_isNan 16 (.iconst 0) 1 17 := ⟨by decide +kernel, rfl⟩
theorem d_Dbl_isNan_17 : DC c_Dbl_isNan 17 (.ireturn) 1 18 := ⟨by decide +kernel, rfl⟩
theorem d_Dbl_absolute_0 : DC c_Dbl_absolute 0 (.lload_n 0) 1 1 := ⟨by decide +kernel, rfl⟩
theorem d_Dbl_absolute_1 : DC c_Dbl_absolute 1 (.ldc2_w 15) 3 4 := ⟨by decide +kernel, rfl⟩
theorem d_Dbl_absolute_4 : DC c_Dbl_absolute 4 (.land) 1 5 := ⟨by decide +kernel, rfl⟩
theorem d_Dbl_absolute_5 : DC c_Dbl_absolute 5 (.lreturn) 1 6 := ⟨by decide +kernel, rfl⟩
theorem d_Dbl_negate_0 : DC c_Dbl_negate 0 (.lload_n 0) 1 1 := ⟨by decide +kernel, rfl⟩
theorem d_Dbl_negate_1 : DC c_Dbl_negate 1 (.ldc2_w 19) 3 4 := ⟨by decide +kernel, rfl⟩
theorem d_Dbl_negate_4 : DC c_Dbl_negate 4 (.lxor) 1 5 := ⟨by decide +kernel, rfl⟩
theorem d_Dbl_negate_5 : DC c_Dbl_negate 5 (.invokestatic 21) 3 8 := ⟨by decide +kernel, rfl⟩
theorem d_Dbl_negate_8 : DC c_Dbl_negate 8 (.lreturn) 1 9 := ⟨by decide +kernel, rfl⟩
theorem d_Dbl_scaleOf_0 : DC c_Dbl_scaleOf 0 (.lload_n 0) 1 1 := ⟨by decide +kernel, rfl⟩
theorem d_Dbl_scaleOf_1 : DC c_Dbl_scaleOf 1 (.ldc2_w 17) 3 4 := ⟨by decide +kernel, rfl⟩
theorem d_Dbl_scaleOf_4 : DC c_Dbl_scaleOf 4 (.land) 1 5 := ⟨by decide +kernel, rfl⟩
theorem d_Dbl_scaleOf_5 : DC c_Dbl_scaleOf 5 (.bipush 52) 2 7 := ⟨by decide +kernel, rfl⟩
theorem d_Dbl_scaleOf_7 : DC c_Dbl_scaleOf 7 (.lushr) 1 8 := ⟨by decide +kernel, rfl⟩
theorem d_Dbl_scaleOf_8 : DC c_Dbl_scaleOf 8 (.l2i) 1 9 := ⟨by decide +kernel, rfl⟩
theorem d_Dbl_scaleOf_9 : DC c_Dbl_scaleOf 9 (.iconst 1) 1 10 := ⟨by decide +kernel, rfl⟩
theorem d_Dbl_scaleOf_10 : DC c_Dbl_scaleOf 10 (.invokestatic 25) 3 13 := ⟨by decide +kernel, rfl⟩
theorem d_Dbl_scaleOf_13 : DC c_Dbl_scaleOf 13 (.ireturn) 1 14 := ⟨by decide +kernel, rfl⟩
theorem d_Dbl_digitsOf_0 : DC c_Dbl_digitsOf 0 (.lload_n 0) 1 1 := ⟨by decide +kernel, rfl⟩
theorem d_Dbl_digitsOf_1 : DC c_Dbl_digitsOf 1 (.ldc2_w 31) 3 4 := ⟨by decide +kernel, rfl⟩
theorem d_Dbl_digitsOf_4 : DC c_Dbl_digitsOf 4 (.land) 1 5 := ⟨by decide +kernel, rfl⟩
theorem d_Dbl_digitsOf_5 : DC c_Dbl_digitsOf 5 (.lstore_n 2) 1 6 := ⟨by decide +kernel, rfl⟩
theorem d_Dbl_digitsOf_6 : DC c_Dbl_digitsOf 6 (.lload_n 0) 1 7 := ⟨by decide +kernel, rfl⟩
theorem d_Dbl_digitsOf_7 : DC c_Dbl_digitsOf 7 (.ldc2_w 17) 3 10 := ⟨by decide +kernel, rfl⟩
theorem d_Dbl_digitsOf_10 : DC c_Dbl_digitsOf 10 (.land) 1 11 := ⟨by decide +kernel, rfl⟩
theorem d_Dbl_digitsOf_11 : DC c_Dbl_digitsOf 11 (.lconst 0) 1 12 := ⟨by decide +kernel, rfl⟩
theorem d_Dbl_digitsOf_12 : DC c_Dbl_digitsOf 12 (.lcmp) 1 13 := ⟨by decide +kernel, rfl⟩
theorem d_Dbl_digitsOf_13 : DB c_Dbl_digitsOf 13 (.ifCond .ne 7) (7) 16 20 := ⟨by decide +kernel, rfl, rfl⟩
theorem d_Dbl_digitsOf_16 : DC c_Dbl_digitsOf 16 (.lload_n 2) 1 17 := ⟨by decide +kernel, rfl⟩
theorem d_Dbl_digitsOf_17 : DB c_Dbl_digitsOf 17 (.goto 8) (8) 20 25 := ⟨by decide +kernel, rfl, rfl⟩
theorem d_Dbl_digitsOf_20 : DC c_Dbl_digitsOf 20 (.lload_n 2) 1 21 := ⟨by decide +kernel, rfl⟩
theorem d_Dbl_digitsOf_21 : DC c_Dbl_digitsOf 21 (.ldc2_w 33) 3 24 := ⟨by decide +kernel, rfl⟩
theorem d_Dbl_digitsOf_24 : DC c_Dbl_digitsOf 24 (.lor) 1 25 := ⟨by decide +kernel, rfl⟩
theorem d_Dbl_digitsOf_25 : DC c_Dbl_digitsOf 25 (.lreturn) 1 26 := ⟨by decide +kernel, rfl⟩
theorem d_Dbl_add_0 : DC c_Dbl_add 0 (.lload_n 0) 1 1 := ⟨by decide +kernel, rfl⟩
theorem d_Dbl_add_1 : DC c_Dbl_add 1 (.invokestatic 7) 3 4 := ⟨by decide +kernel, rfl⟩
theorem d_Dbl_add_4 : DB c_Dbl_add 4 (.ifCond .ne 10) (10) 7 14 := ⟨by decide +kernel, rfl, rfl⟩
theorem d_Dbl_add_7 : DC c_Dbl_add 7 (.lload_n 2) 1 8 := ⟨by decide +kernel, rfl⟩
theorem d_Dbl_add_8 : DC c_Dbl_add 8 (.invokestatic 7) 3 11 := ⟨by decide +kernel, rfl⟩
theorem d_Dbl_add_11 : DB c_Dbl_add 11 (.ifCond .eq 7) (7) 14 18 := ⟨by decide +kernel, rfl, rfl⟩
theorem d_Dbl_add_14 : DC c_Dbl_add 14 (.ldc2_w 13) 3 17 := ⟨by decide +kernel, rfl⟩
theorem d_Dbl_add_17 : DC c_Dbl_add 17 (.lreturn) 1 18 := ⟨by decide +kernel, rfl⟩
theorem d_Dbl_add_18 : DC c_Dbl_add 18 (.lload_n 0) 1 19 := ⟨by decide +kernel, rfl⟩
theorem d_Dbl_add_19 : DC c_Dbl_add 19 (.invokestatic 35) 3 22 := ⟨by decide +kernel, rfl⟩
theorem d_Dbl_add_22 : DC c_Dbl_add 22 (.lload_n 2) 1 23 := ⟨by decide +kernel, rfl⟩
theorem d_Dbl_add_23 : DC c_Dbl_add 23 (.invokestatic 35) 3 26 := ⟨by decide +kernel, rfl⟩
theorem d_Dbl_add_26 : DC c_Dbl_add 26 (.lcmp) 1 27 := ⟨by decide +kernel, rfl⟩
theorem d_Dbl_add_27 : DB c_Dbl_add 27 (.ifCond .lt 7) (7) 30 34 := ⟨by decide +kernel, rfl, rfl⟩
theorem d_Dbl_add_30 : DC c_Dbl_add 30 (.lload_n 0) 1 31 := ⟨by decide +kernel, rfl⟩
theorem d_Dbl_add_31 : DB c_Dbl_add 31 (.goto 4) (4) 34 35 := ⟨by decide +kernel, rfl, rfl⟩
theorem d_Dbl_add_34 : DC c_Dbl_add 34 (.lload_n 2) 1 35 := ⟨by decide +kernel, rfl⟩
theorem d_Dbl_add_35 : DC c_Dbl_add 35 (.lstore 4) 2 37 := ⟨by decide +kernel, rfl⟩
theorem d_Dbl_add_37 : DC c_Dbl_add 37 (.lload_n 0) 1 38 := ⟨by decide +kernel, rfl⟩
theorem d_Dbl_add_38 : DC c_Dbl_add 38 (.invokestatic 35) 3 41 := ⟨by decide +kernel, rfl⟩
theorem d_Dbl_add_41 : DC c_Dbl_add 41 (.lload_n 2) 1 42 := ⟨by decide +kernel, rfl⟩
theorem d_Dbl_add_42 : DC c_Dbl_add 42 (.invokestatic 35) 3 45 := ⟨by decide +kernel, rfl⟩
theorem d_Dbl_add_45 : DC c_Dbl_add 45 (.lcmp) 1 46 := ⟨by decide +kernel, rfl⟩
theorem d_Dbl_add_46 : DB c_Dbl_add 46 (.ifCond .lt 7) (7) 49 53 := ⟨by decide +kernel, rfl, rfl⟩
theorem d_Dbl_add_49 : DC c_Dbl_add 49 (.lload_n 2) 1 50 := ⟨by decide +kernel, rfl⟩
theorem d_Dbl_add_50 : DB c_Dbl_add 50 (.goto 4) (4) 53 54 := ⟨by decide +kernel, rfl, rfl⟩
theorem d_Dbl_add_53 : DC c_Dbl_add 53 (.lload_n 0) 1 54 := ⟨by decide +kernel, rfl⟩
theorem d_Dbl_add_54 : DC c_Dbl_add 54 (.lstore 6) 2 56 := ⟨by decide +kernel, rfl⟩
theorem d_Dbl_add_56 : DC c_Dbl_add 56 (.lload_n 0) 1 57 := ⟨by decide +kernel, rfl⟩
theorem d_Dbl_add_57 : DC c_Dbl_add 57 (.lload_n 2) 1 58 := ⟨by decide +kernel, rfl⟩
theorem d_Dbl_add_58 : DC c_Dbl_add 58 (.lxor) 1 59 := ⟨by decide +kernel, rfl⟩
theorem d_Dbl_add_59 : DC c_Dbl_add 59 (.lconst 0) 1 60 := ⟨by decide +kernel, rfl⟩
theorem d_Dbl_add_60 : DC c_Dbl_add 60 (.lcmp) 1 61 := ⟨by decide +kernel, rfl⟩
theorem d_Dbl_add_61 : DB c_Dbl_add 61 (.ifCond .lt 7) (7) 64 68 := ⟨by decide +kernel, rfl, rfl⟩
theorem d_Dbl_add_64 : DC c_Dbl_add 64 (.iconst 1) 1 65 := ⟨by decide +kernel, rfl⟩
theorem d_Dbl_add_65 : DB c_Dbl_add 65 (.goto 4) (4) 68 69 := ⟨by decide +kernel, rfl, rfl⟩
theorem d_Dbl_add_68 : DC c_Dbl_add 68 (.iconst 0) 1 69 := ⟨by decide +kernel, rfl⟩
theorem d_Dbl_add_69 : DC c_Dbl_add 69 (.istore 8) 2 71 := ⟨by decide +kernel, rfl⟩
theorem d_Dbl_add_71 : DC c_Dbl_add 71 (.lload 4) 2 73 := ⟨by decide +kernel, rfl⟩
theorem d_Dbl_add_73 : DC c_Dbl_add 73 (.invokestatic 35) 3 76 := ⟨by decide +kernel, rfl⟩
theorem d_Dbl_add_76 : DC c_Dbl_add 76 (.ldc2_w 17) 3 79 := ⟨by decide +kernel, rfl⟩
theorem d_Dbl_add_79 : DC c_Dbl_add 79 (.lcmp) 1 80 := ⟨by decide +kernel, rfl⟩
theorem d_Dbl_add_80 : DB c_Dbl_add 80 (.ifCond .ne 29) (29) 83 109 := ⟨by decide +kernel, rfl, rfl⟩
theorem d_Dbl_add_83 : DC c_Dbl_add 83 (.lload 6) 2 85 := ⟨by decide +kernel, rfl⟩
theorem d_Dbl_add_85 : DC c_Dbl_add 85 (.invokestatic 35) 3 88 := ⟨by decide +kernel, rfl⟩
theorem d_Dbl_add_88 : DC c_Dbl_add 88 (.ldc2_w 17) 3 91 := ⟨by decide +kernel, rfl⟩
theorem d_Dbl_add_91 : DC c_Dbl_add 91 (.lcmp) 1 92 := ⟨by decide +kernel, rfl⟩
theorem d_Dbl_add_92 : DB c_Dbl_add 92 (.ifCond .ne 14) (14) 95 106 := ⟨by decide +kernel, rfl, rfl⟩
theorem d_Dbl_add_95 : DC c_Dbl_add 95 (.iload 8) 2 97 := ⟨by decide +kernel, rfl⟩
theorem d_Dbl_add_97 : DB c_Dbl_add 97 (.ifCond .ne 9) (9) 100 106 := ⟨by decide +kernel, rfl, rfl⟩
theorem d_Dbl_add_100 : DC c_Dbl_add 100 (.ldc2_w 13) 3 103 := ⟨by decide +kernel, rfl⟩
theorem d_Dbl_add_103 : DB c_Dbl_add 103 (.goto 5) (5) 106 108 := ⟨by decide +kernel, rfl, rfl⟩
theorem d_Dbl_add_106 : DC c_Dbl_add 106 (.lload 4) 2 108 := ⟨by decide +kernel, rfl⟩
theorem d_Dbl_add_108 : DC c_Dbl_add 108 (.lreturn) 1 109 := ⟨by decide +kernel, rfl⟩
theorem d_Dbl_add_109 : DC c_Dbl_add 109 (.lload 4) 2 111 := ⟨by decide +kernel, rfl⟩
theorem d_Dbl_add_111 : DC c_Dbl_add 111 (.invokestatic 38) 3 114 := ⟨by decide +kernel, rfl⟩
theorem d_Dbl_add_114 : DC c_Dbl_add 114 (.istore 9) 2 116 := ⟨by decide +kernel, rfl⟩
theorem d_Dbl_add_116 : DC c_Dbl_add 116 (.lload 4) 2 118 := ⟨by decide +kernel, rfl⟩
theorem d_Dbl_add_118 : DC c_Dbl_add 118 (.invokestatic 42) 3 121 := ⟨by decide +kernel, rfl⟩
theorem d_Dbl_add_121 : DC c_Dbl_add 121 (.iconst 3) 1 122 := ⟨by decide +kernel, rfl⟩
theorem d_Dbl_add_122 : DC c_Dbl_add 122 (.lshl) 1 123 := ⟨by decide +kernel, rfl⟩
theorem d_Dbl_add_123 : DC c_Dbl_add 123 (.lstore 10) 2 125 := ⟨by decide +kernel, rfl⟩
theorem d_Dbl_add_125 : DC c_Dbl_add 125 (.lload 6) 2 127 := ⟨by decide +kernel, rfl⟩
theorem d_Dbl_add_127 : DC c_Dbl_add 127 (.invokestatic 42) 3 130 := ⟨by decide +kernel, rfl⟩
theorem d_Dbl_add_130 : DC c_Dbl_add 130 (.iconst 3) 1 131 := ⟨by decide +kernel, rfl⟩
theorem d_Dbl_add_131 : DC c_Dbl_add 131 (.lshl) 1 132 := ⟨by decide +kernel, rfl⟩
theorem d_Dbl_add_132 : DC c_Dbl_add 132 (.iload 9) 2 134 := ⟨by decide +kernel, rfl⟩
theorem d_Dbl_add_134 : DC c_Dbl_add 134 (.lload 6) 2 136 := ⟨by decide +kernel, rfl⟩
theorem d_Dbl_add_136 : DC c_Dbl_add 136 (.invokestatic 38) 3 139 := ⟨by decide +kernel, rfl⟩
theorem d_Dbl_add_139 : DC c_Dbl_add 139 (.isub) 1 140 := ⟨by decide +kernel, rfl⟩
theorem d_Dbl_add_140 : DC c_Dbl_add 140 (.invokestatic 45) 3 143 := ⟨by decide +kernel, rfl⟩
theorem d_Dbl_add_143 : DC c_Dbl_add 143 (.lstore 12) 2 145 := ⟨by decide +kernel, rfl⟩
theorem d_Dbl_add_145 : DC c_Dbl_add 145 (.lload 10) 2 147 := ⟨by decide +kernel, rfl⟩
theorem d_Dbl_add_147 : DC c_Dbl_add 147 (.lload 12) 2 149 := ⟨by decide +kernel, rfl⟩
theorem d_Dbl_add_149 : DC c_Dbl_add 149 (.lcmp) 1 150 := ⟨by decide +kernel, rfl⟩
theorem d_Dbl_add_150 : DB c_Dbl_add 150 (.ifCond .ne 10) (10) 153 160 := ⟨by decide +kernel, rfl, rfl⟩
theorem d_Dbl_add_153 : DC c_Dbl_add 153 (.iload 8) 2 155 := ⟨by decide +kernel, rfl⟩
theorem d_Dbl_add_155 : DB c_Dbl_add 155 (.ifCond .ne 5) (5) 158 160 := ⟨by decide +kernel, rfl, rfl⟩
theorem d_Dbl_add_158 : DC c_Dbl_add 158 (.lconst 0) 1 159 := ⟨by decide +kernel, rfl⟩
theorem d_Dbl_add_159 : DC c_Dbl_add 159 (.lreturn) 1 160 := ⟨by decide +kernel, rfl⟩
theorem d_Dbl_add_160 : DC c_Dbl_add 160 (.lload 4) 2 162 := ⟨by decide +kernel, rfl⟩
theorem d_Dbl_add_162 : DC c_Dbl_add 162 (.ldc2_w 19) 3 165 := ⟨by decide +kernel, rfl⟩
theorem d_Dbl_add_165 : DC c_Dbl_add 165 (.land) 1 166 := ⟨by decide +kernel, rfl⟩
theorem d_Dbl_add_166 : DC c_Dbl_add 166 (.iload 9) 2 168 := ⟨by decide +kernel, rfl⟩
theorem d_Dbl_add_168 : DC c_Dbl_add 168 (.iload 8) 2 170 := ⟨by decide +kernel, rfl⟩
theorem d_Dbl_add_170 : DB c_Dbl_add 170 (.ifCond .eq 11) (11) 173 181 := ⟨by decide +kernel, rfl, rfl⟩
theorem d_Dbl_add_173 : DC c_Dbl_add 173 (.lload 10) 2 175 := ⟨by decide +kernel, rfl⟩
theorem d_Dbl_add_175 : DC c_Dbl_add 175 (.lload 12) 2 177 := ⟨by decide +kernel, rfl⟩
theorem d_Dbl_add_177 : DC c_Dbl_add 177 (.ladd) 1 178 := ⟨by decide +kernel, rfl⟩
theorem d_Dbl_add_178 : DB c_Dbl_add 178 (.goto 8) (8) 181 186 := ⟨by decide +kernel, rfl, rfl⟩
theorem d_Dbl_add_181 : DC c_Dbl_add 181 (.lload 10) 2 183 := ⟨by decide +kernel, rfl⟩
theorem d_Dbl_add_183 : DC c_Dbl_add 183 (.lload 12) 2 185 := ⟨by decide +kernel, rfl⟩
theorem d_Dbl_add_185 : DC c_Dbl_add 185 (.lsub) 1 186 := ⟨by decide +kernel, rfl⟩
theorem d_Dbl_add_186 : DC c_Dbl_add 186 (.invokestatic 49) 3 189 := ⟨by decide +kernel, rfl⟩
theorem d_Dbl_add_189 : DC c_Dbl_add 189 (.lreturn) 1 190 := ⟨by decide +kernel, rfl⟩
theorem d_Dbl_multiply_0 : DC c_Dbl_multiply 0 (.lload_n 0) 1 1 := ⟨by decide +kernel, rfl⟩
theorem d_Dbl_multiply_1 : DC c_Dbl_multiply 1 (.lload_n 2) 1 2 := ⟨by decide +kernel, rfl⟩
theorem d_Dbl_multiply_2 : DC c_Dbl_multiply 2 (.lxor) 1 3 := ⟨by decide +kernel, rfl⟩
theorem d_Dbl_multiply_3 : DC c_Dbl_multiply 3 (.ldc2_w 19) 3 6 := ⟨by decide +kernel, rfl⟩
theorem d_Dbl_multiply_6 : DC c_Dbl_multiply 6 (.land) 1 7 := ⟨by decide +kernel, rfl⟩
theorem d_Dbl_multiply_7 : DC c_Dbl_multiply 7 (.lstore 4) 2 9 := ⟨by decide +kernel, rfl⟩
theorem d_Dbl_multiply_9 : DC c_Dbl_multiply 9 (.lload_n 0) 1 10 := ⟨by decide +kernel, rfl⟩
theorem d_Dbl_multiply_10 : DC c_Dbl_multiply 10 (.invokestatic 35) 3 13 := ⟨by decide +kernel, rfl⟩
theorem d_Dbl_multiply_13 : DC c_Dbl_multiply 13 (.lstore 6) 2 15 := ⟨by decide +kernel, rfl⟩
theorem d_Dbl_multiply_15 : DC c_Dbl_multiply 15 (.lload_n 2) 1 16 := ⟨by decide +kernel, rfl⟩
theorem d_Dbl_multiply_16 : DC c_Dbl_multiply 16 (.invokestatic 35) 3 19 := ⟨by decide +kernel, rfl⟩
theorem d_Dbl_multiply_19 : DC c_Dbl_multiply 19 (.lstore 8) 2 21 := ⟨by decide +kernel, rfl⟩
theorem d_Dbl_multiply_21 : DC c_Dbl_multiply 21 (.lload 6) 2 23 := ⟨by decide +kernel, rfl⟩
theorem d_Dbl_multiply_23 : DC c_Dbl_multiply 23 (.ldc2_w 17) 3 26 := ⟨by decide +kernel, rfl⟩
theorem d_Dbl_multiply_26 : DC c_Dbl_multiply 26 (.lcmp) 1 27 := ⟨by decide +kernel, rfl⟩
theorem d_Dbl_multiply_27 : DB c_Dbl_multiply 27 (.ifCond .gt 12) (12) 30 39 := ⟨by decide +kernel, rfl, rfl⟩
theorem d_Dbl_multiply_30 : DC c_Dbl_multiply 30 (.lload 8) 2 32 := ⟨by decide +kernel, rfl⟩
theorem d_Dbl_multiply_32 : DC c_Dbl_multiply 32 (.ldc2_w 17) 3 35 := ⟨by decide +kernel, rfl⟩
theorem d_Dbl_multiply_35 : DC c_Dbl_multiply 35 (.lcmp) 1 36 := ⟨by decide +kernel, rfl⟩
theorem d_Dbl_multiply_36 : DB c_Dbl_multiply 36 (.ifCond .le 7) (7) 39 43 := ⟨by decide +kernel, rfl, rfl⟩
theorem d_Dbl_multiply_39 : DC c_Dbl_multiply 39 (.ldc2_w 13) 3 42 := ⟨by decide +kernel, rfl⟩
theorem d_Dbl_multiply_42 : DC c_Dbl_multiply 42 (.lreturn) 1 43 := ⟨by decide +kernel, rfl⟩
theorem d_Dbl_multiply_43 : DC c_Dbl_multiply 43 (.lload 6) 2 45 := ⟨by decide +kernel, rfl⟩
theorem d_Dbl_multiply_45 : DC c_Dbl_multiply 45 (.ldc2_w 17) 3 48 := ⟨by decide +kernel, rfl⟩
theorem d_Dbl_multiply_48 : DC c_Dbl_multiply 48 (.lcmp) 1 49 := ⟨by decide +kernel, rfl⟩
theorem d_Dbl_multiply_49 : DB c_Dbl_multiply 49 (.ifCond .eq 12) (12) 52 61 := ⟨by decide +kernel, rfl, rfl⟩
theorem d_Dbl_multiply_52 : DC c_Dbl_multiply 52 (.lload 8) 2 54 := ⟨by decide +kernel, rfl⟩
theorem d_Dbl_multiply_54 : DC c_Dbl_multiply 54 (.ldc2_w 17) 3 57 := ⟨by decide +kernel, rfl⟩
theorem d_Dbl_multiply_57 : DC c_Dbl_multiply 57 (.lcmp) 1 58 := ⟨by decide +kernel, rfl⟩
theorem d_Dbl_multiply_58 : DB c_Dbl_multiply 58 (.ifCond .ne 30) (30) 61 88 := ⟨by decide +kernel, rfl, rfl⟩
theorem d_Dbl_multiply_61 : DC c_Dbl_multiply 61 (.lload 6) 2 63 := ⟨by decide +kernel, rfl⟩
theorem d_Dbl_multiply_63 : DC c_Dbl_multiply 63 (.lconst 0) 1 64 := ⟨by decide +kernel, rfl⟩
theorem d_Dbl_multiply_64 : DC c_Dbl_multiply 64 (.lcmp) 1 65 := ⟨by decide +kernel, rfl⟩
theorem d_Dbl_multiply_65 : DB c_Dbl_multiply 65 (.ifCond .eq 10) (10) 68 75 := ⟨by decide +kernel, rfl, rfl⟩
theorem d_Dbl_multiply_68 : DC c_Dbl_multiply 68 (.lload 8) 2 70 := ⟨by decide +kernel, rfl⟩
theorem d_Dbl_multiply_70 : DC c_Dbl_multiply 70 (.lconst 0) 1 71 := ⟨by decide +kernel, rfl⟩
theorem d_Dbl_multiply_71 : DC c_Dbl_multiply 71 (.lcmp) 1 72 := ⟨by decide +kernel, rfl⟩
theorem d_Dbl_multiply_72 : DB c_Dbl_multiply 72 (.ifCond .ne 9) (9) 75 81 := ⟨by decide +kernel, rfl, rfl⟩
theorem d_Dbl_multiply_75 : DC c_Dbl_multiply 75 (.ldc2_w 13) 3 78 := ⟨by decide +kernel, rfl⟩
theorem d_Dbl_multiply_78 : DB c_Dbl_multiply 78 (.goto 9) (9) 81 87 := ⟨by decide +kernel, rfl, rfl⟩
theorem d_Dbl_multiply_81 : DC c_Dbl_multiply 81 (.lload 4) 2 83 := ⟨by decide +kernel, rfl⟩
theorem d_Dbl_multiply_83 : DC c_Dbl_multiply 83 (.ldc2_w 17) 3 86 := ⟨by decide +kernel, rfl⟩
theorem d_Dbl_multiply_86 : DC c_Dbl_multiply 86 (.lor) 1 87 := ⟨by decide +kernel, rfl⟩
theorem d_Dbl_multiply_87 : DC c_Dbl_multiply 87 (.lreturn) 1 88 := ⟨by decide +kernel, rfl⟩
theorem d_Dbl_multiply_88 : DC c_Dbl_multiply 88 (.lload 6) 2 90 := ⟨by decide +kernel, rfl⟩
theorem d_Dbl_multiply_90 : DC c_Dbl_multiply 90 (.lconst 0) 1 91 := ⟨by decide +kernel, rfl⟩
theorem d_Dbl_multiply_91 : DC c_Dbl_multiply 91 (.lcmp) 1 92 := ⟨by decide +kernel, rfl⟩
theorem d_Dbl_multiply_92 : DB c_Dbl_multiply 92 (.ifCond .eq 10) (10) 95 102 := ⟨by decide +kernel, rfl, rfl⟩
theorem d_Dbl_multiply_95 : DC c_Dbl_multiply 95 (.lload 8) 2 97 := ⟨by decide +kernel, rfl⟩
theorem d_Dbl_multiply_97 : DC c_Dbl_multiply 97 (.lconst 0) 1 98 := ⟨by decide +kernel, rfl⟩
theorem d_Dbl_multiply_98 : DC c_Dbl_multiply 98 (.lcmp) 1 99 := ⟨by decide +kernel, rfl⟩
theorem d_Dbl_multiply_99 : DB c_Dbl_multiply 99 (.ifCond .ne 6) (6) 102 105 := ⟨by decide +kernel, rfl, rfl⟩
theorem d_Dbl_multiply_102 : DC c_Dbl_multiply 102 (.lload 4) 2 104 := ⟨by decide +kernel, rfl⟩
theorem d_Dbl_multiply_104 : DC c_Dbl_multiply 104 (.lreturn) 1 105 := ⟨by decide +kernel, rfl⟩
theorem d_Dbl_multiply_105 : DC c_Dbl_multiply 105 (.lload 6) 2 107 := ⟨by decide +kernel, rfl⟩
theorem d_Dbl_multiply_107 : DC c_Dbl_multiply 107 (.invokestatic 42) 3 110 := ⟨by decide +kernel, rfl⟩
theorem d_Dbl_multiply_110 : DC c_Dbl_multiply 110 (.invokestatic 53) 3 113 := ⟨by decide +kernel, rfl⟩
theorem d_Dbl_multiply_113 : DC c_Dbl_multiply 113 (.bipush 11) 2 115 := ⟨by decide +kernel, rfl⟩
theorem d_Dbl_multiply_115 : DC c_Dbl_multiply 115 (.isub) 1 116 := ⟨by decide +kernel, rfl⟩
theorem d_Dbl_multiply_116 : DC c_Dbl_multiply 116 (.istore 10) 2 118 := ⟨by decide +kernel, rfl⟩
theorem d_Dbl_multiply_118 : DC c_Dbl_multiply 118 (.lload 8) 2 120 := ⟨by decide +kernel, rfl⟩
theorem d_Dbl_multiply_120 : DC c_Dbl_multiply 120 (.invokestatic 42) 3 123 := ⟨by decide +kernel, rfl⟩
theorem d_Dbl_multiply_123 : DC c_Dbl_multiply 123 (.invokestatic 53) 3 126 := ⟨by decide +kernel, rfl⟩
theorem d_Dbl_multiply_126 : DC c_Dbl_multiply 126 (.bipush 11) 2 128 := ⟨by decide +kernel, rfl⟩
theorem d_Dbl_multiply_128 : DC c_Dbl_multiply 128 (.isub) 1 129 := ⟨by decide +kernel, rfl⟩
theorem d_Dbl_multiply_129 : DC c_Dbl_multiply 129 (.istore 11) 2 131 := ⟨by decide +kernel, rfl⟩
theorem d_Dbl_multiply_131 : DC c_Dbl_multiply 131 (.lload 6) 2 133 := ⟨by decide +kernel, rfl⟩
theorem d_Dbl_multiply_133 : DC c_Dbl_multiply 133 (.invokestatic 42) 3 136 := ⟨by decide +kernel, rfl⟩
theorem d_Dbl_multiply_136 : DC c_Dbl_multiply 136 (.iload 10) 2 138 := ⟨by decide +kernel, rfl⟩
theorem d_Dbl_multiply_138 : DC c_Dbl_multiply 138 (.lshl) 1 139 := ⟨by decide +kernel, rfl⟩
theorem d_Dbl_multiply_139 : DC c_Dbl_multiply 139 (.lload 8) 2 141 := ⟨by decide +kernel, rfl⟩
theorem d_Dbl_multiply_141 : DC c_Dbl_multiply 141 (.invokestatic 42) 3 144 := ⟨by decide +kernel, rfl⟩
theorem d_Dbl_multiply_144 : DC c_Dbl_multiply 144 (.iload 11) 2 146 := ⟨by decide +kernel, rfl⟩
theorem d_Dbl_multiply_146 : DC c_Dbl_multiply 146 (.lshl) 1 147 := ⟨by decide +kernel, rfl⟩
theorem d_Dbl_multiply_147 : DC c_Dbl_multiply 147 (.invokestatic 56) 3 150 := ⟨by decide +kernel, rfl⟩
theorem d_Dbl_multiply_150 : DC c_Dbl_multiply 150 (.lstore 12) 2 152 := ⟨by decide +kernel, rfl⟩
theorem d_Dbl_multiply_152 : DC c_Dbl_multiply 152 (.lload 4) 2 154 := ⟨by decide +kernel, rfl⟩
theorem d_Dbl_multiply_154 : DC c_Dbl_multiply 154 (.lload 6) 2 156 := ⟨by decide +kernel, rfl⟩
theorem d_Dbl_multiply_156 : DC c_Dbl_multiply 156 (.invokestatic 38) 3 159 := ⟨by decide +kernel, rfl⟩
theorem d_Dbl_multiply_159 : DC c_Dbl_multiply 159 (.iload 10) 2 161 := ⟨by decide +kernel, rfl⟩
theorem d_Dbl_multiply_161 : DC c_Dbl_multiply 161 (.isub) 1 162 := ⟨by decide +kernel, rfl⟩
theorem d_Dbl_multiply_162 : DC c_Dbl_multiply 162 (.lload 8) 2 164 := ⟨by decide +kernel, rfl⟩
theorem d_Dbl_multiply_164 : DC c_Dbl_multiply 164 (.invokestatic 38) 3 167 := ⟨by decide +kernel, rfl⟩
theorem d_Dbl_multiply_167 : DC c_Dbl_multiply 167 (.iadd) 1 168 := ⟨by decide +kernel, rfl⟩
theorem d_Dbl_multiply_168 : DC c_Dbl_multiply 168 (.iload 11) 2 170 := ⟨by decide +kernel, rfl⟩
theorem d_Dbl_multiply_170 : DC c_Dbl_multiply 170 (.isub) 1 171 := ⟨by decide +kernel, rfl⟩
theorem d_Dbl_multiply_171 : DC c_Dbl_multiply 171 (.sipush 1075) 3 174 := ⟨by decide +kernel, rfl⟩
theorem d_Dbl_multiply_174 : DC c_Dbl_multiply 174 (.isub) 1 175 := ⟨by decide +kernel, rfl⟩
theorem d_Dbl_multiply_175 : DC c_Dbl_multiply 175 (.bipush 49) 2 177 := ⟨by decide +kernel, rfl⟩
theorem d_Dbl_multiply_177 : DC c_Dbl_multiply 177 (.iadd) 1 178 := ⟨by decide +kernel, rfl⟩
theorem d_Dbl_multiply_178 : DC c_Dbl_multiply 178 (.iconst 3) 1 179 := ⟨by decide +kernel, rfl⟩
theorem d_Dbl_multiply_179 : DC c_Dbl_multiply 179 (.iadd) 1 180 := ⟨by decide +kernel, rfl⟩
theorem d_Dbl_multiply_180 : DC c_Dbl_multiply 180 (.lload 12) 2 182 := ⟨by decide +kernel, rfl⟩
theorem d_Dbl_multiply_182 : DC c_Dbl_multiply 182 (.invokestatic 49) 3 185 := ⟨by decide +kernel, rfl⟩
theorem d_Dbl_multiply_185 : DC c_Dbl_multiply 185 (.lreturn) 1 186 := ⟨by decide +kernel, rfl⟩
theorem d_Dbl_productAbove49_0 : DC c_Dbl_productAbove49 0 (.ldc2_w 60) 3 3 := ⟨by decide +kernel, rfl⟩
theorem d_Dbl_productAbove49_3 : DC c_Dbl_productAbove49 3 (.lstore 4) 2 5 := ⟨by decide +kernel, rfl⟩
theorem d_Dbl_productAbove49_5 : DC c_Dbl_productAbove49 5 (.lload_n 0) 1 6 := ⟨by decide +kernel, rfl⟩
theorem d_Dbl_productAbove49_6 : DC c_Dbl_productAbove49 6 (.bipush 26) 2 8 := ⟨by decide +kernel, rfl⟩
theorem d_Dbl_productAbove49_8 : DC c_Dbl_productAbove49 8 (.lushr) 1 9 := ⟨by decide +kernel, rfl⟩
theorem d_Dbl_productAbove49_9 : DC c_Dbl_productAbove49 9 (.lload_n 2) 1 10 := ⟨by decide +kernel, rfl⟩
theorem d_Dbl_productAbove49_10 : DC c_Dbl_productAbove49 10 (.lload 4) 2 12 := ⟨by decide +kernel, rfl⟩
theorem d_Dbl_productAbove49_12 : DC c_Dbl_productAbove49 12 (.land) 1 13 := ⟨by decide +kernel, rfl⟩
theorem d_Dbl_productAbove49_13 : DC c_Dbl_productAbove49 13 (.lmul) 1 14 := ⟨by decide +kernel, rfl⟩
theorem d_Dbl_productAbove49_14 : DC c_Dbl_productAbove49 14 (.lload_n 0) 1 15 := ⟨by decide +kernel, rfl⟩
theorem d_Dbl_productAbove49_15 : DC c_Dbl_productAbove49 15 (.lload 4) 2 17 := ⟨by decide +kernel, rfl⟩
theorem d_Dbl_productAbove49_17 : DC c_Dbl_productAbove49 17 (.land) 1 18 := ⟨by decide +kernel, rfl⟩
theorem d_Dbl_productAbove49_18 : DC c_Dbl_productAbove49 18 (.lload_n 2) 1 19 := ⟨by decide +kernel, rfl⟩
theorem d_Dbl_productAbove49_19 : DC c_Dbl_productAbove49 19 (.bipush 26) 2 21 := ⟨by decide +kernel, rfl⟩
theorem d_Dbl_productAbove49_21 : DC c_Dbl_productAbove49 21 (.lushr) 1 22 := ⟨by decide +kernel, rfl⟩
theorem d_Dbl_productAbove49_22 : DC c_Dbl_productAbove49 22 (.lmul) 1 23 := ⟨by decide +kernel, rfl⟩
theorem d_Dbl_productAbove49_23 : DC c_Dbl_productAbove49 23 (.ladd) 1 24 := ⟨by decide +kernel, rfl⟩
theorem d_Dbl_productAbove49_24 : DC c_Dbl_productAbove49 24 (.lstore 6) 2 26 := ⟨by decide +kernel, rfl⟩
theorem d_Dbl_productAbove49_26 : DC c_Dbl_productAbove49 26 (.lload_n 0) 1 27 := ⟨by decide +kernel, rfl⟩
theorem d_Dbl_productAbove49_27 : DC c_Dbl_productAbove49 27 (.lload 4) 2 29 := ⟨by decide +kernel, rfl⟩
theorem d_Dbl_productAbove49_29 : DC c_Dbl_productAbove49 29 (.land) 1 30 := ⟨by decide +kernel, rfl⟩
theorem d_Dbl_productAbove49_30 : DC c_Dbl_productAbove49 30 (.lload_n 2) 1 31 := ⟨by decide +kernel, rfl⟩
theorem d_Dbl_productAbove49_31 : DC c_Dbl_productAbove49 31 (.lload 4) 2 33 := ⟨by decide +kernel, rfl⟩
theorem d_Dbl_productAbove49_33 : DC c_Dbl_productAbove49 33 (.land) 1 34 := ⟨by decide +kernel, rfl⟩
theorem d_Dbl_productAbove49_34 : DC c_Dbl_productAbove49 34 (.lmul) 1 35 := ⟨by decide +kernel, rfl⟩
theorem d_Dbl_productAbove49_35 : DC c_Dbl_productAbove49 35 (.lload 6) 2 37 := ⟨by decide +kernel, rfl⟩
theorem d_Dbl_productAbove49_37 : DC c_Dbl_productAbove49 37 (.lload 4) 2 39 := ⟨by decide +kernel, rfl⟩
theorem d_Dbl_productAbove49_39 : DC c_Dbl_productAbove49 39 (.land) 1 40 := ⟨by decide +kernel, rfl⟩
theorem d_Dbl_productAbove49_40 : DC c_Dbl_productAbove49 40 (.bipush 26) 2 42 := ⟨by decide +kernel, rfl⟩
theorem d_Dbl_productAbove49_42 : DC c_Dbl_productAbove49 42 (.lshl) 1 43 := ⟨by decide +kernel, rfl⟩
theorem d_Dbl_productAbove49_43 : DC c_Dbl_productAbove49 43 (.ladd) 1 44 := ⟨by decide +kernel, rfl⟩
theorem d_Dbl_productAbove49_44 : DC c_Dbl_productAbove49 44 (.lstore 8) 2 46 := ⟨by decide +kernel, rfl⟩
theorem d_Dbl_productAbove49_46 : DC c_Dbl_productAbove49 46 (.lload_n 0) 1 47 := ⟨by decide +kernel, rfl⟩
theorem d_Dbl_productAbove49_47 : DC c_Dbl_productAbove49 47 (.bipush 26) 2 49 := ⟨by decide +kernel, rfl⟩
theorem d_Dbl_productAbove49_49 : DC c_Dbl_productAbove49 49 (.lushr) 1 50 := ⟨by decide +kernel, rfl⟩
theorem d_Dbl_productAbove49_50 : DC c_Dbl_productAbove49 50 (.lload_n 2) 1 51 := ⟨by decide +kernel, rfl⟩
theorem d_Dbl_productAbove49_51 : DC c_Dbl_productAbove49 51 (.bipush 26) 2 53 := ⟨by decide +kernel, rfl⟩
theorem d_Dbl_productAbove49_53 : DC c_Dbl_productAbove49 53 (.lushr) 1 54 := ⟨by decide +kernel, rfl⟩
theorem d_Dbl_productAbove49_54 : DC c_Dbl_productAbove49 54 (.lmul) 1 55 := ⟨by decide +kernel, rfl⟩
theorem d_Dbl_productAbove49_55 : DC c_Dbl_productAbove49 55 (.lload 6) 2 57 := ⟨by decide +kernel, rfl⟩
theorem d_Dbl_productAbove49_57 : DC c_Dbl_productAbove49 57 (.bipush 26) 2 59 := ⟨by decide +kernel, rfl⟩
theorem d_Dbl_productAbove49_59 : DC c_Dbl_productAbove49 59 (.lushr) 1 60 := ⟨by decide +kernel, rfl⟩
theorem d_Dbl_productAbove49_60 : DC c_Dbl_productAbove49 60 (.ladd) 1 61 := ⟨by decide +kernel, rfl⟩
theorem d_Dbl_productAbove49_61 : DC c_Dbl_productAbove49 61 (.lload 8) 2 63 := ⟨by decide +kernel, rfl⟩
theorem d_Dbl_productAbove49_63 : DC c_Dbl_productAbove49 63 (.bipush 52) 2 65 := ⟨by decide +kernel, rfl⟩
theorem d_Dbl_productAbove49_65 : DC c_Dbl_productAbove49 65 (.lushr) 1 66 := ⟨by decide +kernel, rfl⟩
theorem d_Dbl_productAbove49_66 : DC c_Dbl_productAbove49 66 (.ladd) 1 67 := ⟨by decide +kernel, rfl⟩
theorem d_Dbl_productAbove49_67 : DC c_Dbl_productAbove49 67 (.lstore 10) 2 69 := ⟨by decide +kernel, rfl⟩
theorem d_Dbl_productAbove49_69 : DC c_Dbl_productAbove49 69 (.lload 10) 2 71 := ⟨by decide +kernel, rfl⟩
theorem d_Dbl_productAbove49_71 : DC c_Dbl_productAbove49 71 (.iconst 3) 1 72 := ⟨by decide +kernel, rfl⟩
theorem d_Dbl_productAbove49_72 : DC c_Dbl_productAbove49 72 (.lshl) 1 73 := ⟨by decide +kernel, rfl⟩
theorem d_Dbl_productAbove49_73 : DC c_Dbl_productAbove49 73 (.lload 8) 2 75 := ⟨by decide +kernel, rfl⟩
theorem d_Dbl_productAbove49_75 : DC c_Dbl_productAbove49 75 (.ldc2_w 31) 3 78 := ⟨by decide +kernel, rfl⟩
theorem d_Dbl_productAbove49_78 : DC c_Dbl_productAbove49 78 (.land) 1 79 := ⟨by decide +kernel, rfl⟩
theorem d_Dbl_productAbove49_79 : DC c_Dbl_productAbove49 79 (.bipush 49) 2 81 := ⟨by decide +kernel, rfl⟩
theorem d_Dbl_productAbove49_81 : DC c_Dbl_productAbove49 81 (.invokestatic 45) 3 84 := ⟨by decide +kernel, rfl⟩
theorem d_Dbl_productAbove49_84 : DC c_Dbl_productAbove49 84 (.lor) 1 85 := ⟨by decide +kernel, rfl⟩
theorem d_Dbl_productAbove49_85 : DC c_Dbl_productAbove49 85 (.lreturn) 1 86 := ⟨by decide +kernel, rfl⟩
theorem d_Dbl_divide_0 : DC c_Dbl_divide 0 (.lload_n 0) 1 1 := ⟨by decide +kernel, rfl⟩
theorem d_Dbl_divide_1 : DC c_Dbl_divide 1 (.lload_n 2) 1 2 := ⟨by decide +kernel, rfl⟩
theorem d_Dbl_divide_2 : DC c_Dbl_divide 2 (.lxor) 1 3 := ⟨by decide +kernel, rfl⟩
theorem d_Dbl_divide_3 : DC c_Dbl_divide 3 (.ldc2_w 19) 3 6 := ⟨by decide +kernel, rfl⟩
theorem d_Dbl_divide_6 : DC c_Dbl_divide 6 (.land) 1 7 := ⟨by decide +kernel, rfl⟩
theorem d_Dbl_divide_7 : DC c_Dbl_divide 7 (.lstore 4) 2 9 := ⟨by decide +kernel, rfl⟩
theorem d_Dbl_divide_9 : DC c_Dbl_divide 9 (.lload_n 0) 1 10 := ⟨by decide +kernel, rfl⟩
theorem d_Dbl_divide_10 : DC c_Dbl_divide 10 (.invokestatic 35) 3 13 := ⟨by decide +kernel, rfl⟩
theorem d_Dbl_divide_13 : DC c_Dbl_divide 13 (.lstore 6) 2 15 := ⟨by decide +kernel, rfl⟩
theorem d_Dbl_divide_15 : DC c_Dbl_divide 15 (.lload_n 2) 1 16 := ⟨by decide +kernel, rfl⟩
theorem d_Dbl_divide_16 : DC c_Dbl_divide 16 (.invokestatic 35) 3 19 := ⟨by decide +kernel, rfl⟩
theorem d_Dbl_divide_19 : DC c_Dbl_divide 19 (.lstore 8) 2 21 := ⟨by decide +kernel, rfl⟩
theorem d_Dbl_divide_21 : DC c_Dbl_divide 21 (.lload 6) 2 23 := ⟨by decide +kernel, rfl⟩
theorem d_Dbl_divide_23 : DC c_Dbl_divide 23 (.ldc2_w 17) 3 26 := ⟨by decide +kernel, rfl⟩
theorem d_Dbl_divide_26 : DC c_Dbl_divide 26 (.lcmp) 1 27 := ⟨by decide +kernel, rfl⟩
theorem d_Dbl_divide_27 : DB c_Dbl_divide 27 (.ifCond .gt 44) (44) 30 71 := ⟨by decide +kernel, rfl, rfl⟩
theorem d_Dbl_divide_30 : DC c_Dbl_divide 30 (.lload 8) 2 32 := ⟨by decide +kernel, rfl⟩
theorem d_Dbl_divide_32 : DC c_Dbl_divide 32 (.ldc2_w 17) 3 35 := ⟨by decide +kernel, rfl⟩
theorem d_Dbl_divide_35 : DC c_Dbl_divide 35 (.lcmp) 1 36 := ⟨by decide +kernel, rfl⟩
theorem d_Dbl_divide_36 : DB c_Dbl_divide 36 (.ifCond .gt 35) (35) 39 71 := ⟨by decide +kernel, rfl, rfl⟩
theorem d_Dbl_divide_39 : DC c_Dbl_divide 39 (.lload 6) 2 41 := ⟨by decide +kernel, rfl⟩
theorem d_Dbl_divide_41 : DC c_Dbl_divide 41 (.ldc2_w 17) 3 44 := ⟨by decide +kernel, rfl⟩
theorem d_Dbl_divide_44 : DC c_Dbl_divide 44 (.lcmp) 1 45 := ⟨by decide +kernel, rfl⟩
theorem d_Dbl_divide_45 : DB c_Dbl_divide 45 (.ifCond .ne 12) (12) 48 57 := ⟨by decide +kernel, rfl, rfl⟩
theorem d_Dbl_divide_48 : DC c_Dbl_divide 48 (.lload 8) 2 50 := ⟨by decide +kernel, rfl⟩
theorem d_Dbl_divide_50 : DC c_Dbl_divide 50 (.ldc2_w 17) 3 53 := ⟨by decide +kernel, rfl⟩
theorem d_Dbl_divide_53 : DC c_Dbl_divide 53 (.lcmp) 1 54 := ⟨by decide +kernel, rfl⟩
theorem d_Dbl_divide_54 : DB c_Dbl_divide 54 (.ifCond .eq 17) (17) 57 71 := ⟨by decide +kernel, rfl, rfl⟩
theorem d_Dbl_divide_57 : DC c_Dbl_divide 57 (.lload 6) 2 59 := ⟨by decide +kernel, rfl⟩
theorem d_Dbl_divide_59 : DC c_Dbl_divide 59 (.lconst 0) 1 60 := ⟨by decide +kernel, rfl⟩
theorem d_Dbl_divide_60 : DC c_Dbl_divide 60 (.lcmp) 1 61 := ⟨by decide +kernel, rfl⟩
theorem d_Dbl_divide_61 : DB c_Dbl_divide 61 (.ifCond .ne 14) (14) 64 75 := ⟨by decide +kernel, rfl, rfl⟩
theorem d_Dbl_divide_64 : DC c_Dbl_divide 64 (.lload 8) 2 66 := ⟨by decide +kernel, rfl⟩
theorem d_Dbl_divide_66 : DC c_Dbl_divide 66 (.lconst 0) 1 67 := ⟨by decide +kernel, rfl⟩
theorem d_Dbl_divide_67 : DC c_Dbl_divide 67 (.lcmp) 1 68 := ⟨by decide +kernel, rfl⟩
theorem d_Dbl_divide_68 : DB c_Dbl_divide 68 (.ifCond .ne 7) (7) 71 75 := ⟨by decide +kernel, rfl, rfl⟩
theorem d_Dbl_divide_71 : DC c_Dbl_divide 71 (.ldc2_w 13) 3 74 := ⟨by decide +kernel, rfl⟩
theorem d_Dbl_divide_74 : DC c_Dbl_divide 74 (.lreturn) 1 75 := ⟨by decide +kernel, rfl⟩
theorem d_Dbl_divide_75 : DC c_Dbl_divide 75 (.lload 6) 2 77 := ⟨by decide +kernel, rfl⟩
theorem d_Dbl_divide_77 : DC c_Dbl_divide 77 (.ldc2_w 17) 3 80 := ⟨by decide +kernel, rfl⟩
theorem d_Dbl_divide_80 : DC c_Dbl_divide 80 (.lcmp) 1 81 := ⟨by decide +kernel, rfl⟩
theorem d_Dbl_divide_81 : DB c_Dbl_divide 81 (.ifCond .eq 10) (10) 84 91 := ⟨by decide +kernel, rfl, rfl⟩
theorem d_Dbl_divide_84 : DC c_Dbl_divide 84 (.lload 8) 2 86 := ⟨by decide +kernel, rfl⟩
theorem d_Dbl_divide_86 : DC c_Dbl_divide 86 (.lconst 0) 1 87 := ⟨by decide +kernel, rfl⟩
theorem d_Dbl_divide_87 : DC c_Dbl_divide 87 (.lcmp) 1 88 := ⟨by decide +kernel, rfl⟩
theorem d_Dbl_divide_88 : DB c_Dbl_divide 88 (.ifCond .ne 10) (10) 91 98 := ⟨by decide +kernel, rfl, rfl⟩
theorem d_Dbl_divide_91 : DC c_Dbl_divide 91 (.lload 4) 2 93 := ⟨by decide +kernel, rfl⟩
theorem d_Dbl_divide_93 : DC c_Dbl_divide 93 (.ldc2_w 17) 3 96 := ⟨by decide +kernel, rfl⟩
theorem d_Dbl_divide_96 : DC c_Dbl_divide 96 (.lor) 1 97 := ⟨by decide +kernel, rfl⟩
theorem d_Dbl_divide_97 : DC c_Dbl_divide 97 (.lreturn) 1 98 := ⟨by decide +kernel, rfl⟩
theorem d_Dbl_divide_98 : DC c_Dbl_divide 98 (.lload 6) 2 100 := ⟨by decide +kernel, rfl⟩
theorem d_Dbl_divide_100 : DC c_Dbl_divide 100 (.lconst 0) 1 101 := ⟨by decide +kernel, rfl⟩
theorem d_Dbl_divide_101 : DC c_Dbl_divide 101 (.lcmp) 1 102 := ⟨by decide +kernel, rfl⟩
theorem d_Dbl_divide_102 : DB c_Dbl_divide 102 (.ifCond .eq 12) (12) 105 114 := ⟨by decide +kernel, rfl, rfl⟩
theorem d_Dbl_divide_105 : DC c_Dbl_divide 105 (.lload 8) 2 107 := ⟨by decide +kernel, rfl⟩
theorem d_Dbl_divide_107 : DC c_Dbl_divide 107 (.ldc2_w 17) 3 110 := ⟨by decide +kernel, rfl⟩
theorem d_Dbl_divide_110 : DC c_Dbl_divide 110 (.lcmp) 1 111 := ⟨by decide +kernel, rfl⟩
theorem d_Dbl_divide_111 : DB c_Dbl_divide 111 (.ifCond .ne 6) (6) 114 117 := ⟨by decide +kernel, rfl, rfl⟩
theorem d_Dbl_divide_114 : DC c_Dbl_divide 114 (.lload 4) 2 116 := ⟨by decide +kernel, rfl⟩
theorem d_Dbl_divide_116 : DC c_Dbl_divide 116 (.lreturn) 1 117 := ⟨by decide +kernel, rfl⟩
theorem d_Dbl_divide_117 : DC c_Dbl_divide 117 (.lload 6) 2 119 := ⟨by decide +kernel, rfl⟩
theorem d_Dbl_divide_119 : DC c_Dbl_divide 119 (.invokestatic 42) 3 122 := ⟨by decide +kernel, rfl⟩
theorem d_Dbl_divide_122 : DC c_Dbl_divide 122 (.invokestatic 53) 3 125 := ⟨by decide +kernel, rfl⟩
theorem d_Dbl_divide_125 : DC c_Dbl_divide 125 (.bipush 11) 2 127 := ⟨by decide +kernel, rfl⟩
theorem d_Dbl_divide_127 : DC c_Dbl_divide 127 (.isub) 1 128 := ⟨by decide +kernel, rfl⟩
theorem d_Dbl_divide_128 : DC c_Dbl_divide 128 (.istore 10) 2 130 := ⟨by decide +kernel, rfl⟩
theorem d_Dbl_divide_130 : DC c_Dbl_divide 130 (.lload 8) 2 132 := ⟨by decide +kernel, rfl⟩
theorem d_Dbl_divide_132 : DC c_Dbl_divide 132 (.invokestatic 42) 3 135 := ⟨by decide +kernel, rfl⟩
theorem d_Dbl_divide_135 : DC c_Dbl_divide 135 (.invokestatic 53) 3 138 := ⟨by decide +kernel, rfl⟩
theorem d_Dbl_divide_138 : DC c_Dbl_divide 138 (.bipush 11) 2 140 := ⟨by decide +kernel, rfl⟩
theorem d_Dbl_divide_140 : DC c_Dbl_divide 140 (.isub) 1 141 := ⟨by decide +kernel, rfl⟩
theorem d_Dbl_divide_141 : DC c_Dbl_divide 141 (.istore 11) 2 143 := ⟨by decide +kernel, rfl⟩
theorem d_Dbl_divide_143 : DC c_Dbl_divide 143 (.lload 6) 2 145 := ⟨by decide +kernel, rfl⟩
theorem d_Dbl_divide_145 : DC c_Dbl_divide 145 (.invokestatic 42) 3 148 := ⟨by decide +kernel, rfl⟩
theorem d_Dbl_divide_148 : DC c_Dbl_divide 148 (.iload 10) 2 150 := ⟨by decide +kernel, rfl⟩
theorem d_Dbl_divide_150 : DC c_Dbl_divide 150 (.lshl) 1 151 := ⟨by decide +kernel, rfl⟩
theorem d_Dbl_divide_151 : DC c_Dbl_divide 151 (.lload 8) 2 153 := ⟨by decide +kernel, rfl⟩
theorem d_Dbl_divide_153 : DC c_Dbl_divide 153 (.invokestatic 42) 3 156 := ⟨by decide +kernel, rfl⟩
theorem d_Dbl_divide_156 : DC c_Dbl_divide 156 (.iload 11) 2 158 := ⟨by decide +kernel, rfl⟩
theorem d_Dbl_divide_158 : DC c_Dbl_divide 158 (.lshl) 1 159 := ⟨by decide +kernel, rfl⟩
theorem d_Dbl_divide_159 : DC c_Dbl_divide 159 (.invokestatic 62) 3 162 := ⟨by decide +kernel, rfl⟩
theorem d_Dbl_divide_162 : DC c_Dbl_divide 162 (.lstore 12) 2 164 := ⟨by decide +kernel, rfl⟩
theorem d_Dbl_divide_164 : DC c_Dbl_divide 164 (.lload 4) 2 166 := ⟨by decide +kernel, rfl⟩
theorem d_Dbl_divide_166 : DC c_Dbl_divide 166 (.lload 6) 2 168 := ⟨by decide +kernel, rfl⟩
theorem d_Dbl_divide_168 : DC c_Dbl_divide 168 (.invokestatic 38) 3 171 := ⟨by decide +kernel, rfl⟩
theorem d_Dbl_divide_171 : DC c_Dbl_divide 171 (.iload 10) 2 173 := ⟨by decide +kernel, rfl⟩
theorem d_Dbl_divide_173 : DC c_Dbl_divide 173 (.isub) 1 174 := ⟨by decide +kernel, rfl⟩
theorem d_Dbl_divide_174 : DC c_Dbl_divide 174 (.lload 8) 2 176 := ⟨by decide +kernel, rfl⟩
theorem d_Dbl_divide_176 : DC c_Dbl_divide 176 (.invokestatic 38) 3 179 := ⟨by decide +kernel, rfl⟩
theorem d_Dbl_divide_179 : DC c_Dbl_divide 179 (.isub) 1 180 := ⟨by decide +kernel, rfl⟩
theorem d_Dbl_divide_180 : DC c_Dbl_divide 180 (.iload 11) 2 182 := ⟨by decide +kernel, rfl⟩
theorem d_Dbl_divide_182 : DC c_Dbl_divide 182 (.iadd) 1 183 := ⟨by decide +kernel, rfl⟩
theorem d_Dbl_divide_183 : DC c_Dbl_divide 183 (.sipush 1075) 3 186 := ⟨by decide +kernel, rfl⟩
theorem d_Dbl_divide_186 : DC c_Dbl_divide 186 (.iadd) 1 187 := ⟨by decide +kernel, rfl⟩
theorem d_Dbl_divide_187 : DC c_Dbl_divide 187 (.bipush 60) 2 189 := ⟨by decide +kernel, rfl⟩
theorem d_Dbl_divide_189 : DC c_Dbl_divide 189 (.isub) 1 190 := ⟨by decide +kernel, rfl⟩
theorem d_Dbl_divide_190 : DC c_Dbl_divide 190 (.iconst 3) 1 191 := ⟨by decide +kernel, rfl⟩
theorem d_Dbl_divide_191 : DC c_Dbl_divide 191 (.iadd) 1 192 := ⟨by decide +kernel, rfl⟩
theorem d_Dbl_divide_192 : DC c_Dbl_divide 192 (.lload 12) 2 194 := ⟨by decide +kernel, rfl⟩
theorem d_Dbl_divide_194 : DC c_Dbl_divide 194 (.invokestatic 49) 3 197 := ⟨by decide +kernel, rfl⟩
theorem d_Dbl_divide_197 : DC c_Dbl_divide 197 (.lreturn) 1 198 := ⟨by decide +kernel, rfl⟩
theorem d_Dbl_quotientWith60_0 : DC c_Dbl_quotientWith60 0 (.lload_n 2) 1 1 := ⟨by decide +kernel, rfl⟩
theorem d_Dbl_quotientWith60_1 : DC c_Dbl_quotientWith60 1 (.lconst 0) 1 2 := ⟨by decide +kernel, rfl⟩
theorem d_Dbl_quotientWith60_2 : DC c_Dbl_quotientWith60 2 (.lcmp) 1 3 := ⟨by decide +kernel, rfl⟩
theorem d_Dbl_quotientWith60_3 : DB c_Dbl_quotientWith60 3 (.ifCond .ne 5) (5) 6 8 := ⟨by decide +kernel, rfl, rfl⟩
theorem d_Dbl_quotientWith60_6 : DC c_Dbl_quotientWith60 6 (.lconst 0) 1 7 := ⟨by decide +kernel, rfl⟩
theorem d_Dbl_quotientWith60_7 : DC c_Dbl_quotientWith60 7 (.lreturn) 1 8 := ⟨by decide +kernel, rfl⟩
theorem d_Dbl_quotientWith60_8 : DC c_Dbl_quotientWith60 8 (.lload_n 0) 1 9 := ⟨by decide +kernel, rfl⟩
theorem d_Dbl_quotientWith60_9 : DC c_Dbl_quotientWith60 9 (.lload_n 2) 1 10 := ⟨by decide +kernel, rfl⟩
theorem d_Dbl_quotientWith60_10 : DC c_Dbl_quotientWith60 10 (.ldiv) 1 11 := ⟨by decide +kernel, rfl⟩
theorem d_Dbl_quotientWith60_11 : DC c_Dbl_quotientWith60 11 (.lstore 4) 2 13 := ⟨by decide +kernel, rfl⟩
theorem d_Dbl_quotientWith60_13 : DC c_Dbl_quotientWith60 13 (.lload_n 0) 1 14 := ⟨by decide +kernel, rfl⟩
theorem d_Dbl_quotientWith60_14 : DC c_Dbl_quotientWith60 14 (.lload_n 2) 1 15 := ⟨by decide +kernel, rfl⟩
theorem d_Dbl_quotientWith60_15 : DC c_Dbl_quotientWith60 15 (.lrem) 1 16 := ⟨by decide +kernel, rfl⟩
theorem d_Dbl_quotientWith60_16 : DC c_Dbl_quotientWith60 16 (.lstore 6) 2 18 := ⟨by decide +kernel, rfl⟩
theorem d_Dbl_quotientWith60_18 : DC c_Dbl_quotientWith60 18 (.iconst 0) 1 19 := ⟨by decide +kernel, rfl⟩
theorem d_Dbl_quotientWith60_19 : DC c_Dbl_quotientWith60 19 (.istore 8) 2 21 := ⟨by decide +kernel, rfl⟩
theorem d_Dbl_quotientWith60_21 : DC c_Dbl_quotientWith60 21 (.iload 8) 2 23 := ⟨by decide +kernel, rfl⟩
theorem d_Dbl_quotientWith60_23 : DC c_Dbl_quotientWith60 23 (.bipush 6) 2 25 := ⟨by decide +kernel, rfl⟩
theorem d_Dbl_quotientWith60_25 : DB c_Dbl_quotientWith60 25 (.if_icmp .ge 33) (33) 28 58 := ⟨by decide +kernel, rfl, rfl⟩
theorem d_Dbl_quotientWith60_28 : DC c_Dbl_quotientWith60 28 (.lload 4) 2 30 := ⟨by decide +kernel, rfl⟩
theorem d_Dbl_quotientWith60_30 : DC c_Dbl_quotientWith60 30 (.bipush 10) 2 32 := ⟨by decide +kernel, rfl⟩
theorem d_Dbl_quotientWith60_32 : DC c_Dbl_quotientWith60 32 (.lshl) 1 33 := ⟨by decide +kernel, rfl⟩
theorem d_Dbl_quotientWith60_33 : DC c_Dbl_quotientWith60 33 (.lload 6) 2 35 := ⟨by decide +kernel, rfl⟩
theorem d_Dbl_quotientWith60_35 : DC c_Dbl_quotientWith60 35 (.bipush 10) 2 37 := ⟨by decide +kernel, rfl⟩
theorem d_Dbl_quotientWith60_37 : DC c_Dbl_quotientWith60 37 (.lshl) 1 38 := ⟨by decide +kernel, rfl⟩
theorem d_Dbl_quotientWith60_38 : DC c_Dbl_quotientWith60 38 (.lload_n 2) 1 39 := ⟨by decide +kernel, rfl⟩
theorem d_Dbl_quotientWith60_39 : DC c_Dbl_quotientWith60 39 (.ldiv) 1 40 := ⟨by decide +kernel, rfl⟩
theorem d_Dbl_quotientWith60_40 : DC c_Dbl_quotientWith60 40 (.lor) 1 41 := ⟨by decide +kernel, rfl⟩
theorem d_Dbl_quotientWith60_41 : DC c_Dbl_quotientWith60 41 (.lstore 4) 2 43 := ⟨by decide +kernel, rfl⟩
theorem d_Dbl_quotientWith60_43 : DC c_Dbl_quotientWith60 43 (.lload 6) 2 45 := ⟨by decide +kernel, rfl⟩
theorem d_Dbl_quotientWith60_45 : DC c_Dbl_quotientWith60 45 (.bipush 10) 2 47 := ⟨by decide +kernel, rfl⟩
theorem d_Dbl_quotientWith60_47 : DC c_Dbl_quotientWith60 47 (.lshl) 1 48 := ⟨by decide +kernel, rfl⟩
theorem d_Dbl_quotientWith60_48 : DC c_Dbl_quotientWith60 48 (.lload_n 2) 1 49 := ⟨by decide +kernel, rfl⟩
theorem d_Dbl_quotientWith60_49 : DC c_Dbl_quotientWith60 49 (.lrem) 1 50 := ⟨by decide +kernel, rfl⟩
theorem d_Dbl_quotientWith60_50 : DC c_Dbl_quotientWith60 50 (.lstore 6) 2 52 := ⟨by decide +kernel, rfl⟩
theorem d_Dbl_quotientWith60_52 : DC c_Dbl_quotientWith60 52 (.iinc 8 1) 3 55 := ⟨by decide +kernel, rfl⟩
theorem d_Dbl_quotientWith60_55 : DB c_Dbl_quotientWith60 55 (.goto (-34)) (-34) 58 21 := ⟨by decide +kernel, rfl, rfl⟩
theorem d_Dbl_quotientWith60_58 : DC c_Dbl_quotientWith60 58 (.lload 6) 2 60 := ⟨by decide +kernel, rfl⟩
theorem d_Dbl_quotientWith60_60 : DC c_Dbl_quotientWith60 60 (.lconst 0) 1 61 := ⟨by decide +kernel, rfl⟩
theorem d_Dbl_quotientWith60_61 : DC c_Dbl_quotientWith60 61 (.lcmp) 1 62 := ⟨by decide +kernel, rfl⟩
theorem d_Dbl_quotientWith60_62 : DB c_Dbl_quotientWith60 62 (.ifCond .ne 8) (8) 65 70 := ⟨by decide +kernel, rfl, rfl⟩
theorem d_Dbl_quotientWith60_65 : DC c_Dbl_quotientWith60 65 (.lload 4) 2 67 := ⟨by decide +kernel, rfl⟩
theorem d_Dbl_quotientWith60_67 : DB c_Dbl_quotientWith60 67 (.goto 7) (7) 70 74 := ⟨by decide +kernel, rfl, rfl⟩
theorem d_Dbl_quotientWith60_70 : DC c_Dbl_quotientWith60 70 (.lload 4) 2 72 := ⟨by decide +kernel, rfl⟩
theorem d_Dbl_quotientWith60_72 : DC c_Dbl_quotientWith60 72 (.lconst 1) 1 73 := ⟨by decide +kernel, rfl⟩
theorem d_Dbl_quotientWith60_73 : DC c_Dbl_quotientWith60 73 (.lor) 1 74 := ⟨by decide +kernel, rfl⟩
theorem d_Dbl_quotientWith60_74 : DC c_Dbl_quotientWith60 74 (.lreturn) 1 75 := ⟨by decide +kernel, rfl⟩
theorem d_Dbl_root_0 : DC c_Dbl_root 0 (.lload_n 0) 1 1 := ⟨by decide +kernel, rfl⟩
theorem d_Dbl_root_1 : DC c_Dbl_root 1 (.invokestatic 35) 3 4 := ⟨by decide +kernel, rfl⟩
theorem d_Dbl_root_4 : DC c_Dbl_root 4 (.lconst 0) 1 5 := ⟨by decide +kernel, rfl⟩
theorem d_Dbl_root_5 : DC c_Dbl_root 5 (.lcmp) 1 6 := ⟨by decide +kernel, rfl⟩
theorem d_Dbl_root_6 : DB c_Dbl_root 6 (.ifCond .eq 11) (11) 9 17 := ⟨by decide +kernel, rfl, rfl⟩
theorem d_Dbl_root_9 : DC c_Dbl_root 9 (.lload_n 0) 1 10 := ⟨by decide +kernel, rfl⟩
theorem d_Dbl_root_10 : DC c_Dbl_root 10 (.ldc2_w 17) 3 13 := ⟨by decide +kernel, rfl⟩
theorem d_Dbl_root_13 : DC c_Dbl_root 13 (.lcmp) 1 14 := ⟨by decide +kernel, rfl⟩
theorem d_Dbl_root_14 : DB c_Dbl_root 14 (.ifCond .ne 5) (5) 17 19 := ⟨by decide +kernel, rfl, rfl⟩
theorem d_Dbl_root_17 : DC c_Dbl_root 17 (.lload_n 0) 1 18 := ⟨by decide +kernel, rfl⟩
theorem d_Dbl_root_18 : DC c_Dbl_root 18 (.lreturn) 1 19 := ⟨by decide +kernel, rfl⟩
theorem d_Dbl_root_19 : DC c_Dbl_root 19 (.lload_n 0) 1 20 := ⟨by decide +kernel, rfl⟩
theorem d_Dbl_root_20 : DC c_Dbl_root 20 (.invokestatic 7) 3 23 := ⟨by decide +kernel, rfl⟩
theorem d_Dbl_root_23 : DB c_Dbl_root 23 (.ifCond .ne 9) (9) 26 32 := ⟨by decide +kernel, rfl, rfl⟩
theorem d_Dbl_root_26 : DC c_Dbl_root 26 (.lload_n 0) 1 27 := ⟨by decide +kernel, rfl⟩
theorem d_Dbl_root_27 : DC c_Dbl_root 27 (.lconst 0) 1 28 := ⟨by decide +kernel, rfl⟩
theorem d_Dbl_root_28 : DC c_Dbl_root 28 (.lcmp) 1 29 := ⟨by decide +kernel, rfl⟩
theorem d_Dbl_root_29 : DB c_Dbl_root 29 (.ifCond .ge 7) (7) 32 36 := ⟨by decide +kernel, rfl, rfl⟩
theorem d_Dbl_root_32 : DC c_Dbl_root 32 (.ldc2_w 13) 3 35 := ⟨by decide +kernel, rfl⟩
theorem d_Dbl_root_35 : DC c_Dbl_root 35 (.lreturn) 1 36 := ⟨by decide +kernel, rfl⟩
theorem d_Dbl_root_36 : DC c_Dbl_root 36 (.lload_n 0) 1 37 := ⟨by decide +kernel, rfl⟩
theorem d_Dbl_root_37 : DC c_Dbl_root 37 (.invokestatic 42) 3 40 := ⟨by decide +kernel, rfl⟩
theorem d_Dbl_root_40 : DC c_Dbl_root 40 (.invokestatic 53) 3 43 := ⟨by decide +kernel, rfl⟩
theorem d_Dbl_root_43 : DC c_Dbl_root 43 (.bipush 11) 2 45 := ⟨by decide +kernel, rfl⟩
theorem d_Dbl_root_45 : DC c_Dbl_root 45 (.isub) 1 46 := ⟨by decide +kernel, rfl⟩
theorem d_Dbl_root_46 : DC c_Dbl_root 46 (.istore_n 2) 1 47 := ⟨by decide +kernel, rfl⟩
theorem d_Dbl_root_47 : DC c_Dbl_root 47 (.lload_n 0) 1 48 := ⟨by decide +kernel, rfl⟩
theorem d_Dbl_root_48 : DC c_Dbl_root 48 (.invokestatic 38) 3 51 := ⟨by decide +kernel, rfl⟩
theorem d_Dbl_root_51 : DC c_Dbl_root 51 (.iload_n 2) 1 52 := ⟨by decide +kernel, rfl⟩
theorem d_Dbl_root_52 : DC c_Dbl_root 52 (.isub) 1 53 := ⟨by decide +kernel, rfl⟩
theorem d_Dbl_root_53 : DC c_Dbl_root 53 (.sipush 1075) 3 56 := ⟨by decide +kernel, rfl⟩
theorem d_Dbl_root_56 : DC c_Dbl_root 56 (.isub) 1 57 := ⟨by decide +kernel, rfl⟩
theorem d_Dbl_root_57 : DC c_Dbl_root 57 (.istore_n 3) 1 58 := ⟨by decide +kernel, rfl⟩
theorem d_Dbl_root_58 : DC c_Dbl_root 58 (.iload_n 3) 1 59 := ⟨by decide +kernel, rfl⟩
theorem d_Dbl_root_59 : DC c_Dbl_root 59 (.iconst 1) 1 60 := ⟨by decide +kernel, rfl⟩
theorem d_Dbl_root_60 : DC c_Dbl_root 60 (.iand) 1 61 := ⟨by decide +kernel, rfl⟩
theorem d_Dbl_root_61 : DC c_Dbl_root 61 (.istore 4) 2 63 := ⟨by decide +kernel, rfl⟩
theorem d_Dbl_root_63 : DC c_Dbl_root 63 (.lload_n 0) 1 64 := ⟨by decide +kernel, rfl⟩
theorem d_Dbl_root_64 : DC c_Dbl_root 64 (.invokestatic 42) 3 67 := ⟨by decide +kernel, rfl⟩
theorem d_Dbl_root_67 : DC c_Dbl_root 67 (.iload_n 2) 1 68 := ⟨by decide +kernel, rfl⟩
theorem d_Dbl_root_68 : DC c_Dbl_root 68 (.iload 4) 2 70 := ⟨by decide +kernel, rfl⟩
theorem d_Dbl_root_70 : DC c_Dbl_root 70 (.iadd) 1 71 := ⟨by decide +kernel, rfl⟩
theorem d_Dbl_root_71 : DC c_Dbl_root 71 (.lshl) 1 72 := ⟨by decide +kernel, rfl⟩
theorem d_Dbl_root_72 : DC c_Dbl_root 72 (.invokestatic 65) 3 75 := ⟨by decide +kernel, rfl⟩
theorem d_Dbl_root_75 : DC c_Dbl_root 75 (.lstore 5) 2 77 := ⟨by decide +kernel, rfl⟩
theorem d_Dbl_root_77 : DC c_Dbl_root 77 (.lconst 0) 1 78 := ⟨by decide +kernel, rfl⟩
theorem d_Dbl_root_78 : DC c_Dbl_root 78 (.iload_n 3) 1 79 := ⟨by decide +kernel, rfl⟩
theorem d_Dbl_root_79 : DC c_Dbl_root 79 (.iload 4) 2 81 := ⟨by decide +kernel, rfl⟩
theorem d_Dbl_root_81 : DC c_Dbl_root 81 (.isub) 1 82 := ⟨by decide +kernel, rfl⟩
theorem d_Dbl_root_82 : DC c_Dbl_root 82 (.iconst 1) 1 83 := ⟨by decide +kernel, rfl⟩
theorem d_Dbl_root_83 : DC c_Dbl_root 83 (.ishr) 1 84 := ⟨by decide +kernel, rfl⟩
theorem d_Dbl_root_84 : DC c_Dbl_root 84 (.bipush 29) 2 86 := ⟨by decide +kernel, rfl⟩
theorem d_Dbl_root_86 : DC c_Dbl_root 86 (.isub) 1 87 := ⟨by decide +kernel, rfl⟩
theorem d_Dbl_root_87 : DC c_Dbl_root 87 (.sipush 1075) 3 90 := ⟨by decide +kernel, rfl⟩
theorem d_Dbl_root_90 : DC c_Dbl_root 90 (.iadd) 1 91 := ⟨by decide +kernel, rfl⟩
theorem d_Dbl_root_91 : DC c_Dbl_root 91 (.iconst 3) 1 92 := ⟨by decide +kernel, rfl⟩
theorem d_Dbl_root_92 : DC c_Dbl_root 92 (.iadd) 1 93 := ⟨by decide +kernel, rfl⟩
theorem d_Dbl_root_93 : DC c_Dbl_root 93 (.lload 5) 2 95 := ⟨by decide +kernel, rfl⟩
theorem d_Dbl_root_95 : DC c_Dbl_root 95 (.invokestatic 49) 3 98 := ⟨by decide +kernel, rfl⟩
theorem d_Dbl_root_98 : DC c_Dbl_root 98 (.lreturn) 1 99 := ⟨by decide +kernel, rfl⟩
theorem d_Dbl_rootWith29_0 : DC c_Dbl_rootWith29 0 (.lconst 0) 1 1 := ⟨by decide +kernel, rfl⟩
theorem d_Dbl_rootWith29_1 : DC c_Dbl_rootWith29 1 (.lstore_n 2) 1 2 := ⟨by decide +kernel, rfl⟩
theorem d_Dbl_rootWith29_2 : DC c_Dbl_rootWith29 2 (.lconst 0) 1 3 := ⟨by decide +kernel, rfl⟩
theorem d_Dbl_rootWith29_3 : DC c_Dbl_rootWith29 3 (.lstore 4) 2 5 := ⟨by decide +kernel, rfl⟩
theorem d_Dbl_rootWith29_5 : DC c_Dbl_rootWith29 5 (.iconst 0) 1 6 := ⟨by decide +kernel, rfl⟩
theorem d_Dbl_rootWith29_6 : DC c_Dbl_rootWith29 6 (.istore 6) 2 8 := ⟨by decide +kernel, rfl⟩
theorem d_Dbl_rootWith29_8 : DC c_Dbl_rootWith29 8 (.iload 6) 2 10 := ⟨by decide +kernel, rfl⟩
theorem d_Dbl_rootWith29_10 : DC c_Dbl_rootWith29 10 (.bipush 56) 2 12 := ⟨by decide +kernel, rfl⟩
theorem d_Dbl_rootWith29_12 : DB c_Dbl_rootWith29 12 (.if_icmp .ge 74) (74) 15 86 := ⟨by decide +kernel, rfl, rfl⟩
theorem d_Dbl_rootWith29_15 : DC c_Dbl_rootWith29 15 (.iload 6) 2 17 := ⟨by decide +kernel, rfl⟩
theorem d_Dbl_rootWith29_17 : DC c_Dbl_rootWith29 17 (.bipush 27) 2 19 := ⟨by decide +kernel, rfl⟩
theorem d_Dbl_rootWith29_19 : DB c_Dbl_rootWith29 19 (.if_icmp .ge 19) (19) 22 38 := ⟨by decide +kernel, rfl, rfl⟩
theorem d_Dbl_rootWith29_22 : DC c_Dbl_rootWith29 22 (.lload_n 0) 1 23 := ⟨by decide +kernel, rfl⟩
theorem d_Dbl_rootWith29_23 : DC c_Dbl_rootWith29 23 (.bipush 52) 2 25 := ⟨by decide +kernel, rfl⟩
theorem d_Dbl_rootWith29_25 : DC c_Dbl_rootWith29 25 (.iconst 2) 1 26 := ⟨by decide +kernel, rfl⟩
theorem d_Dbl_rootWith29_26 : DC c_Dbl_rootWith29 26 (.iload 6) 2 28 := ⟨by decide +kernel, rfl⟩
theorem d_Dbl_rootWith29_28 : DC c_Dbl_rootWith29 28 (.imul) 1 29 := ⟨by decide +kernel, rfl⟩
theorem d_Dbl_rootWith29_29 : DC c_Dbl_rootWith29 29 (.isub) 1 30 := ⟨by decide +kernel, rfl⟩
theorem d_Dbl_rootWith29_30 : DC c_Dbl_rootWith29 30 (.lushr) 1 31 := ⟨by decide +kernel, rfl⟩
theorem d_Dbl_rootWith29_31 : DC c_Dbl_rootWith29 31 (.ldc2_w 68) 3 34 := ⟨by decide +kernel, rfl⟩
theorem d_Dbl_rootWith29_34 : DC c_Dbl_rootWith29 34 (.land) 1 35 := ⟨by decide +kernel, rfl⟩
theorem d_Dbl_rootWith29_35 : DB c_Dbl_rootWith29 35 (.goto 4) (4) 38 39 := ⟨by decide +kernel, rfl, rfl⟩
theorem d_Dbl_rootWith29_38 : DC c_Dbl_rootWith29 38 (.lconst 0) 1 39 := ⟨by decide +kernel, rfl⟩
theorem d_Dbl_rootWith29_39 : DC c_Dbl_rootWith29 39 (.lstore 7) 2 41 := ⟨by decide +kernel, rfl⟩
theorem d_Dbl_rootWith29_41 : DC c_Dbl_rootWith29 41 (.lload_n 2) 1 42 := ⟨by decide +kernel, rfl⟩
theorem d_Dbl_rootWith29_42 : DC c_Dbl_rootWith29 42 (.iconst 2) 1 43 := ⟨by decide +kernel, rfl⟩
theorem d_Dbl_rootWith29_43 : DC c_Dbl_rootWith29 43 (.lshl) 1 44 := ⟨by decide +kernel, rfl⟩
theorem d_Dbl_rootWith29_44 : DC c_Dbl_rootWith29 44 (.lconst 1) 1 45 := ⟨by decide +kernel, rfl⟩
theorem d_Dbl_rootWith29_45 : DC c_Dbl_rootWith29 45 (.lor) 1 46 := ⟨by decide +kernel, rfl⟩
theorem d_Dbl_rootWith29_46 : DC c_Dbl_rootWith29 46 (.lstore 9) 2 48 := ⟨by decide +kernel, rfl⟩
theorem d_Dbl_rootWith29_48 : DC c_Dbl_rootWith29 48 (.lload 4) 2 50 := ⟨by decide +kernel, rfl⟩
theorem d_Dbl_rootWith29_50 : DC c_Dbl_rootWith29 50 (.iconst 2) 1 51 := ⟨by decide +kernel, rfl⟩
theorem d_Dbl_rootWith29_51 : DC c_Dbl_rootWith29 51 (.lshl) 1 52 := ⟨by decide +kernel, rfl⟩
theorem d_Dbl_rootWith29_52 : DC c_Dbl_rootWith29 52 (.lload 7) 2 54 := ⟨by decide +kernel, rfl⟩
theorem d_Dbl_rootWith29_54 : DC c_Dbl_rootWith29 54 (.lor) 1 55 := ⟨by decide +kernel, rfl⟩
theorem d_Dbl_rootWith29_55 : DC c_Dbl_rootWith29 55 (.lstore 4) 2 57 := ⟨by decide +kernel, rfl⟩
theorem d_Dbl_rootWith29_57 : DC c_Dbl_rootWith29 57 (.lload_n 2) 1 58 := ⟨by decide +kernel, rfl⟩
theorem d_Dbl_rootWith29_58 : DC c_Dbl_rootWith29 58 (.iconst 1) 1 59 := ⟨by decide +kernel, rfl⟩
theorem d_Dbl_rootWith29_59 : DC c_Dbl_rootWith29 59 (.lshl) 1 60 := ⟨by decide +kernel, rfl⟩
theorem d_Dbl_rootWith29_60 : DC c_Dbl_rootWith29 60 (.lstore_n 2) 1 61 := ⟨by decide +kernel, rfl⟩
theorem d_Dbl_rootWith29_61 : DC c_Dbl_rootWith29 61 (.lload 4) 2 63 := ⟨by decide +kernel, rfl⟩
theorem d_Dbl_rootWith29_63 : DC c_Dbl_rootWith29 63 (.lload 9) 2 65 := ⟨by decide +kernel, rfl⟩
theorem d_Dbl_rootWith29_65 : DC c_Dbl_rootWith29 65 (.lcmp) 1 66 := ⟨by decide +kernel, rfl⟩
theorem d_Dbl_rootWith29_66 : DB c_Dbl_rootWith29 66 (.ifCond .lt 14) (14) 69 80 := ⟨by decide +kernel, rfl, rfl⟩
theorem d_Dbl_rootWith29_69 : DC c_Dbl_rootWith29 69 (.lload 4) 2 71 := ⟨by decide +kernel, rfl⟩
theorem d_Dbl_rootWith29_71 : DC c_Dbl_rootWith29 71 (.lload 9) 2 73 := ⟨by decide +kernel, rfl⟩
theorem d_Dbl_rootWith29_73 : DC c_Dbl_rootWith29 73 (.lsub) 1 74 := ⟨by decide +kernel, rfl⟩
theorem d_Dbl_rootWith29_74 : DC c_Dbl_rootWith29 74 (.lstore 4) 2 76 := ⟨by decide +kernel, rfl⟩
theorem d_Dbl_rootWith29_76 : DC c_Dbl_rootWith29 76 (.lload_n 2) 1 77 := ⟨by decide +kernel, rfl⟩
theorem d_Dbl_rootWith29_77 : DC c_Dbl_rootWith29 77 (.lconst 1) 1 78 := ⟨by decide +kernel, rfl⟩
theorem d_Dbl_rootWith29_78 : DC c_Dbl_rootWith29 78 (.lor) 1 79 := ⟨by decide +kernel, rfl⟩
theorem d_Dbl_rootWith29_79 : DC c_Dbl_rootWith29 79 (.lstore_n 2) 1 80 := ⟨by decide +kernel, rfl⟩
theorem d_Dbl_rootWith29_80 : DC c_Dbl_rootWith29 80 (.iinc 6 1) 3 83 := ⟨by decide +kernel, rfl⟩
theorem d_Dbl_rootWith29_83 : DB c_Dbl_rootWith29 83 (.goto (-75)) (-75) 86 8 := ⟨by decide +kernel, rfl, rfl⟩
theorem d_Dbl_rootWith29_86 : DC c_Dbl_rootWith29 86 (.lload 4) 2 88 := ⟨by decide +kernel, rfl⟩
theorem d_Dbl_rootWith29_88 : DC c_Dbl_rootWith29 88 (.lconst 0) 1 89 := ⟨by decide +kernel, rfl⟩
theorem d_Dbl_rootWith29_89 : DC c_Dbl_rootWith29 89 (.lcmp) 1 90 := ⟨by decide +kernel, rfl⟩
theorem d_Dbl_rootWith29_90 : DB c_Dbl_rootWith29 90 (.ifCond .ne 7) (7) 93 97 := ⟨by decide +kernel, rfl, rfl⟩
theorem d_Dbl_rootWith29_93 : DC c_Dbl_rootWith29 93 (.lload_n 2) 1 94 := ⟨by decide +kernel, rfl⟩
theorem d_Dbl_rootWith29_94 : DB c_Dbl_rootWith29 94 (.goto 6) (6) 97 100 := ⟨by decide +kernel, rfl, rfl⟩
theorem d_Dbl_rootWith29_97 : DC c_Dbl_rootWith29 97 (.lload_n 2) 1 98 := ⟨by decide +kernel, rfl⟩
theorem d_Dbl_rootWith29_98 : DC c_Dbl_rootWith29 98 (.lconst 1) 1 99 := ⟨by decide +kernel, rfl⟩
theorem d_Dbl_rootWith29_99 : DC c_Dbl_rootWith29 99 (.lor) 1 100 := ⟨by decide +kernel, rfl⟩
theorem d_Dbl_rootWith29_100 : DC c_Dbl_rootWith29 100 (.lreturn) 1 101 := ⟨by decide +kernel, rfl⟩
theorem d_Dbl_floor_0 : DC c_Dbl_floor 0 (.lload_n 0) 1 1 := ⟨by decide +kernel, rfl⟩
theorem d_Dbl_floor_1 : DC c_Dbl_floor 1 (.invokestatic 35) 3 4 := ⟨by decide +kernel, rfl⟩
theorem d_Dbl_floor_4 : DC c_Dbl_floor 4 (.bipush 52) 2 6 := ⟨by decide +kernel, rfl⟩
theorem d_Dbl_floor_6 : DC c_Dbl_floor 6 (.lushr) 1 7 := ⟨by decide +kernel, rfl⟩
theorem d_Dbl_floor_7 : DC c_Dbl_floor 7 (.l2i) 1 8 := ⟨by decide +kernel, rfl⟩
theorem d_Dbl_floor_8 : DC c_Dbl_floor 8 (.sipush 1023) 3 11 := ⟨by decide +kernel, rfl⟩
theorem d_Dbl_floor_11 : DC c_Dbl_floor 11 (.isub) 1 12 := ⟨by decide +kernel, rfl⟩
theorem d_Dbl_floor_12 : DC c_Dbl_floor 12 (.istore_n 2) 1 13 := ⟨by decide +kernel, rfl⟩
theorem d_Dbl_floor_13 : DC c_Dbl_floor 13 (.lload_n 0) 1 14 := ⟨by decide +kernel, rfl⟩
theorem d_Dbl_floor_14 : DC c_Dbl_floor 14 (.invokestatic 35) 3 17 := ⟨by decide +kernel, rfl⟩
theorem d_Dbl_floor_17 : DC c_Dbl_floor 17 (.lconst 0) 1 18 := ⟨by decide +kernel, rfl⟩
theorem d_Dbl_floor_18 : DC c_Dbl_floor 18 (.lcmp) 1 19 := ⟨by decide +kernel, rfl⟩
theorem d_Dbl_floor_19 : DB c_Dbl_floor 19 (.ifCond .eq 9) (9) 22 28 := ⟨by decide +kernel, rfl, rfl⟩
theorem d_Dbl_floor_22 : DC c_Dbl_floor 22 (.iload_n 2) 1 23 := ⟨by decide +kernel, rfl⟩
theorem d_Dbl_floor_23 : DC c_Dbl_floor 23 (.bipush 52) 2 25 := ⟨by decide +kernel, rfl⟩
theorem d_Dbl_floor_25 : DB c_Dbl_floor 25 (.if_icmp .lt 5) (5) 28 30 := ⟨by decide +kernel, rfl, rfl⟩
theorem d_Dbl_floor_28 : DC c_Dbl_floor 28 (.lload_n 0) 1 29 := ⟨by decide +kernel, rfl⟩
theorem d_Dbl_floor_29 : DC c_Dbl_floor 29 (.lreturn) 1 30 := ⟨by decide +kernel, rfl⟩
theorem d_Dbl_floor_30 : DC c_Dbl_floor 30 (.iload_n 2) 1 31 := ⟨by decide +kernel, rfl⟩
theorem d_Dbl_floor_31 : DB c_Dbl_floor 31 (.ifCond .ge 17) (17) 34 48 := ⟨by decide +kernel, rfl, rfl⟩
theorem d_Dbl_floor_34 : DC c_Dbl_floor 34 (.lload_n 0) 1 35 := ⟨by decide +kernel, rfl⟩
theorem d_Dbl_floor_35 : DC c_Dbl_floor 35 (.lconst 0) 1 36 := ⟨by decide +kernel, rfl⟩
theorem d_Dbl_floor_36 : DC c_Dbl_floor 36 (.lcmp) 1 37 := ⟨by decide +kernel, rfl⟩
theorem d_Dbl_floor_37 : DB c_Dbl_floor 37 (.ifCond .ge 9) (9) 40 46 := ⟨by decide +kernel, rfl, rfl⟩
theorem d_Dbl_floor_40 : DC c_Dbl_floor 40 (.ldc2_w 70) 3 43 := ⟨by decide +kernel, rfl⟩
theorem d_Dbl_floor_43 : DB c_Dbl_floor 43 (.goto 4) (4) 46 47 := ⟨by decide +kernel, rfl, rfl⟩
theorem d_Dbl_floor_46 : DC c_Dbl_floor 46 (.lconst 0) 1 47 := ⟨by decide +kernel, rfl⟩
theorem d_Dbl_floor_47 : DC c_Dbl_floor 47 (.lreturn) 1 48 := ⟨by decide +kernel, rfl⟩
theorem d_Dbl_floor_48 : DC c_Dbl_floor 48 (.lconst 1) 1 49 := ⟨by decide +kernel, rfl⟩
theorem d_Dbl_floor_49 : DC c_Dbl_floor 49 (.bipush 52) 2 51 := ⟨by decide +kernel, rfl⟩
theorem d_Dbl_floor_51 : DC c_Dbl_floor 51 (.iload_n 2) 1 52 := ⟨by decide +kernel, rfl⟩
theorem d_Dbl_floor_52 : DC c_Dbl_floor 52 (.isub) 1 53 := ⟨by decide +kernel, rfl⟩
theorem d_Dbl_floor_53 : DC c_Dbl_floor 53 (.lshl) 1 54 := ⟨by decide +kernel, rfl⟩
theorem d_Dbl_floor_54 : DC c_Dbl_floor 54 (.lconst 1) 1 55 := ⟨by decide +kernel, rfl⟩
theorem d_Dbl_floor_55 : DC c_Dbl_floor 55 (.lsub) 1 56 := ⟨by decide +kernel, rfl⟩
theorem d_Dbl_floor_56 : DC c_Dbl_floor 56 (.lstore_n 3) 1 57 := ⟨by decide +kernel, rfl⟩
theorem d_Dbl_floor_57 : DC c_Dbl_floor 57 (.lload_n 0) 1 58 := ⟨by decide +kernel, rfl⟩
theorem d_Dbl_floor_58 : DC c_Dbl_floor 58 (.lconst 0) 1 59 := ⟨by decide +kernel, rfl⟩
theorem d_Dbl_floor_59 : DC c_Dbl_floor 59 (.lcmp) 1 60 := ⟨by decide +kernel, rfl⟩
theorem d_Dbl_floor_60 : DB c_Dbl_floor 60 (.ifCond .ge 15) (15) 63 75 := ⟨by decide +kernel, rfl, rfl⟩
theorem d_Dbl_floor_63 : DC c_Dbl_floor 63 (.lload_n 0) 1 64 := ⟨by decide +kernel, rfl⟩
theorem d_Dbl_floor_64 : DC c_Dbl_floor 64 (.lload_n 3) 1 65 := ⟨by decide +kernel, rfl⟩
theorem d_Dbl_floor_65 : DC c_Dbl_floor 65 (.land) 1 66 := ⟨by decide +kernel, rfl⟩
theorem d_Dbl_floor_66 : DC c_Dbl_floor 66 (.lconst 0) 1 67 := ⟨by decide +kernel, rfl⟩
theorem d_Dbl_floor_67 : DC c_Dbl_floor 67 (.lcmp) 1 68 := ⟨by decide +kernel, rfl⟩
theorem d_Dbl_floor_68 : DB c_Dbl_floor 68 (.ifCond .eq 7) (7) 71 75 := ⟨by decide +kernel, rfl, rfl⟩
theorem d_Dbl_floor_71 : DC c_Dbl_floor 71 (.iconst 1) 1 72 := ⟨by decide +kernel, rfl⟩
theorem d_Dbl_floor_72 : DB c_Dbl_floor 72 (.goto 4) (4) 75 76 := ⟨by decide +kernel, rfl, rfl⟩
theorem d_Dbl_floor_75 : DC c_Dbl_floor 75 (.iconst 0) 1 76 := ⟨by decide +kernel, rfl⟩
theorem d_Dbl_floor_76 : DC c_Dbl_floor 76 (.istore 5) 2 78 := ⟨by decide +kernel, rfl⟩
theorem d_Dbl_floor_78 : DC c_Dbl_floor 78 (.iload 5) 2 80 := ⟨by decide +kernel, rfl⟩
theorem d_Dbl_floor_80 : DB c_Dbl_floor 80 (.ifCond .eq 9) (9) 83 89 := ⟨by decide +kernel, rfl, rfl⟩
theorem d_Dbl_floor_83 : DC c_Dbl_floor 83 (.lload_n 0) 1 84 := ⟨by decide +kernel, rfl⟩
theorem d_Dbl_floor_84 : DC c_Dbl_floor 84 (.lload_n 3) 1 85 := ⟨by decide +kernel, rfl⟩
theorem d_Dbl_floor_85 : DC c_Dbl_floor 85 (.ladd) 1 86 := ⟨by decide +kernel, rfl⟩
theorem d_Dbl_floor_86 : DB c_Dbl_floor 86 (.goto 4) (4) 89 90 := ⟨by decide +kernel, rfl, rfl⟩
theorem d_Dbl_floor_89 : DC c_Dbl_floor 89 (.lload_n 0) 1 90 := ⟨by decide +kernel, rfl⟩
theorem d_Dbl_floor_90 : DC c_Dbl_floor 90 (.lload_n 3) 1 91 := ⟨by decide +kernel, rfl⟩
theorem d_Dbl_floor_91 : DC c_Dbl_floor 91 (.ldc2_w 72) 3 94 := ⟨by decide +kernel, rfl⟩
theorem d_Dbl_floor_94 : DC c_Dbl_floor 94 (.lxor) 1 95 := ⟨by decide +kernel, rfl⟩
theorem d_Dbl_floor_95 : DC c_Dbl_floor 95 (.land) 1 96 := ⟨by decide +kernel, rfl⟩
theorem d_Dbl_floor_96 : DC c_Dbl_floor 96 (.lreturn) 1 97 := ⟨by decide +kernel, rfl⟩
theorem d_Dbl_sign_0 : DC c_Dbl_sign 0 (.lload_n 0) 1 1 := ⟨by decide +kernel, rfl⟩
theorem d_Dbl_sign_1 : DC c_Dbl_sign 1 (.invokestatic 7) 3 4 := ⟨by decide +kernel, rfl⟩
theorem d_Dbl_sign_4 : DB c_Dbl_sign 4 (.ifCond .ne 12) (12) 7 16 := ⟨by decide +kernel, rfl, rfl⟩
theorem d_Dbl_sign_7 : DC c_Dbl_sign 7 (.lload_n 0) 1 8 := ⟨by decide +kernel, rfl⟩
theorem d_Dbl_sign_8 : DC c_Dbl_sign 8 (.invokestatic 35) 3 11 := ⟨by decide +kernel, rfl⟩
theorem d_Dbl_sign_11 : DC c_Dbl_sign 11 (.lconst 0) 1 12 := ⟨by decide +kernel, rfl⟩
theorem d_Dbl_sign_12 : DC c_Dbl_sign 12 (.lcmp) 1 13 := ⟨by decide +kernel, rfl⟩
theorem d_Dbl_sign_13 : DB c_Dbl_sign 13 (.ifCond .ne 7) (7) 16 20 := ⟨by decide +kernel, rfl, rfl⟩
theorem d_Dbl_sign_16 : DC c_Dbl_sign 16 (.lload_n 0) 1 17 := ⟨by decide +kernel, rfl⟩
theorem d_Dbl_sign_17 : DB c_Dbl_sign 17 (.goto 12) (12) 20 29 := ⟨by decide +kernel, rfl, rfl⟩
theorem d_Dbl_sign_20 : DC c_Dbl_sign 20 (.lload_n 0) 1 21 := ⟨by decide +kernel, rfl⟩
theorem d_Dbl_sign_21 : DC c_Dbl_sign 21 (.ldc2_w 19) 3 24 := ⟨by decide +kernel, rfl⟩
theorem d_Dbl_sign_24 : DC c_Dbl_sign 24 (.land) 1 25 := ⟨by decide +kernel, rfl⟩
theorem d_Dbl_sign_25 : DC c_Dbl_sign 25 (.ldc2_w 74) 3 28 := ⟨by decide +kernel, rfl⟩
theorem d_Dbl_sign_28 : DC c_Dbl_sign 28 (.lor) 1 29 := ⟨by decide +kernel, rfl⟩
theorem d_Dbl_sign_29 : DC c_Dbl_sign 29 (.lreturn) 1 30 := ⟨by decide +kernel, rfl⟩
theorem d_Dbl_isBelow_0 : DC c_Dbl_isBelow 0 (.lload_n 0) 1 1 := ⟨by decide +kernel, rfl⟩
theorem d_Dbl_isBelow_1 : DC c_Dbl_isBelow 1 (.lconst 0) 1 2 := ⟨by decide +kernel, rfl⟩
theorem d_Dbl_isBelow_2 : DC c_Dbl_isBelow 2 (.lcmp) 1 3 := ⟨by decide +kernel, rfl⟩
theorem d_Dbl_isBelow_3 : DB c_Dbl_isBelow 3 (.ifCond .ge 11) (11) 6 14 := ⟨by decide +kernel, rfl, rfl⟩
theorem d_Dbl_isBelow_6 : DC c_Dbl_isBelow 6 (.lload_n 0) 1 7 := ⟨by decide +kernel, rfl⟩
theorem d_Dbl_isBelow_7 : DC c_Dbl_isBelow 7 (.invokestatic 35) 3 10 := ⟨by decide +kernel, rfl⟩
theorem d_Dbl_isBelow_10 : DC c_Dbl_isBelow 10 (.lneg) 1 11 := ⟨by decide +kernel, rfl⟩
theorem d_Dbl_isBelow_11 : DB c_Dbl_isBelow 11 (.goto 4) (4) 14 15 := ⟨by decide +kernel, rfl, rfl⟩
theorem d_Dbl_isBelow_14 : DC c_Dbl_isBelow 14 (.lload_n 0) 1 15 := ⟨by decide +kernel, rfl⟩
theorem d_Dbl_isBelow_15 : DC c_Dbl_isBelow 15 (.lstore 4) 2 17 := ⟨by decide +kernel, rfl⟩
theorem d_Dbl_isBelow_17 : DC c_Dbl_isBelow 17 (.lload_n 2) 1 18 := ⟨by decide +kernel, rfl⟩
theorem d_Dbl_isBelow_18 : DC c_Dbl_isBelow 18 (.lconst 0) 1 19 := ⟨by decide +kernel, rfl⟩
theorem d_Dbl_isBelow_19 : DC c_Dbl_isBelow 19 (.lcmp) 1 20 := ⟨by decide +kernel, rfl⟩
theorem d_Dbl_isBelow_20 : DB c_Dbl_isBelow 20 (.ifCond .ge 11) (11) 23 31 := ⟨by decide +kernel, rfl, rfl⟩
theorem d_Dbl_isBelow_23 : DC c_Dbl_isBelow 23 (.lload_n 2) 1 24 := ⟨by decide +kernel, rfl⟩
theorem d_Dbl_isBelow_24 : DC c_Dbl_isBelow 24 (.invokestatic 35) 3 27 := ⟨by decide +kernel, rfl⟩
theorem d_Dbl_isBelow_27 : DC c_Dbl_isBelow 27 (.lneg) 1 28 := ⟨by decide +kernel, rfl⟩
theorem d_Dbl_isBelow_28 : DB c_Dbl_isBelow 28 (.goto 4) (4) 31 32 := ⟨by decide +kernel, rfl, rfl⟩
theorem d_Dbl_isBelow_31 : DC c_Dbl_isBelow 31 (.lload_n 2) 1 32 := ⟨by decide +kernel, rfl⟩
theorem d_Dbl_isBelow_32 : DC c_Dbl_isBelow 32 (.lstore 6) 2 34 := ⟨by decide +kernel, rfl⟩
theorem d_Dbl_isBelow_34 : DC c_Dbl_isBelow 34 (.lload_n 0) 1 35 := ⟨by decide +kernel, rfl⟩
theorem d_Dbl_isBelow_35 : DC c_Dbl_isBelow 35 (.invokestatic 7) 3 38 := ⟨by decide +kernel, rfl⟩
theorem d_Dbl_isBelow_38 : DB c_Dbl_isBelow 38 (.ifCond .ne 22) (22) 41 60 := ⟨by decide +kernel, rfl, rfl⟩
theorem d_Dbl_isBelow_41 : DC c_Dbl_isBelow 41 (.lload_n 2) 1 42 := ⟨by decide +kernel, rfl⟩
theorem d_Dbl_isBelow_42 : DC c_Dbl_isBelow 42 (.invokestatic 7) 3 45 := ⟨by decide +kernel, rfl⟩
theorem d_Dbl_isBelow_45 : DB c_Dbl_isBelow 45 (.ifCond .ne 15) (15) 48 60 := ⟨by decide +kernel, rfl, rfl⟩
theorem d_Dbl_isBelow_48 : DC c_Dbl_isBelow 48 (.lload 4) 2 50 := ⟨by decide +kernel, rfl⟩
theorem d_Dbl_isBelow_50 : DC c_Dbl_isBelow 50 (.lload 6) 2 52 := ⟨by decide +kernel, rfl⟩
theorem d_Dbl_isBelow_52 : DC c_Dbl_isBelow 52 (.lcmp) 1 53 := ⟨by decide +kernel, rfl⟩
theorem d_Dbl_isBelow_53 : DB c_Dbl_isBelow 53 (.ifCond .ge 7) (7) 56 60 := ⟨by decide +kernel, rfl, rfl⟩
theorem d_Dbl_isBelow_56 : DC c_Dbl_isBelow 56 (.iconst 1) 1 57 := ⟨by decide +kernel, rfl⟩
theorem d_Dbl_isBelow_57 : DB c_Dbl_isBelow 57 (.goto 4) (4) 60 61 := ⟨by decide +kernel, rfl, rfl⟩
theorem d_Dbl_isBelow_60 : DC c_Dbl_isBelow 60 (.iconst 0) 1 61 := ⟨by decide +kernel, rfl⟩
theorem d_Dbl_isBelow_61 : DC c_Dbl_isBelow 61 (.ireturn) 1 62 := ⟨by decide +kernel, rfl⟩
theorem d_Dbl_fromInt_0 : DC c_Dbl_fromInt 0 (.iload_n 0) 1 1 := ⟨by decide +kernel, rfl⟩
theorem d_Dbl_fromInt_1 : DC c_Dbl_fromInt 1 (.i2l) 1 2 := ⟨by decide +kernel, rfl⟩
theorem d_Dbl_fromInt_2 : DC c_Dbl_fromInt 2 (.invokestatic 76) 3 5 := ⟨by decide +kernel, rfl⟩
theorem d_Dbl_fromInt_5 : DC c_Dbl_fromInt 5 (.lstore_n 1) 1 6 := ⟨by decide +kernel, rfl⟩
theorem d_Dbl_fromInt_6 : DC c_Dbl_fromInt 6 (.lload_n 1) 1 7 := ⟨by decide +kernel, rfl⟩
theorem d_Dbl_fromInt_7 : DC c_Dbl_fromInt 7 (.lconst 0) 1 8 := ⟨by decide +kernel, rfl⟩
theorem d_Dbl_fromInt_8 : DC c_Dbl_fromInt 8 (.lcmp) 1 9 := ⟨by decide +kernel, rfl⟩
theorem d_Dbl_fromInt_9 : DB c_Dbl_fromInt 9 (.ifCond .ne 7) (7) 12 16 := ⟨by decide +kernel, rfl, rfl⟩
theorem d_Dbl_fromInt_12 : DC c_Dbl_fromInt 12 (.lconst 0) 1 13 := ⟨by decide +kernel, rfl⟩
theorem d_Dbl_fromInt_13 : DB c_Dbl_fromInt 13 (.goto 21) (21) 16 34 := ⟨by decide +kernel, rfl, rfl⟩
theorem d_Dbl_fromInt_16 : DC c_Dbl_fromInt 16 (.iload_n 0) 1 17 := ⟨by decide +kernel, rfl⟩
theorem d_Dbl_fromInt_17 : DB c_Dbl_fromInt 17 (.ifCond .ge 9) (9) 20 26 := ⟨by decide +kernel, rfl, rfl⟩
theorem d_Dbl_fromInt_20 : DC c_Dbl_fromInt 20 (.ldc2_w 19) 3 23 := ⟨by decide +kernel, rfl⟩
theorem d_Dbl_fromInt_23 : DB c_Dbl_fromInt 23 (.goto 4) (4) 26 27 := ⟨by decide +kernel, rfl, rfl⟩
theorem d_Dbl_fromInt_26 : DC c_Dbl_fromInt 26 (.lconst 0) 1 27 := ⟨by decide +kernel, rfl⟩
theorem d_Dbl_fromInt_27 : DC c_Dbl_fromInt 27 (.sipush 1078) 3 30 := ⟨by decide +kernel, rfl⟩
theorem d_Dbl_fromInt_30 : DC c_Dbl_fromInt 30 (.lload_n 1) 1 31 := ⟨by decide +kernel, rfl⟩
theorem d_Dbl_fromInt_31 : DC c_Dbl_fromInt 31 (.invokestatic 49) 3 34 := ⟨by decide +kernel, rfl⟩
theorem d_Dbl_fromInt_34 : DC c_Dbl_fromInt 34 (.lreturn) 1 35 := ⟨by decide +kernel, rfl⟩
theorem d_Dbl_toInt_0 : DC c_Dbl_toInt 0 (.lload_n 0) 1 1 := ⟨by decide +kernel, rfl⟩
theorem d_Dbl_toInt_1 : DC c_Dbl_toInt 1 (.invokestatic 35) 3 4 := ⟨by decide +kernel, rfl⟩
theorem d_Dbl_toInt_4 : DC c_Dbl_toInt 4 (.bipush 52) 2 6 := ⟨by decide +kernel, rfl⟩
theorem d_Dbl_toInt_6 : DC c_Dbl_toInt 6 (.lushr) 1 7 := ⟨by decide +kernel, rfl⟩
theorem d_Dbl_toInt_7 : DC c_Dbl_toInt 7 (.l2i) 1 8 := ⟨by decide +kernel, rfl⟩
theorem d_Dbl_toInt_8 : DC c_Dbl_toInt 8 (.sipush 1023) 3 11 := ⟨by decide +kernel, rfl⟩
theorem d_Dbl_toInt_11 : DC c_Dbl_toInt 11 (.isub) 1 12 := ⟨by decide +kernel, rfl⟩
theorem d_Dbl_toInt_12 : DC c_Dbl_toInt 12 (.istore_n 2) 1 13 := ⟨by decide +kernel, rfl⟩
theorem d_Dbl_toInt_13 : DC c_Dbl_toInt 13 (.lload_n 0) 1 14 := ⟨by decide +kernel, rfl⟩
theorem d_Dbl_toInt_14 : DC c_Dbl_toInt 14 (.invokestatic 7) 3 17 := ⟨by decide +kernel, rfl⟩
theorem d_Dbl_toInt_17 : DB c_Dbl_toInt 17 (.ifCond .ne 7) (7) 20 24 := ⟨by decide +kernel, rfl, rfl⟩
theorem d_Dbl_toInt_20 : DC c_Dbl_toInt 20 (.iload_n 2) 1 21 := ⟨by decide +kernel, rfl⟩
theorem d_Dbl_toInt_21 : DB c_Dbl_toInt 21 (.ifCond .ge 5) (5) 24 26 := ⟨by decide +kernel, rfl, rfl⟩
theorem d_Dbl_toInt_24 : DC c_Dbl_toInt 24 (.iconst 0) 1 25 := ⟨by decide +kernel, rfl⟩
theorem d_Dbl_toInt_25 : DC c_Dbl_toInt 25 (.ireturn) 1 26 := ⟨by decide +kernel, rfl⟩
theorem d_Dbl_toInt_26 : DC c_Dbl_toInt 26 (.iload_n 2) 1 27 := ⟨by decide +kernel, rfl⟩
theorem d_Dbl_toInt_27 : DC c_Dbl_toInt 27 (.bipush 30) 2 29 := ⟨by decide +kernel, rfl⟩
theorem d_Dbl_toInt_29 : DB c_Dbl_toInt 29 (.if_icmp .le 17) (17) 32 46 := ⟨by decide +kernel, rfl, rfl⟩
theorem d_Dbl_toInt_32 : DC c_Dbl_toInt 32 (.lload_n 0) 1 33 := ⟨by decide +kernel, rfl⟩
theorem d_Dbl_toInt_33 : DC c_Dbl_toInt 33 (.lconst 0) 1 34 := ⟨by decide +kernel, rfl⟩
theorem d_Dbl_toInt_34 : DC c_Dbl_toInt 34 (.lcmp) 1 35 := ⟨by decide +kernel, rfl⟩
theorem d_Dbl_toInt_35 : DB c_Dbl_toInt 35 (.ifCond .ge 8) (8) 38 43 := ⟨by decide +kernel, rfl, rfl⟩
theorem d_Dbl_toInt_38 : DC c_Dbl_toInt 38 (.ldc 81) 2 40 := ⟨by decide +kernel, rfl⟩
theorem d_Dbl_toInt_40 : DB c_Dbl_toInt 40 (.goto 5) (5) 43 45 := ⟨by decide +kernel, rfl, rfl⟩
theorem d_Dbl_toInt_43 : DC c_Dbl_toInt 43 (.ldc 82) 2 45 := ⟨by decide +kernel, rfl⟩
theorem d_Dbl_toInt_45 : DC c_Dbl_toInt 45 (.ireturn) 1 46 := ⟨by decide +kernel, rfl⟩
theorem d_Dbl_toInt_46 : DC c_Dbl_toInt 46 (.lload_n 0) 1 47 := ⟨by decide +kernel, rfl⟩
theorem d_Dbl_toInt_47 : DC c_Dbl_toInt 47 (.invokestatic 42) 3 50 := ⟨by decide +kernel, rfl⟩
theorem d_Dbl_toInt_50 : DC c_Dbl_toInt 50 (.bipush 52) 2 52 := ⟨by decide +kernel, rfl⟩
theorem d_Dbl_toInt_52 : DC c_Dbl_toInt 52 (.iload_n 2) 1 53 := ⟨by decide +kernel, rfl⟩
theorem d_Dbl_toInt_53 : DC c_Dbl_toInt 53 (.isub) 1 54 := ⟨by decide +kernel, rfl⟩
theorem d_Dbl_toInt_54 : DC c_Dbl_toInt 54 (.lushr) 1 55 := ⟨by decide +kernel, rfl⟩
theorem d_Dbl_toInt_55 : DC c_Dbl_toInt 55 (.l2i) 1 56 := ⟨by decide +kernel, rfl⟩
theorem d_Dbl_toInt_56 : DC c_Dbl_toInt 56 (.istore_n 3) 1 57 := ⟨by decide +kernel, rfl⟩
theorem d_Dbl_toInt_57 : DC c_Dbl_toInt 57 (.lload_n 0) 1 58 := ⟨by decide +kernel, rfl⟩
theorem d_Dbl_toInt_58 : DC c_Dbl_toInt 58 (.lconst 0) 1 59 := ⟨by decide +kernel, rfl⟩
theorem d_Dbl_toInt_59 : DC c_Dbl_toInt 59 (.lcmp) 1 60 := ⟨by decide +kernel, rfl⟩
theorem d_Dbl_toInt_60 : DB c_Dbl_toInt 60 (.ifCond .ge 8) (8) 63 68 := ⟨by decide +kernel, rfl, rfl⟩
theorem d_Dbl_toInt_63 : DC c_Dbl_toInt 63 (.iload_n 3) 1 64 := ⟨by decide +kernel, rfl⟩
theorem d_Dbl_toInt_64 : DC c_Dbl_toInt 64 (.ineg) 1 65 := ⟨by decide +kernel, rfl⟩
theorem d_Dbl_toInt_65 : DB c_Dbl_toInt 65 (.goto 4) (4) 68 69 := ⟨by decide +kernel, rfl, rfl⟩
theorem d_Dbl_toInt_68 : DC c_Dbl_toInt 68 (.iload_n 3) 1 69 := ⟨by decide +kernel, rfl⟩
theorem d_Dbl_toInt_69 : DC c_Dbl_toInt 69 (.ireturn) 1 70 := ⟨by decide +kernel, rfl⟩
theorem d_Dbl_rounded_0 : DC c_Dbl_rounded 0 (.lload_n 3) 1 1 := ⟨by decide +kernel, rfl⟩
theorem d_Dbl_rounded_1 : DC c_Dbl_rounded 1 (.invokestatic 53) 3 4 := ⟨by decide +kernel, rfl⟩
theorem d_Dbl_rounded_4 : DC c_Dbl_rounded 4 (.bipush 11) 2 6 := ⟨by decide +kernel, rfl⟩
theorem d_Dbl_rounded_6 : DC c_Dbl_rounded 6 (.isub) 1 7 := ⟨by decide +kernel, rfl⟩
theorem d_Dbl_rounded_7 : DC c_Dbl_rounded 7 (.iconst 3) 1 8 := ⟨by decide +kernel, rfl⟩
theorem d_Dbl_rounded_8 : DC c_Dbl_rounded 8 (.iadd) 1 9 := ⟨by decide +kernel, rfl⟩
theorem d_Dbl_rounded_9 : DC c_Dbl_rounded 9 (.iload_n 2) 1 10 := ⟨by decide +kernel, rfl⟩
theorem d_Dbl_rounded_10 : DC c_Dbl_rounded 10 (.iconst 1) 1 11 := ⟨by decide +kernel, rfl⟩
theorem d_Dbl_rounded_11 : DC c_Dbl_rounded 11 (.isub) 1 12 := ⟨by decide +kernel, rfl⟩
theorem d_Dbl_rounded_12 : DC c_Dbl_rounded 12 (.invokestatic 83) 3 15 := ⟨by decide +kernel, rfl⟩
theorem d_Dbl_rounded_15 : DC c_Dbl_rounded 15 (.istore 5) 2 17 := ⟨by decide +kernel, rfl⟩
theorem d_Dbl_rounded_17 : DC c_Dbl_rounded 17 (.iload 5) 2 19 := ⟨by decide +kernel, rfl⟩
theorem d_Dbl_rounded_19 : DB c_Dbl_rounded 19 (.ifCond .lt 10) (10) 22 29 := ⟨by decide +kernel, rfl, rfl⟩
theorem d_Dbl_rounded_22 : DC c_Dbl_rounded 22 (.lload_n 3) 1 23 := ⟨by decide +kernel, rfl⟩
theorem d_Dbl_rounded_23 : DC c_Dbl_rounded 23 (.iload 5) 2 25 := ⟨by decide +kernel, rfl⟩
theorem d_Dbl_rounded_25 : DC c_Dbl_rounded 25 (.lshl) 1 26 := ⟨by decide +kernel, rfl⟩
theorem d_Dbl_rounded_26 : DB c_Dbl_rounded 26 (.goto 10) (10) 29 36 := ⟨by decide +kernel, rfl, rfl⟩
theorem d_Dbl_rounded_29 : DC c_Dbl_rounded 29 (.lload_n 3) 1 30 := ⟨by decide +kernel, rfl⟩
theorem d_Dbl_rounded_30 : DC c_Dbl_rounded 30 (.iload 5) 2 32 := ⟨by decide +kernel, rfl⟩
theorem d_Dbl_rounded_32 : DC c_Dbl_rounded 32 (.ineg) 1 33 := ⟨by decide +kernel, rfl⟩
theorem d_Dbl_rounded_33 : DC c_Dbl_rounded 33 (.invokestatic 45) 3 36 := ⟨by decide +kernel, rfl⟩
theorem d_Dbl_rounded_36 : DC c_Dbl_rounded 36 (.lstore 6) 2 38 := ⟨by decide +kernel, rfl⟩
theorem d_Dbl_rounded_38 : DC c_Dbl_rounded 38 (.iload_n 2) 1 39 := ⟨by decide +kernel, rfl⟩
theorem d_Dbl_rounded_39 : DC c_Dbl_rounded 39 (.iload 5) 2 41 := ⟨by decide +kernel, rfl⟩
theorem d_Dbl_rounded_41 : DC c_Dbl_rounded 41 (.isub) 1 42 := ⟨by decide +kernel, rfl⟩
theorem d_Dbl_rounded_42 : DC c_Dbl_rounded 42 (.istore 8) 2 44 := ⟨by decide +kernel, rfl⟩
theorem d_Dbl_rounded_44 : DC c_Dbl_rounded 44 (.iload 8) 2 46 := ⟨by decide +kernel, rfl⟩
theorem d_Dbl_rounded_46 : DC c_Dbl_rounded 46 (.sipush 2046) 3 49 := ⟨by decide +kernel, rfl⟩
theorem d_Dbl_rounded_49 : DB c_Dbl_rounded 49 (.if_icmp .le 9) (9) 52 58 := ⟨by decide +kernel, rfl, rfl⟩
theorem d_Dbl_rounded_52 : DC c_Dbl_rounded 52 (.lload_n 0) 1 53 := ⟨by decide +kernel, rfl⟩
theorem d_Dbl_rounded_53 : DC c_Dbl_rounded 53 (.ldc2_w 17) 3 56 := ⟨by decide +kernel, rfl⟩
theorem d_Dbl_rounded_56 : DC c_Dbl_rounded 56 (.lor) 1 57 := ⟨by decide +kernel, rfl⟩
theorem d_Dbl_rounded_57 : DC c_Dbl_rounded 57 (.lreturn) 1 58 := ⟨by decide +kernel, rfl⟩
theorem d_Dbl_rounded_58 : DC c_Dbl_rounded 58 (.lload 6) 2 60 := ⟨by decide +kernel, rfl⟩
theorem d_Dbl_rounded_60 : DC c_Dbl_rounded 60 (.ldc2_w 86) 3 63 := ⟨by decide +kernel, rfl⟩
theorem d_Dbl_rounded_63 : DC c_Dbl_rounded 63 (.land) 1 64 := ⟨by decide +kernel, rfl⟩
theorem d_Dbl_rounded_64 : DC c_Dbl_rounded 64 (.lstore 9) 2 66 := ⟨by decide +kernel, rfl⟩
theorem d_Dbl_rounded_66 : DC c_Dbl_rounded 66 (.lload 6) 2 68 := ⟨by decide +kernel, rfl⟩
theorem d_Dbl_rounded_68 : DC c_Dbl_rounded 68 (.iconst 3) 1 69 := ⟨by decide +kernel, rfl⟩
theorem d_Dbl_rounded_69 : DC c_Dbl_rounded 69 (.lushr) 1 70 := ⟨by decide +kernel, rfl⟩
theorem d_Dbl_rounded_70 : DC c_Dbl_rounded 70 (.lstore 11) 2 72 := ⟨by decide +kernel, rfl⟩
theorem d_Dbl_rounded_72 : DC c_Dbl_rounded 72 (.lload 9) 2 74 := ⟨by decide +kernel, rfl⟩
theorem d_Dbl_rounded_74 : DC c_Dbl_rounded 74 (.ldc2_w 88) 3 77 := ⟨by decide +kernel, rfl⟩
theorem d_Dbl_rounded_77 : DC c_Dbl_rounded 77 (.lcmp) 1 78 := ⟨by decide +kernel, rfl⟩
theorem d_Dbl_rounded_78 : DB c_Dbl_rounded 78 (.ifCond .gt 21) (21) 81 99 := ⟨by decide +kernel, rfl, rfl⟩
theorem d_Dbl_rounded_81 : DC c_Dbl_rounded 81 (.lload 9) 2 83 := ⟨by decide +kernel, rfl⟩
theorem d_Dbl_rounded_83 : DC c_Dbl_rounded 83 (.ldc2_w 88) 3 86 := ⟨by decide +kernel, rfl⟩
theorem d_Dbl_rounded_86 : DC c_Dbl_rounded 86 (.lcmp) 1 87 := ⟨by decide +kernel, rfl⟩
theorem d_Dbl_rounded_87 : DB c_Dbl_rounded 87 (.ifCond .ne 18) (18) 90 105 := ⟨by decide +kernel, rfl, rfl⟩
theorem d_Dbl_rounded_90 : DC c_Dbl_rounded 90 (.lload 11) 2 92 := ⟨by decide +kernel, rfl⟩
theorem d_Dbl_rounded_92 : DC c_Dbl_rounded 92 (.lconst 1) 1 93 := ⟨by decide +kernel, rfl⟩
theorem d_Dbl_rounded_93 : DC c_Dbl_rounded 93 (.land) 1 94 := ⟨by decide +kernel, rfl⟩
theorem d_Dbl_rounded_94 : DC c_Dbl_rounded 94 (.lconst 1) 1 95 := ⟨by decide +kernel, rfl⟩
theorem d_Dbl_rounded_95 : DC c_Dbl_rounded 95 (.lcmp) 1 96 := ⟨by decide +kernel, rfl⟩
theorem d_Dbl_rounded_96 : DB c_Dbl_rounded 96 (.ifCond .ne 9) (9) 99 105 := ⟨by decide +kernel, rfl, rfl⟩
theorem d_Dbl_rounded_99 : DC c_Dbl_rounded 99 (.lload 11) 2 101 := ⟨by decide +kernel, rfl⟩
theorem d_Dbl_rounded_101 : DC c_Dbl_rounded 101 (.lconst 1) 1 102 := ⟨by decide +kernel, rfl⟩
theorem d_Dbl_rounded_102 : DC c_Dbl_rounded 102 (.ladd) 1 103 := ⟨by decide +kernel, rfl⟩
theorem d_Dbl_rounded_103 : DC c_Dbl_rounded 103 (.lstore 11) 2 105 := ⟨by decide +kernel, rfl⟩
theorem d_Dbl_rounded_105 : DC c_Dbl_rounded 105 (.lload_n 0) 1 106 := ⟨by decide +kernel, rfl⟩
theorem d_Dbl_rounded_106 : DC c_Dbl_rounded 106 (.iload 8) 2 108 := ⟨by decide +kernel, rfl⟩
theorem d_Dbl_rounded_108 : DC c_Dbl_rounded 108 (.iconst 1) 1 109 := ⟨by decide +kernel, rfl⟩
theorem d_Dbl_rounded_109 : DC c_Dbl_rounded 109 (.isub) 1 110 := ⟨by decide +kernel, rfl⟩
theorem d_Dbl_rounded_110 : DC c_Dbl_rounded 110 (.i2l) 1 111 := ⟨by decide +kernel, rfl⟩
theorem d_Dbl_rounded_111 : DC c_Dbl_rounded 111 (.bipush 52) 2 113 := ⟨by decide +kernel, rfl⟩
theorem d_Dbl_rounded_113 : DC c_Dbl_rounded 113 (.lshl) 1 114 := ⟨by decide +kernel, rfl⟩
theorem d_Dbl_rounded_114 : DC c_Dbl_rounded 114 (.lload 11) 2 116 := ⟨by decide +kernel, rfl⟩
theorem d_Dbl_rounded_116 : DC c_Dbl_rounded 116 (.ladd) 1 117 := ⟨by decide +kernel, rfl⟩
theorem d_Dbl_rounded_117 : DC c_Dbl_rounded 117 (.lor) 1 118 := ⟨by decide +kernel, rfl⟩
theorem d_Dbl_rounded_118 : DC c_Dbl_rounded 118 (.lreturn) 1 119 := ⟨by decide +kernel, rfl⟩
theorem d_Dbl_shiftedDown_0 : DC c_Dbl_shiftedDown 0 (.iload_n 2) 1 1 := ⟨by decide +kernel, rfl⟩
theorem d_Dbl_shiftedDown_1 : DC c_Dbl_shiftedDown 1 (.bipush 62) 2 3 := ⟨by decide +kernel, rfl⟩
theorem d_Dbl_shiftedDown_3 : DB c_Dbl_shiftedDown 3 (.if_icmp .le 15) (15) 6 18 := ⟨by decide +kernel, rfl, rfl⟩
theorem d_Dbl_shiftedDown_6 : DC c_Dbl_shiftedDown 6 (.lload_n 0) 1 7 := ⟨by decide +kernel, rfl⟩
theorem d_Dbl_shiftedDown_7 : DC c_Dbl_shiftedDown 7 (.lconst 0) 1 8 := ⟨by decide +kernel, rfl⟩
theorem d_Dbl_shiftedDown_8 : DC c_Dbl_shiftedDown 8 (.lcmp) 1 9 := ⟨by decide +kernel, rfl⟩
theorem d_Dbl_shiftedDown_9 : DB c_Dbl_shiftedDown 9 (.ifCond .ne 7) (7) 12 16 := ⟨by decide +kernel, rfl, rfl⟩
theorem d_Dbl_shiftedDown_12 : DC c_Dbl_shiftedDown 12 (.lconst 0) 1 13 := ⟨by decide +kernel, rfl⟩
theorem d_Dbl_shiftedDown_13 : DB c_Dbl_shiftedDown 13 (.goto 4) (4) 16 17 := ⟨by decide +kernel, rfl, rfl⟩
theorem d_Dbl_shiftedDown_16 : DC c_Dbl_shiftedDown 16 (.lconst 1) 1 17 := ⟨by decide +kernel, rfl⟩
theorem d_Dbl_shiftedDown_17 : DC c_Dbl_shiftedDown 17 (.lreturn) 1 18 := ⟨by decide +kernel, rfl⟩
theorem d_Dbl_shiftedDown_18 : DC c_Dbl_shiftedDown 18 (.lload_n 0) 1 19 := ⟨by decide +kernel, rfl⟩
theorem d_Dbl_shiftedDown_19 : DC c_Dbl_shiftedDown 19 (.iload_n 2) 1 20 := ⟨by decide +kernel, rfl⟩
theorem d_Dbl_shiftedDown_20 : DC c_Dbl_shiftedDown 20 (.lushr) 1 21 := ⟨by decide +kernel, rfl⟩
theorem d_Dbl_shiftedDown_21 : DC c_Dbl_shiftedDown 21 (.lstore_n 3) 1 22 := ⟨by decide +kernel, rfl⟩
theorem d_Dbl_shiftedDown_22 : DC c_Dbl_shiftedDown 22 (.lload_n 3) 1 23 := ⟨by decide +kernel, rfl⟩
theorem d_Dbl_shiftedDown_23 : DC c_Dbl_shiftedDown 23 (.iload_n 2) 1 24 := ⟨by decide +kernel, rfl⟩
theorem d_Dbl_shiftedDown_24 : DC c_Dbl_shiftedDown 24 (.lshl) 1 25 := ⟨by decide +kernel, rfl⟩
theorem d_Dbl_shiftedDown_25 : DC c_Dbl_shiftedDown 25 (.lload_n 0) 1 26 := ⟨by decide +kernel, rfl⟩
theorem d_Dbl_shiftedDown_26 : DC c_Dbl_shiftedDown 26 (.lcmp) 1 27 := ⟨by decide +kernel, rfl⟩
theorem d_Dbl_shiftedDown_27 : DB c_Dbl_shiftedDown 27 (.ifCond .ne 7) (7) 30 34 := ⟨by decide +kernel, rfl, rfl⟩
theorem d_Dbl_shiftedDown_30 : DC c_Dbl_shiftedDown 30 (.lload_n 3) 1 31 := ⟨by decide +kernel, rfl⟩
theorem d_Dbl_shiftedDown_31 : DB c_Dbl_shiftedDown 31 (.goto 6) (6) 34 37 := ⟨by decide +kernel, rfl, rfl⟩
theorem d_Dbl_shiftedDown_34 : DC c_Dbl_shiftedDown 34 (.lload_n 3) 1 35 := ⟨by decide +kernel, rfl⟩
theorem d_Dbl_shiftedDown_35 : DC c_Dbl_shiftedDown 35 (.lconst 1) 1 36 := ⟨by decide +kernel, rfl⟩
theorem d_Dbl_shiftedDown_36 : DC c_Dbl_shiftedDown 36 (.lor) 1 37 := ⟨by decide +kernel, rfl⟩
theorem d_Dbl_shiftedDown_37 : DC c_Dbl_shiftedDown 37 (.lreturn) 1 38 := ⟨by decide +kernel, rfl⟩
theorem d_Dbl_leadingZeros_0 : DC c_Dbl_leadingZeros 0 (.lload_n 0) 1 1 := ⟨by decide +kernel, rfl⟩
theorem d_Dbl_leadingZeros_1 : DC c_Dbl_leadingZeros 1 (.lconst 0) 1 2 := ⟨by decide +kernel, rfl⟩
theorem d_Dbl_leadingZeros_2 : DC c_Dbl_leadingZeros 2 (.lcmp) 1 3 := ⟨by decide +kernel, rfl⟩
theorem d_Dbl_leadingZeros_3 : DB c_Dbl_leadingZeros 3 (.ifCond .ne 8) (8) 6 11 := ⟨by decide +kernel, rfl, rfl⟩
theorem d_Dbl_leadingZeros_6 : DC c_Dbl_leadingZeros 6 (.bipush 64) 2 8 := ⟨by decide +kernel, rfl⟩
theorem d_Dbl_leadingZeros_8 : DB c_Dbl_leadingZeros 8 (.goto 4) (4) 11 12 := ⟨by decide +kernel, rfl, rfl⟩
theorem d_Dbl_leadingZeros_11 : DC c_Dbl_leadingZeros 11 (.iconst 0) 1 12 := ⟨by decide +kernel, rfl⟩
theorem d_Dbl_leadingZeros_12 : DC c_Dbl_leadingZeros 12 (.istore_n 2) 1 13 := ⟨by decide +kernel, rfl⟩
theorem d_Dbl_leadingZeros_13 : DC c_Dbl_leadingZeros 13 (.lload_n 0) 1 14 := ⟨by decide +kernel, rfl⟩
theorem d_Dbl_leadingZeros_14 : DC c_Dbl_leadingZeros 14 (.lstore_n 3) 1 15 := ⟨by decide +kernel, rfl⟩
theorem d_Dbl_leadingZeros_15 : DC c_Dbl_leadingZeros 15 (.bipush 32) 2 17 := ⟨by decide +kernel, rfl⟩
theorem d_Dbl_leadingZeros_17 : DC c_Dbl_leadingZeros 17 (.istore 5) 2 19 := ⟨by decide +kernel, rfl⟩
theorem d_Dbl_leadingZeros_19 : DC c_Dbl_leadingZeros 19 (.iload 5) 2 21 := ⟨by decide +kernel, rfl⟩
theorem d_Dbl_leadingZeros_21 : DB c_Dbl_leadingZeros 21 (.ifCond .le 40) (40) 24 61 := ⟨by decide +kernel, rfl, rfl⟩
theorem d_Dbl_leadingZeros_24 : DC c_Dbl_leadingZeros 24 (.lload_n 3) 1 25 := ⟨by decide +kernel, rfl⟩
theorem d_Dbl_leadingZeros_25 : DC c_Dbl_leadingZeros 25 (.lconst 0) 1 26 := ⟨by decide +kernel, rfl⟩
theorem d_Dbl_leadingZeros_26 : DC c_Dbl_leadingZeros 26 (.lcmp) 1 27 := ⟨by decide +kernel, rfl⟩
theorem d_Dbl_leadingZeros_27 : DB c_Dbl_leadingZeros 27 (.ifCond .eq 34) (34) 30 61 := ⟨by decide +kernel, rfl, rfl⟩
theorem d_Dbl_leadingZeros_30 : DC c_Dbl_leadingZeros 30 (.lload_n 3) 1 31 := ⟨by decide +kernel, rfl⟩
theorem d_Dbl_leadingZeros_31 : DC c_Dbl_leadingZeros 31 (.bipush 64) 2 33 := ⟨by decide +kernel, rfl⟩
theorem d_Dbl_leadingZeros_33 : DC c_Dbl_leadingZeros 33 (.iload 5) 2 35 := ⟨by decide +kernel, rfl⟩
theorem d_Dbl_leadingZeros_35 : DC c_Dbl_leadingZeros 35 (.isub) 1 36 := ⟨by decide +kernel, rfl⟩
theorem d_Dbl_leadingZeros_36 : DC c_Dbl_leadingZeros 36 (.lushr) 1 37 := ⟨by decide +kernel, rfl⟩
theorem d_Dbl_leadingZeros_37 : DC c_Dbl_leadingZeros 37 (.lconst 0) 1 38 := ⟨by decide +kernel, rfl⟩
theorem d_Dbl_leadingZeros_38 : DC c_Dbl_leadingZeros 38 (.lcmp) 1 39 := ⟨by decide +kernel, rfl⟩
theorem d_Dbl_leadingZeros_39 : DB c_Dbl_leadingZeros 39 (.ifCond .ne 13) (13) 42 52 := ⟨by decide +kernel, rfl, rfl⟩
theorem d_Dbl_leadingZeros_42 : DC c_Dbl_leadingZeros 42 (.iload_n 2) 1 43 := ⟨by decide +kernel, rfl⟩
theorem d_Dbl_leadingZeros_43 : DC c_Dbl_leadingZeros 43 (.iload 5) 2 45 := ⟨by decide +kernel, rfl⟩
theorem d_Dbl_leadingZeros_45 : DC c_Dbl_leadingZeros 45 (.iadd) 1 46 := ⟨by decide +kernel, rfl⟩
theorem d_Dbl_leadingZeros_46 : DC c_Dbl_leadingZeros 46 (.istore_n 2) 1 47 := ⟨by decide +kernel, rfl⟩
theorem d_Dbl_leadingZeros_47 : DC c_Dbl_leadingZeros 47 (.lload_n 3) 1 48 := ⟨by decide +kernel, rfl⟩
theorem d_Dbl_leadingZeros_48 : DC c_Dbl_leadingZeros 48 (.iload 5) 2 50 := ⟨by decide +kernel, rfl⟩
theorem d_Dbl_leadingZeros_50 : DC c_Dbl_leadingZeros 50 (.lshl) 1 51 := ⟨by decide +kernel, rfl⟩
theorem d_Dbl_leadingZeros_51 : DC c_Dbl_leadingZeros 51 (.lstore_n 3) 1 52 := ⟨by decide +kernel, rfl⟩
theorem d_Dbl_leadingZeros_52 : DC c_Dbl_leadingZeros 52 (.iload 5) 2 54 := ⟨by decide +kernel, rfl⟩
theorem d_Dbl_leadingZeros_54 : DC c_Dbl_leadingZeros 54 (.iconst 1) 1 55 := ⟨by decide +kernel, rfl⟩
theorem d_Dbl_leadingZeros_55 : DC c_Dbl_leadingZeros 55 (.ishr) 1 56 := ⟨by decide +kernel, rfl⟩
theorem d_Dbl_leadingZeros_56 : DC c_Dbl_leadingZeros 56 (.istore 5) 2 58 := ⟨by decide +kernel, rfl⟩
theorem d_Dbl_leadingZeros_58 : DB c_Dbl_leadingZeros 58 (.goto (-39)) (-39) 61 19 := ⟨by decide +kernel, rfl, rfl⟩
theorem d_Dbl_leadingZeros_61 : DC c_Dbl_leadingZeros 61 (.iload_n 2) 1 62 := ⟨by decide +kernel, rfl⟩
theorem d_Dbl_leadingZeros_62 : DC c_Dbl_leadingZeros 62 (.ireturn) 1 63 := ⟨by decide +kernel, rfl⟩
theorem d_JD_isNaN_0 : DC c_JD_isNaN 0 (.dload_n 0) 1 1 := ⟨by decide +kernel, rfl⟩
theorem d_JD_isNaN_1 : DC c_JD_isNaN 1 (.dload_n 0) 1 2 := ⟨by decide +kernel, rfl⟩
theorem d_JD_isNaN_2 : DC c_JD_isNaN 2 (.dcmp .l) 1 3 := ⟨by decide +kernel, rfl⟩
theorem d_JD_isNaN_3 : DB c_JD_isNaN 3 (.ifCond .eq 7) (7) 6 10 := ⟨by decide +kernel, rfl, rfl⟩
theorem d_JD_isNaN_6 : DC c_JD_isNaN 6 (.iconst 1) 1 7 := ⟨by decide +kernel, rfl⟩
theorem d_JD_isNaN_7 : DB c_JD_isNaN 7 (.goto 4) (4) 10 11 := ⟨by decide +kernel, rfl, rfl⟩
theorem d_JD_isNaN_10 : DC c_JD_isNaN 10 (.iconst 0) 1 11 := ⟨by decide +kernel, rfl⟩
theorem d_JD_isNaN_11 : DC c_JD_isNaN 11 (.ireturn) 1 12 := ⟨by decide +kernel, rfl⟩
theorem d_JD_doubleToLongBits_0 : DC c_JD_doubleToLongBits 0 (.dload_n 0) 1 1 := ⟨by decide +kernel, rfl⟩
theorem d_JD_doubleToLongBits_1 : DC c_JD_doubleToLongBits 1 (.invokestatic 122) 3 4 := ⟨by decide +kernel, rfl⟩
theorem d_JD_doubleToLongBits_4 : DB c_JD_doubleToLongBits 4 (.ifCond .ne 8) (8) 7 12 := ⟨by decide +kernel, rfl, rfl⟩
theorem d_JD_doubleToLongBits_7 : DC c_JD_doubleToLongBits 7 (.dload_n 0) 1 8 := ⟨by decide +kernel, rfl⟩
theorem d_JD_doubleToLongBits_8 : DC c_JD_doubleToLongBits 8 (.invokestatic 134) 3 11 := ⟨by decide +kernel, rfl⟩
theorem d_JD_doubleToLongBits_11 : DC c_JD_doubleToLongBits 11 (.lreturn) 1 12 := ⟨by decide +kernel, rfl⟩
theorem d_JD_doubleToLongBits_12 : DC c_JD_doubleToLongBits 12 (.ldc2_w 137) 3 15 := ⟨by decide +kernel, rfl⟩
theorem d_JD_doubleToLongBits_15 : DC c_JD_doubleToLongBits 15 (.lreturn) 1 16 := ⟨by decide +kernel, rfl⟩
theorem d_JM_abs_0 : DC c_JM_abs 0 (.lload_n 0) 1 1 := ⟨by decide +kernel, rfl⟩
theorem d_JM_abs_1 : DC c_JM_abs 1 (.lconst 0) 1 2 := ⟨by decide +kernel, rfl⟩
theorem d_JM_abs_2 : DC c_JM_abs 2 (.lcmp) 1 3 := ⟨by decide +kernel, rfl⟩
theorem d_JM_abs_3 : DB c_JM_abs 3 (.ifCond .ge 8) (8) 6 11 := ⟨by decide +kernel, rfl, rfl⟩
theorem d_JM_abs_6 : DC c_JM_abs 6 (.lload_n 0) 1 7 := ⟨by decide +kernel, rfl⟩
theorem d_JM_abs_7 : DC c_JM_abs 7 (.lneg) 1 8 := ⟨by decide +kernel, rfl⟩
theorem d_JM_abs_8 : DB c_JM_abs 8 (.goto 4) (4) 11 12 := ⟨by decide +kernel, rfl, rfl⟩
theorem d_JM_abs_11 : DC c_JM_abs 11 (.lload_n 0) 1 12 := ⟨by decide +kernel, rfl⟩
theorem d_JM_abs_12 : DC c_JM_abs 12 (.lreturn) 1 13 := ⟨by decide +kernel, rfl⟩
theorem d_JM_max_0 : DC c_JM_max 0 (.iload_n 0) 1 1 := ⟨by decide +kernel, rfl⟩
theorem d_JM_max_1 : DC c_JM_max 1 (.iload_n 1) 1 2 := ⟨by decide +kernel, rfl⟩
theorem d_JM_max_2 : DB c_JM_max 2 (.if_icmp .lt 7) (7) 5 9 := ⟨by decide +kernel, rfl, rfl⟩
theorem d_JM_max_5 : DC c_JM_max 5 (.iload_n 0) 1 6 := ⟨by decide +kernel, rfl⟩
theorem d_JM_max_6 : DB c_JM_max 6 (.goto 4) (4) 9 10 := ⟨by decide +kernel, rfl, rfl⟩
theorem d_JM_max_9 : DC c_JM_max 9 (.iload_n 1) 1 10 := ⟨by decide +kernel, rfl⟩
theorem d_JM_max_10 : DC c_JM_max 10 (.ireturn) 1 11 := ⟨by decide +kernel, rfl⟩
theorem d_JM_min_0 : DC c_JM_min 0 (.iload_n 0) 1 1 := ⟨by decide +kernel, rfl⟩
theorem d_JM_min_1 : DC c_JM_min 1 (.iload_n 1) 1 2 := ⟨by decide +kernel, rfl⟩
theorem d_JM_min_2 : DB c_JM_min 2 (.if_icmp .gt 7) (7) 5 9 := ⟨by decide +kernel, rfl, rfl⟩
theorem d_JM_min_5 : DC c_JM_min 5 (.iload_n 0) 1 6 := ⟨by decide +kernel, rfl⟩
theorem d_JM_min_6 : DB c_JM_min 6 (.goto 4) (4) 9 10 := ⟨by decide +kernel, rfl, rfl⟩
theorem d_JM_min_9 : DC c_JM_min 9 (.iload_n 1) 1 10 := ⟨by decide +kernel, rfl⟩
theorem d_JM_min_10 : DC c_JM_min 10 (.ireturn) 1 11 := ⟨by decide +kernel, rfl⟩
end
