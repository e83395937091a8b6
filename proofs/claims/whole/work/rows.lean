section
-- ===== PART A: goes FIRST, ahead of the names: the tables' words, and 'selects' of the private methods out of them =====
/-- a private method of a class that the tables say can be made, by its rows of tables_1 -/
def lw_okq (q : MethodName × Nat) : Prop := (q.1.cls ≠ "java/lang/invoke/MethodHandle" ∧ q.1.cls ≠ "java/lang/invoke/VarHandle") ∧ Cond.instantiable q.1.cls q.2 ∈ tables_1 ∧ Cond.privateMethod q.1 ∈ tables_1 ∧ Cond.instanceMethod q.1 ∈ tables_1
theorem lw_p0 : lw_okq (⟨"CodeExchange", "answer", "(I)I"⟩, 17) := ⟨⟨by decide +kernel, by decide +kernel⟩, List.mem_of_getElem? (i := 18) (by decide +kernel), List.mem_of_getElem? (i := 424) (by decide +kernel), List.mem_of_getElem? (i := 425) (by decide +kernel)⟩
theorem lw_p1 : lw_okq (⟨"CodeExchange", "addPage", "(LCodeExchange$Page;)I"⟩, 17) := ⟨⟨by decide +kernel, by decide +kernel⟩, List.mem_of_getElem? (i := 18) (by decide +kernel), List.mem_of_getElem? (i := 428) (by decide +kernel), List.mem_of_getElem? (i := 429) (by decide +kernel)⟩
theorem lw_p2 : lw_okq (⟨"CodeExchange", "tableFinding", "(I)I"⟩, 17) := ⟨⟨by decide +kernel, by decide +kernel⟩, List.mem_of_getElem? (i := 18) (by decide +kernel), List.mem_of_getElem? (i := 436) (by decide +kernel), List.mem_of_getElem? (i := 437) (by decide +kernel)⟩
theorem lw_p3 : lw_okq (⟨"CodeExchange", "isPage", "(I)Z"⟩, 17) := ⟨⟨by decide +kernel, by decide +kernel⟩, List.mem_of_getElem? (i := 18) (by decide +kernel), List.mem_of_getElem? (i := 440) (by decide +kernel), List.mem_of_getElem? (i := 441) (by decide +kernel)⟩
theorem lw_p4 : lw_okq (⟨"CodeExchange", "openTableFinding", "(I)I"⟩, 17) := ⟨⟨by decide +kernel, by decide +kernel⟩, List.mem_of_getElem? (i := 18) (by decide +kernel), List.mem_of_getElem? (i := 464) (by decide +kernel), List.mem_of_getElem? (i := 465) (by decide +kernel)⟩
theorem lw_p5 : lw_okq (⟨"CodeExchange$Page", "clashes", "([I)Z"⟩, 10) := ⟨⟨by decide +kernel, by decide +kernel⟩, List.mem_of_getElem? (i := 90) (by decide +kernel), List.mem_of_getElem? (i := 520) (by decide +kernel), List.mem_of_getElem? (i := 521) (by decide +kernel)⟩
theorem lw_p6 : lw_okq (⟨"CodeExchange$Page", "clash", "(II)Z"⟩, 10) := ⟨⟨by decide +kernel, by decide +kernel⟩, List.mem_of_getElem? (i := 90) (by decide +kernel), List.mem_of_getElem? (i := 524) (by decide +kernel), List.mem_of_getElem? (i := 525) (by decide +kernel)⟩
theorem lw_p7 : lw_okq (⟨"CodeExchange$Page", "stateOf", "(I)I"⟩, 10) := ⟨⟨by decide +kernel, by decide +kernel⟩, List.mem_of_getElem? (i := 90) (by decide +kernel), List.mem_of_getElem? (i := 528) (by decide +kernel), List.mem_of_getElem? (i := 529) (by decide +kernel)⟩
theorem lw_p8 : lw_okq (⟨"CodeExchange$Page", "lengthOf", "(I)I"⟩, 10) := ⟨⟨by decide +kernel, by decide +kernel⟩, List.mem_of_getElem? (i := 90) (by decide +kernel), List.mem_of_getElem? (i := 532) (by decide +kernel), List.mem_of_getElem? (i := 533) (by decide +kernel)⟩
theorem lw_p9 : lw_okq (⟨"CodeExchange$Page", "textOf", "(I)I"⟩, 10) := ⟨⟨by decide +kernel, by decide +kernel⟩, List.mem_of_getElem? (i := 90) (by decide +kernel), List.mem_of_getElem? (i := 539) (by decide +kernel), List.mem_of_getElem? (i := 540) (by decide +kernel)⟩
theorem lw_p10 : lw_okq (⟨"CodeExchange$Page", "numberOf", "(I)I"⟩, 10) := ⟨⟨by decide +kernel, by decide +kernel⟩, List.mem_of_getElem? (i := 90) (by decide +kernel), List.mem_of_getElem? (i := 543) (by decide +kernel), List.mem_of_getElem? (i := 544) (by decide +kernel)⟩
theorem lw_p11 : lw_okq (⟨"CodeExchange$Page", "isUnsure", "([I)Z"⟩, 10) := ⟨⟨by decide +kernel, by decide +kernel⟩, List.mem_of_getElem? (i := 90) (by decide +kernel), List.mem_of_getElem? (i := 550) (by decide +kernel), List.mem_of_getElem? (i := 551) (by decide +kernel)⟩
theorem lw_p12 : lw_okq (⟨"CodeExchange$Page", "isStuck", "([I)Z"⟩, 10) := ⟨⟨by decide +kernel, by decide +kernel⟩, List.mem_of_getElem? (i := 90) (by decide +kernel), List.mem_of_getElem? (i := 559) (by decide +kernel), List.mem_of_getElem? (i := 560) (by decide +kernel)⟩
theorem lw_p13 : lw_okq (⟨"CodeExchange$Page", "isCutOff", "([I)Z"⟩, 10) := ⟨⟨by decide +kernel, by decide +kernel⟩, List.mem_of_getElem? (i := 90) (by decide +kernel), List.mem_of_getElem? (i := 571) (by decide +kernel), List.mem_of_getElem? (i := 572) (by decide +kernel)⟩
theorem lw_p14 : lw_okq (⟨"CodeExchange$Routes", "measure", "(LCodeExchange$Shifts;I)V"⟩, 4) := ⟨⟨by decide +kernel, by decide +kernel⟩, List.mem_of_getElem? (i := 96) (by decide +kernel), List.mem_of_getElem? (i := 587) (by decide +kernel), List.mem_of_getElem? (i := 588) (by decide +kernel)⟩
theorem lw_p15 : lw_okq (⟨"CodeExchange$Routes", "stepsBy", "(LCodeExchange$Shifts;II)I"⟩, 4) := ⟨⟨by decide +kernel, by decide +kernel⟩, List.mem_of_getElem? (i := 96) (by decide +kernel), List.mem_of_getElem? (i := 597) (by decide +kernel), List.mem_of_getElem? (i := 598) (by decide +kernel)⟩
def lw_privs_1 : List (MethodName × Nat) := [(⟨"CodeExchange", "answer", "(I)I"⟩, 17), (⟨"CodeExchange", "addPage", "(LCodeExchange$Page;)I"⟩, 17), (⟨"CodeExchange", "tableFinding", "(I)I"⟩, 17), (⟨"CodeExchange", "isPage", "(I)Z"⟩, 17), (⟨"CodeExchange", "openTableFinding", "(I)I"⟩, 17), (⟨"CodeExchange$Page", "clashes", "([I)Z"⟩, 10), (⟨"CodeExchange$Page", "clash", "(II)Z"⟩, 10), (⟨"CodeExchange$Page", "stateOf", "(I)I"⟩, 10), (⟨"CodeExchange$Page", "lengthOf", "(I)I"⟩, 10), (⟨"CodeExchange$Page", "textOf", "(I)I"⟩, 10), (⟨"CodeExchange$Page", "numberOf", "(I)I"⟩, 10), (⟨"CodeExchange$Page", "isUnsure", "([I)Z"⟩, 10), (⟨"CodeExchange$Page", "isStuck", "([I)Z"⟩, 10), (⟨"CodeExchange$Page", "isCutOff", "([I)Z"⟩, 10), (⟨"CodeExchange$Routes", "measure", "(LCodeExchange$Shifts;I)V"⟩, 4), (⟨"CodeExchange$Routes", "stepsBy", "(LCodeExchange$Shifts;II)I"⟩, 4)]
theorem lw_r1 : ∀ q ∈ lw_privs_1, lw_okq q := List.forall_mem_cons.mpr ⟨lw_p0, List.forall_mem_cons.mpr ⟨lw_p1, List.forall_mem_cons.mpr ⟨lw_p2, List.forall_mem_cons.mpr ⟨lw_p3, List.forall_mem_cons.mpr ⟨lw_p4, List.forall_mem_cons.mpr ⟨lw_p5, List.forall_mem_cons.mpr ⟨lw_p6, List.forall_mem_cons.mpr ⟨lw_p7, List.forall_mem_cons.mpr ⟨lw_p8, List.forall_mem_cons.mpr ⟨lw_p9, List.forall_mem_cons.mpr ⟨lw_p10, List.forall_mem_cons.mpr ⟨lw_p11, List.forall_mem_cons.mpr ⟨lw_p12, List.forall_mem_cons.mpr ⟨lw_p13, List.forall_mem_cons.mpr ⟨lw_p14, List.forall_mem_cons.mpr ⟨lw_p15, fun _ h => absurd h List.not_mem_nil⟩⟩⟩⟩⟩⟩⟩⟩⟩⟩⟩⟩⟩⟩⟩⟩
theorem lw_p16 : lw_okq (⟨"CodeExchange$Routes", "walk", "(LCodeExchange$Shifts;II)V"⟩, 4) := ⟨⟨by decide +kernel, by decide +kernel⟩, List.mem_of_getElem? (i := 96) (by decide +kernel), List.mem_of_getElem? (i := 602) (by decide +kernel), List.mem_of_getElem? (i := 603) (by decide +kernel)⟩
theorem lw_p17 : lw_okq (⟨"CodeExchange$Routes", "leastShift", "(LCodeExchange$Shifts;III)I"⟩, 4) := ⟨⟨by decide +kernel, by decide +kernel⟩, List.mem_of_getElem? (i := 96) (by decide +kernel), List.mem_of_getElem? (i := 609) (by decide +kernel), List.mem_of_getElem? (i := 610) (by decide +kernel)⟩
theorem lw_p18 : lw_okq (⟨"CodeExchange$Page", "chain", "(III)V"⟩, 10) := ⟨⟨by decide +kernel, by decide +kernel⟩, List.mem_of_getElem? (i := 90) (by decide +kernel), List.mem_of_getElem? (i := 614) (by decide +kernel), List.mem_of_getElem? (i := 615) (by decide +kernel)⟩
theorem lw_p19 : lw_okq (⟨"CodeExchange$Page", "sortIn", "(I)V"⟩, 10) := ⟨⟨by decide +kernel, by decide +kernel⟩, List.mem_of_getElem? (i := 90) (by decide +kernel), List.mem_of_getElem? (i := 618) (by decide +kernel), List.mem_of_getElem? (i := 619) (by decide +kernel)⟩
theorem lw_p20 : lw_okq (⟨"CodeExchange", "closedFinding", "(I)I"⟩, 17) := ⟨⟨by decide +kernel, by decide +kernel⟩, List.mem_of_getElem? (i := 18) (by decide +kernel), List.mem_of_getElem? (i := 630) (by decide +kernel), List.mem_of_getElem? (i := 631) (by decide +kernel)⟩
theorem lw_p21 : lw_okq (⟨"CodeExchange$Page", "placeFrom", "(I)I"⟩, 10) := ⟨⟨by decide +kernel, by decide +kernel⟩, List.mem_of_getElem? (i := 90) (by decide +kernel), List.mem_of_getElem? (i := 654) (by decide +kernel), List.mem_of_getElem? (i := 655) (by decide +kernel)⟩
theorem lw_p22 : lw_okq (⟨"CodeExchange", "resultTo", "(LCodeExchange$Row;I)I"⟩, 17) := ⟨⟨by decide +kernel, by decide +kernel⟩, List.mem_of_getElem? (i := 18) (by decide +kernel), List.mem_of_getElem? (i := 686) (by decide +kernel), List.mem_of_getElem? (i := 687) (by decide +kernel)⟩
theorem lw_p23 : lw_okq (⟨"CodeExchange", "readAll", "(LCodeExchange$Page;ILCodeExchange$Row;)I"⟩, 17) := ⟨⟨by decide +kernel, by decide +kernel⟩, List.mem_of_getElem? (i := 18) (by decide +kernel), List.mem_of_getElem? (i := 704) (by decide +kernel), List.mem_of_getElem? (i := 705) (by decide +kernel)⟩
theorem lw_p24 : lw_okq (⟨"CodeExchange$Page", "findItem", "(IZ[IIILCodeExchange$Found;)V"⟩, 10) := ⟨⟨by decide +kernel, by decide +kernel⟩, List.mem_of_getElem? (i := 90) (by decide +kernel), List.mem_of_getElem? (i := 765) (by decide +kernel), List.mem_of_getElem? (i := 766) (by decide +kernel)⟩
theorem lw_p25 : lw_okq (⟨"CodeExchange$Page", "tryEntry", "(I[IIILCodeExchange$Found;)V"⟩, 10) := ⟨⟨by decide +kernel, by decide +kernel⟩, List.mem_of_getElem? (i := 90) (by decide +kernel), List.mem_of_getElem? (i := 769) (by decide +kernel), List.mem_of_getElem? (i := 770) (by decide +kernel)⟩
theorem lw_p26 : lw_okq (⟨"CodeExchange$Reader", "passOver", "(ILCodeExchange$Row;)I"⟩, 7) := ⟨⟨by decide +kernel, by decide +kernel⟩, List.mem_of_getElem? (i := 223) (by decide +kernel), List.mem_of_getElem? (i := 790) (by decide +kernel), List.mem_of_getElem? (i := 791) (by decide +kernel)⟩
theorem lw_p27 : lw_okq (⟨"CodeExchange", "keepWork", "(II)I"⟩, 17) := ⟨⟨by decide +kernel, by decide +kernel⟩, List.mem_of_getElem? (i := 18) (by decide +kernel), List.mem_of_getElem? (i := 796) (by decide +kernel), List.mem_of_getElem? (i := 797) (by decide +kernel)⟩
theorem lw_p28 : lw_okq (⟨"CodeExchange", "writeAll", "(LCodeExchange$Row;)I"⟩, 17) := ⟨⟨by decide +kernel, by decide +kernel⟩, List.mem_of_getElem? (i := 18) (by decide +kernel), List.mem_of_getElem? (i := 812) (by decide +kernel), List.mem_of_getElem? (i := 813) (by decide +kernel)⟩
theorem lw_p29 : lw_okq (⟨"CodeExchange$Writer", "put", "(I)Z"⟩, 6) := ⟨⟨by decide +kernel, by decide +kernel⟩, List.mem_of_getElem? (i := 283) (by decide +kernel), List.mem_of_getElem? (i := 828) (by decide +kernel), List.mem_of_getElem? (i := 829) (by decide +kernel)⟩
theorem lw_p30 : lw_okq (⟨"CodeExchange$Writer", "shiftTo", "(I)V"⟩, 6) := ⟨⟨by decide +kernel, by decide +kernel⟩, List.mem_of_getElem? (i := 283) (by decide +kernel), List.mem_of_getElem? (i := 837) (by decide +kernel), List.mem_of_getElem? (i := 838) (by decide +kernel)⟩
theorem lw_p31 : lw_okq (⟨"CodeExchange$Writer", "spell", "(I)Z"⟩, 6) := ⟨⟨by decide +kernel, by decide +kernel⟩, List.mem_of_getElem? (i := 283) (by decide +kernel), List.mem_of_getElem? (i := 851) (by decide +kernel), List.mem_of_getElem? (i := 852) (by decide +kernel)⟩
def lw_privs_2 : List (MethodName × Nat) := [(⟨"CodeExchange$Routes", "walk", "(LCodeExchange$Shifts;II)V"⟩, 4), (⟨"CodeExchange$Routes", "leastShift", "(LCodeExchange$Shifts;III)I"⟩, 4), (⟨"CodeExchange$Page", "chain", "(III)V"⟩, 10), (⟨"CodeExchange$Page", "sortIn", "(I)V"⟩, 10), (⟨"CodeExchange", "closedFinding", "(I)I"⟩, 17), (⟨"CodeExchange$Page", "placeFrom", "(I)I"⟩, 10), (⟨"CodeExchange", "resultTo", "(LCodeExchange$Row;I)I"⟩, 17), (⟨"CodeExchange", "readAll", "(LCodeExchange$Page;ILCodeExchange$Row;)I"⟩, 17), (⟨"CodeExchange$Page", "findItem", "(IZ[IIILCodeExchange$Found;)V"⟩, 10), (⟨"CodeExchange$Page", "tryEntry", "(I[IIILCodeExchange$Found;)V"⟩, 10), (⟨"CodeExchange$Reader", "passOver", "(ILCodeExchange$Row;)I"⟩, 7), (⟨"CodeExchange", "keepWork", "(II)I"⟩, 17), (⟨"CodeExchange", "writeAll", "(LCodeExchange$Row;)I"⟩, 17), (⟨"CodeExchange$Writer", "put", "(I)Z"⟩, 6), (⟨"CodeExchange$Writer", "shiftTo", "(I)V"⟩, 6), (⟨"CodeExchange$Writer", "spell", "(I)Z"⟩, 6)]
theorem lw_r2 : ∀ q ∈ lw_privs_2, lw_okq q := List.forall_mem_cons.mpr ⟨lw_p16, List.forall_mem_cons.mpr ⟨lw_p17, List.forall_mem_cons.mpr ⟨lw_p18, List.forall_mem_cons.mpr ⟨lw_p19, List.forall_mem_cons.mpr ⟨lw_p20, List.forall_mem_cons.mpr ⟨lw_p21, List.forall_mem_cons.mpr ⟨lw_p22, List.forall_mem_cons.mpr ⟨lw_p23, List.forall_mem_cons.mpr ⟨lw_p24, List.forall_mem_cons.mpr ⟨lw_p25, List.forall_mem_cons.mpr ⟨lw_p26, List.forall_mem_cons.mpr ⟨lw_p27, List.forall_mem_cons.mpr ⟨lw_p28, List.forall_mem_cons.mpr ⟨lw_p29, List.forall_mem_cons.mpr ⟨lw_p30, List.forall_mem_cons.mpr ⟨lw_p31, fun _ h => absurd h List.not_mem_nil⟩⟩⟩⟩⟩⟩⟩⟩⟩⟩⟩⟩⟩⟩⟩⟩
theorem lw_p32 : lw_okq (⟨"CodeExchange$Rules", "slotOf", "(I)I"⟩, 7) := ⟨⟨by decide +kernel, by decide +kernel⟩, List.mem_of_getElem? (i := 57) (by decide +kernel), List.mem_of_getElem? (i := 859) (by decide +kernel), List.mem_of_getElem? (i := 860) (by decide +kernel)⟩
theorem lw_p33 : lw_okq (⟨"CodeExchange", "bothClosedFinding", "(II)I"⟩, 17) := ⟨⟨by decide +kernel, by decide +kernel⟩, List.mem_of_getElem? (i := 18) (by decide +kernel), List.mem_of_getElem? (i := 875) (by decide +kernel), List.mem_of_getElem? (i := 876) (by decide +kernel)⟩
theorem lw_p34 : lw_okq (⟨"CodeExchange", "unitsAreParts", "()Z"⟩, 17) := ⟨⟨by decide +kernel, by decide +kernel⟩, List.mem_of_getElem? (i := 18) (by decide +kernel), List.mem_of_getElem? (i := 892) (by decide +kernel), List.mem_of_getElem? (i := 893) (by decide +kernel)⟩
theorem lw_p35 : lw_okq (⟨"CodeExchange$Rules", "remove", "(I)V"⟩, 7) := ⟨⟨by decide +kernel, by decide +kernel⟩, List.mem_of_getElem? (i := 57) (by decide +kernel), List.mem_of_getElem? (i := 900) (by decide +kernel), List.mem_of_getElem? (i := 901) (by decide +kernel)⟩
theorem lw_p36 : lw_okq (⟨"CodeExchange$Rules", "copy", "(II)V"⟩, 7) := ⟨⟨by decide +kernel, by decide +kernel⟩, List.mem_of_getElem? (i := 57) (by decide +kernel), List.mem_of_getElem? (i := 904) (by decide +kernel), List.mem_of_getElem? (i := 905) (by decide +kernel)⟩
theorem lw_p37 : lw_okq (⟨"CodeExchange$Rules", "stage", "(ILCodeExchange$Row;)V"⟩, 7) := ⟨⟨by decide +kernel, by decide +kernel⟩, List.mem_of_getElem? (i := 57) (by decide +kernel), List.mem_of_getElem? (i := 909) (by decide +kernel), List.mem_of_getElem? (i := 910) (by decide +kernel)⟩
theorem lw_p38 : lw_okq (⟨"CodeExchange$Rules", "stagedFinding", "(I)I"⟩, 7) := ⟨⟨by decide +kernel, by decide +kernel⟩, List.mem_of_getElem? (i := 57) (by decide +kernel), List.mem_of_getElem? (i := 914) (by decide +kernel), List.mem_of_getElem? (i := 915) (by decide +kernel)⟩
theorem lw_p39 : lw_okq (⟨"CodeExchange$Rules", "stands", "(II)Z"⟩, 7) := ⟨⟨by decide +kernel, by decide +kernel⟩, List.mem_of_getElem? (i := 57) (by decide +kernel), List.mem_of_getElem? (i := 919) (by decide +kernel), List.mem_of_getElem? (i := 920) (by decide +kernel)⟩
theorem lw_p40 : lw_okq (⟨"CodeExchange$Rules", "wholeOf", "(I)I"⟩, 7) := ⟨⟨by decide +kernel, by decide +kernel⟩, List.mem_of_getElem? (i := 57) (by decide +kernel), List.mem_of_getElem? (i := 923) (by decide +kernel), List.mem_of_getElem? (i := 924) (by decide +kernel)⟩
theorem lw_p41 : lw_okq (⟨"CodeExchange", "goingFinding", "(I)I"⟩, 17) := ⟨⟨by decide +kernel, by decide +kernel⟩, List.mem_of_getElem? (i := 18) (by decide +kernel), List.mem_of_getElem? (i := 944) (by decide +kernel), List.mem_of_getElem? (i := 945) (by decide +kernel)⟩
theorem lw_p42 : lw_okq (⟨"CodeExchange$Machine", "writeOut", "(III)I"⟩, 12) := ⟨⟨by decide +kernel, by decide +kernel⟩, List.mem_of_getElem? (i := 312) (by decide +kernel), List.mem_of_getElem? (i := 954) (by decide +kernel), List.mem_of_getElem? (i := 955) (by decide +kernel)⟩
theorem lw_p43 : lw_okq (⟨"CodeExchange$Machine", "stopAt", "(II)I"⟩, 12) := ⟨⟨by decide +kernel, by decide +kernel⟩, List.mem_of_getElem? (i := 312) (by decide +kernel), List.mem_of_getElem? (i := 959) (by decide +kernel), List.mem_of_getElem? (i := 960) (by decide +kernel)⟩
theorem lw_p44 : lw_okq (⟨"CodeExchange$Machine", "pour", "(LCodeExchange$Row;)V"⟩, 12) := ⟨⟨by decide +kernel, by decide +kernel⟩, List.mem_of_getElem? (i := 312) (by decide +kernel), List.mem_of_getElem? (i := 963) (by decide +kernel), List.mem_of_getElem? (i := 964) (by decide +kernel)⟩
theorem lw_p45 : lw_okq (⟨"CodeExchange$Machine", "readKept", "(Z)I"⟩, 12) := ⟨⟨by decide +kernel, by decide +kernel⟩, List.mem_of_getElem? (i := 312) (by decide +kernel), List.mem_of_getElem? (i := 973) (by decide +kernel), List.mem_of_getElem? (i := 974) (by decide +kernel)⟩
theorem lw_p46 : lw_okq (⟨"CodeExchange", "fedAnswer", "(LCodeExchange$Machine;I)I"⟩, 17) := ⟨⟨by decide +kernel, by decide +kernel⟩, List.mem_of_getElem? (i := 18) (by decide +kernel), List.mem_of_getElem? (i := 980) (by decide +kernel), List.mem_of_getElem? (i := 981) (by decide +kernel)⟩
theorem lw_p47 : lw_okq (⟨"CodeExchange", "writtenApart", "(LCodeExchange$Page;LCodeExchange$Page;I)Z"⟩, 17) := ⟨⟨by decide +kernel, by decide +kernel⟩, List.mem_of_getElem? (i := 18) (by decide +kernel), List.mem_of_getElem? (i := 1031) (by decide +kernel), List.mem_of_getElem? (i := 1032) (by decide +kernel)⟩
def lw_privs_3 : List (MethodName × Nat) := [(⟨"CodeExchange$Rules", "slotOf", "(I)I"⟩, 7), (⟨"CodeExchange", "bothClosedFinding", "(II)I"⟩, 17), (⟨"CodeExchange", "unitsAreParts", "()Z"⟩, 17), (⟨"CodeExchange$Rules", "remove", "(I)V"⟩, 7), (⟨"CodeExchange$Rules", "copy", "(II)V"⟩, 7), (⟨"CodeExchange$Rules", "stage", "(ILCodeExchange$Row;)V"⟩, 7), (⟨"CodeExchange$Rules", "stagedFinding", "(I)I"⟩, 7), (⟨"CodeExchange$Rules", "stands", "(II)Z"⟩, 7), (⟨"CodeExchange$Rules", "wholeOf", "(I)I"⟩, 7), (⟨"CodeExchange", "goingFinding", "(I)I"⟩, 17), (⟨"CodeExchange$Machine", "writeOut", "(III)I"⟩, 12), (⟨"CodeExchange$Machine", "stopAt", "(II)I"⟩, 12), (⟨"CodeExchange$Machine", "pour", "(LCodeExchange$Row;)V"⟩, 12), (⟨"CodeExchange$Machine", "readKept", "(Z)I"⟩, 12), (⟨"CodeExchange", "fedAnswer", "(LCodeExchange$Machine;I)I"⟩, 17), (⟨"CodeExchange", "writtenApart", "(LCodeExchange$Page;LCodeExchange$Page;I)Z"⟩, 17)]
theorem lw_r3 : ∀ q ∈ lw_privs_3, lw_okq q := List.forall_mem_cons.mpr ⟨lw_p32, List.forall_mem_cons.mpr ⟨lw_p33, List.forall_mem_cons.mpr ⟨lw_p34, List.forall_mem_cons.mpr ⟨lw_p35, List.forall_mem_cons.mpr ⟨lw_p36, List.forall_mem_cons.mpr ⟨lw_p37, List.forall_mem_cons.mpr ⟨lw_p38, List.forall_mem_cons.mpr ⟨lw_p39, List.forall_mem_cons.mpr ⟨lw_p40, List.forall_mem_cons.mpr ⟨lw_p41, List.forall_mem_cons.mpr ⟨lw_p42, List.forall_mem_cons.mpr ⟨lw_p43, List.forall_mem_cons.mpr ⟨lw_p44, List.forall_mem_cons.mpr ⟨lw_p45, List.forall_mem_cons.mpr ⟨lw_p46, List.forall_mem_cons.mpr ⟨lw_p47, fun _ h => absurd h List.not_mem_nil⟩⟩⟩⟩⟩⟩⟩⟩⟩⟩⟩⟩⟩⟩⟩⟩
theorem lw_p48 : lw_okq (⟨"CodeExchange", "writeAlone", "(LCodeExchange$Page;ILCodeExchange$Row;)Z"⟩, 17) := ⟨⟨by decide +kernel, by decide +kernel⟩, List.mem_of_getElem? (i := 18) (by decide +kernel), List.mem_of_getElem? (i := 1035) (by decide +kernel), List.mem_of_getElem? (i := 1036) (by decide +kernel)⟩
theorem lw_p49 : lw_okq (⟨"CodeExchange", "malformedBytes", "(LCodeExchange$Page;)I"⟩, 17) := ⟨⟨by decide +kernel, by decide +kernel⟩, List.mem_of_getElem? (i := 18) (by decide +kernel), List.mem_of_getElem? (i := 1052) (by decide +kernel), List.mem_of_getElem? (i := 1053) (by decide +kernel)⟩
theorem lw_p50 : lw_okq (⟨"CodeExchange", "writtenLength", "(LCodeExchange$Page;I)I"⟩, 17) := ⟨⟨by decide +kernel, by decide +kernel⟩, List.mem_of_getElem? (i := 18) (by decide +kernel), List.mem_of_getElem? (i := 1064) (by decide +kernel), List.mem_of_getElem? (i := 1065) (by decide +kernel)⟩
theorem lw_p51 : lw_okq (⟨"CodeExchangeModel", "tell", "(I)I"⟩, 69) := ⟨⟨by decide +kernel, by decide +kernel⟩, List.mem_of_getElem? (i := 1119) (by decide +kernel), List.mem_of_getElem? (i := 1341) (by decide +kernel), List.mem_of_getElem? (i := 1342) (by decide +kernel)⟩
theorem lw_p52 : lw_okq (⟨"CodeExchangeModel", "isPage", "(I)Z"⟩, 69) := ⟨⟨by decide +kernel, by decide +kernel⟩, List.mem_of_getElem? (i := 1119) (by decide +kernel), List.mem_of_getElem? (i := 1349) (by decide +kernel), List.mem_of_getElem? (i := 1350) (by decide +kernel)⟩
theorem lw_p53 : lw_okq (⟨"CodeExchangeModel", "copyEntry", "(II)V"⟩, 69) := ⟨⟨by decide +kernel, by decide +kernel⟩, List.mem_of_getElem? (i := 1119) (by decide +kernel), List.mem_of_getElem? (i := 1353) (by decide +kernel), List.mem_of_getElem? (i := 1354) (by decide +kernel)⟩
theorem lw_p54 : lw_okq (⟨"CodeExchangeModel", "copyShift", "(II)V"⟩, 69) := ⟨⟨by decide +kernel, by decide +kernel⟩, List.mem_of_getElem? (i := 1119) (by decide +kernel), List.mem_of_getElem? (i := 1357) (by decide +kernel), List.mem_of_getElem? (i := 1358) (by decide +kernel)⟩
theorem lw_p55 : lw_okq (⟨"CodeExchangeModel", "fixed", "(I)I"⟩, 69) := ⟨⟨by decide +kernel, by decide +kernel⟩, List.mem_of_getElem? (i := 1119) (by decide +kernel), List.mem_of_getElem? (i := 1365) (by decide +kernel), List.mem_of_getElem? (i := 1366) (by decide +kernel)⟩
theorem lw_p56 : lw_okq (⟨"CodeExchangeModel", "entryOf", "(IIII)I"⟩, 69) := ⟨⟨by decide +kernel, by decide +kernel⟩, List.mem_of_getElem? (i := 1119) (by decide +kernel), List.mem_of_getElem? (i := 1378) (by decide +kernel), List.mem_of_getElem? (i := 1379) (by decide +kernel)⟩
theorem lw_p57 : lw_okq (⟨"CodeExchangeModel", "shiftOf", "(III)I"⟩, 69) := ⟨⟨by decide +kernel, by decide +kernel⟩, List.mem_of_getElem? (i := 1119) (by decide +kernel), List.mem_of_getElem? (i := 1386) (by decide +kernel), List.mem_of_getElem? (i := 1387) (by decide +kernel)⟩
theorem lw_p58 : lw_okq (⟨"CodeExchangeModel", "isGood", "(I)Z"⟩, 69) := ⟨⟨by decide +kernel, by decide +kernel⟩, List.mem_of_getElem? (i := 1119) (by decide +kernel), List.mem_of_getElem? (i := 1398) (by decide +kernel), List.mem_of_getElem? (i := 1399) (by decide +kernel)⟩
theorem lw_p59 : lw_okq (⟨"CodeExchangeModel", "stateOf", "(II)I"⟩, 69) := ⟨⟨by decide +kernel, by decide +kernel⟩, List.mem_of_getElem? (i := 1119) (by decide +kernel), List.mem_of_getElem? (i := 1402) (by decide +kernel), List.mem_of_getElem? (i := 1403) (by decide +kernel)⟩
theorem lw_p60 : lw_okq (⟨"CodeExchangeModel", "begins", "(III)Z"⟩, 69) := ⟨⟨by decide +kernel, by decide +kernel⟩, List.mem_of_getElem? (i := 1119) (by decide +kernel), List.mem_of_getElem? (i := 1406) (by decide +kernel), List.mem_of_getElem? (i := 1407) (by decide +kernel)⟩
theorem lw_p61 : lw_okq (⟨"CodeExchangeModel", "manyOf", "(II)I"⟩, 69) := ⟨⟨by decide +kernel, by decide +kernel⟩, List.mem_of_getElem? (i := 1119) (by decide +kernel), List.mem_of_getElem? (i := 1410) (by decide +kernel), List.mem_of_getElem? (i := 1411) (by decide +kernel)⟩
theorem lw_p62 : lw_okq (⟨"CodeExchangeModel", "bytesOf", "(II)I"⟩, 69) := ⟨⟨by decide +kernel, by decide +kernel⟩, List.mem_of_getElem? (i := 1119) (by decide +kernel), List.mem_of_getElem? (i := 1414) (by decide +kernel), List.mem_of_getElem? (i := 1415) (by decide +kernel)⟩
theorem lw_p63 : lw_okq (⟨"CodeExchangeModel", "numberOf", "(II)I"⟩, 69) := ⟨⟨by decide +kernel, by decide +kernel⟩, List.mem_of_getElem? (i := 1119) (by decide +kernel), List.mem_of_getElem? (i := 1418) (by decide +kernel), List.mem_of_getElem? (i := 1419) (by decide +kernel)⟩
def lw_privs_4 : List (MethodName × Nat) := [(⟨"CodeExchange", "writeAlone", "(LCodeExchange$Page;ILCodeExchange$Row;)Z"⟩, 17), (⟨"CodeExchange", "malformedBytes", "(LCodeExchange$Page;)I"⟩, 17), (⟨"CodeExchange", "writtenLength", "(LCodeExchange$Page;I)I"⟩, 17), (⟨"CodeExchangeModel", "tell", "(I)I"⟩, 69), (⟨"CodeExchangeModel", "isPage", "(I)Z"⟩, 69), (⟨"CodeExchangeModel", "copyEntry", "(II)V"⟩, 69), (⟨"CodeExchangeModel", "copyShift", "(II)V"⟩, 69), (⟨"CodeExchangeModel", "fixed", "(I)I"⟩, 69), (⟨"CodeExchangeModel", "entryOf", "(IIII)I"⟩, 69), (⟨"CodeExchangeModel", "shiftOf", "(III)I"⟩, 69), (⟨"CodeExchangeModel", "isGood", "(I)Z"⟩, 69), (⟨"CodeExchangeModel", "stateOf", "(II)I"⟩, 69), (⟨"CodeExchangeModel", "begins", "(III)Z"⟩, 69), (⟨"CodeExchangeModel", "manyOf", "(II)I"⟩, 69), (⟨"CodeExchangeModel", "bytesOf", "(II)I"⟩, 69), (⟨"CodeExchangeModel", "numberOf", "(II)I"⟩, 69)]
theorem lw_r4 : ∀ q ∈ lw_privs_4, lw_okq q := List.forall_mem_cons.mpr ⟨lw_p48, List.forall_mem_cons.mpr ⟨lw_p49, List.forall_mem_cons.mpr ⟨lw_p50, List.forall_mem_cons.mpr ⟨lw_p51, List.forall_mem_cons.mpr ⟨lw_p52, List.forall_mem_cons.mpr ⟨lw_p53, List.forall_mem_cons.mpr ⟨lw_p54, List.forall_mem_cons.mpr ⟨lw_p55, List.forall_mem_cons.mpr ⟨lw_p56, List.forall_mem_cons.mpr ⟨lw_p57, List.forall_mem_cons.mpr ⟨lw_p58, List.forall_mem_cons.mpr ⟨lw_p59, List.forall_mem_cons.mpr ⟨lw_p60, List.forall_mem_cons.mpr ⟨lw_p61, List.forall_mem_cons.mpr ⟨lw_p62, List.forall_mem_cons.mpr ⟨lw_p63, fun _ h => absurd h List.not_mem_nil⟩⟩⟩⟩⟩⟩⟩⟩⟩⟩⟩⟩⟩⟩⟩⟩
theorem lw_p64 : lw_okq (⟨"CodeExchangeModel", "breaks", "(III)Z"⟩, 69) := ⟨⟨by decide +kernel, by decide +kernel⟩, List.mem_of_getElem? (i := 1119) (by decide +kernel), List.mem_of_getElem? (i := 1422) (by decide +kernel), List.mem_of_getElem? (i := 1423) (by decide +kernel)⟩
theorem lw_p65 : lw_okq (⟨"CodeExchangeModel", "reach", "(I)V"⟩, 69) := ⟨⟨by decide +kernel, by decide +kernel⟩, List.mem_of_getElem? (i := 1119) (by decide +kernel), List.mem_of_getElem? (i := 1426) (by decide +kernel), List.mem_of_getElem? (i := 1427) (by decide +kernel)⟩
theorem lw_p66 : lw_okq (⟨"CodeExchangeModel", "comesHome", "(II)Z"⟩, 69) := ⟨⟨by decide +kernel, by decide +kernel⟩, List.mem_of_getElem? (i := 1119) (by decide +kernel), List.mem_of_getElem? (i := 1430) (by decide +kernel), List.mem_of_getElem? (i := 1431) (by decide +kernel)⟩
theorem lw_p67 : lw_okq (⟨"CodeExchangeModel", "find", "(II)Z"⟩, 69) := ⟨⟨by decide +kernel, by decide +kernel⟩, List.mem_of_getElem? (i := 1119) (by decide +kernel), List.mem_of_getElem? (i := 1442) (by decide +kernel), List.mem_of_getElem? (i := 1443) (by decide +kernel)⟩
theorem lw_p68 : lw_okq (⟨"CodeExchangeModel", "text", "(IJ)V"⟩, 69) := ⟨⟨by decide +kernel, by decide +kernel⟩, List.mem_of_getElem? (i := 1119) (by decide +kernel), List.mem_of_getElem? (i := 1447) (by decide +kernel), List.mem_of_getElem? (i := 1448) (by decide +kernel)⟩
theorem lw_p69 : lw_okq (⟨"CodeExchangeModel", "few", "(I)V"⟩, 69) := ⟨⟨by decide +kernel, by decide +kernel⟩, List.mem_of_getElem? (i := 1119) (by decide +kernel), List.mem_of_getElem? (i := 1462) (by decide +kernel), List.mem_of_getElem? (i := 1463) (by decide +kernel)⟩
theorem lw_p70 : lw_okq (⟨"CodeExchangeModel", "readAll", "(II[I)I"⟩, 69) := ⟨⟨by decide +kernel, by decide +kernel⟩, List.mem_of_getElem? (i := 1119) (by decide +kernel), List.mem_of_getElem? (i := 1483) (by decide +kernel), List.mem_of_getElem? (i := 1484) (by decide +kernel)⟩
theorem lw_p71 : lw_okq (⟨"CodeExchangeModel", "readOne", "(II[IIIZ)I"⟩, 69) := ⟨⟨by decide +kernel, by decide +kernel⟩, List.mem_of_getElem? (i := 1119) (by decide +kernel), List.mem_of_getElem? (i := 1487) (by decide +kernel), List.mem_of_getElem? (i := 1488) (by decide +kernel)⟩
theorem lw_p72 : lw_okq (⟨"CodeExchangeModel", "look", "(I[III)I"⟩, 69) := ⟨⟨by decide +kernel, by decide +kernel⟩, List.mem_of_getElem? (i := 1119) (by decide +kernel), List.mem_of_getElem? (i := 1491) (by decide +kernel), List.mem_of_getElem? (i := 1492) (by decide +kernel)⟩
theorem lw_p73 : lw_okq (⟨"CodeExchangeModel", "lookFew", "([III)I"⟩, 69) := ⟨⟨by decide +kernel, by decide +kernel⟩, List.mem_of_getElem? (i := 1119) (by decide +kernel), List.mem_of_getElem? (i := 1495) (by decide +kernel), List.mem_of_getElem? (i := 1496) (by decide +kernel)⟩
theorem lw_p74 : lw_okq (⟨"CodeExchangeModel", "lookUnits", "(Z[III)I"⟩, 69) := ⟨⟨by decide +kernel, by decide +kernel⟩, List.mem_of_getElem? (i := 1119) (by decide +kernel), List.mem_of_getElem? (i := 1499) (by decide +kernel), List.mem_of_getElem? (i := 1500) (by decide +kernel)⟩
theorem lw_p75 : lw_okq (⟨"CodeExchangeModel", "putUnits", "(I)V"⟩, 69) := ⟨⟨by decide +kernel, by decide +kernel⟩, List.mem_of_getElem? (i := 1119) (by decide +kernel), List.mem_of_getElem? (i := 1510) (by decide +kernel), List.mem_of_getElem? (i := 1511) (by decide +kernel)⟩
theorem lw_p76 : lw_okq (⟨"CodeExchangeModel", "put", "(I)V"⟩, 69) := ⟨⟨by decide +kernel, by decide +kernel⟩, List.mem_of_getElem? (i := 1119) (by decide +kernel), List.mem_of_getElem? (i := 1514) (by decide +kernel), List.mem_of_getElem? (i := 1515) (by decide +kernel)⟩
theorem lw_p77 : lw_okq (⟨"CodeExchangeModel", "resultOf", "([III)I"⟩, 69) := ⟨⟨by decide +kernel, by decide +kernel⟩, List.mem_of_getElem? (i := 1119) (by decide +kernel), List.mem_of_getElem? (i := 1518) (by decide +kernel), List.mem_of_getElem? (i := 1519) (by decide +kernel)⟩
theorem lw_p78 : lw_okq (⟨"CodeExchangeModel", "writeAll", "(II[IIII)I"⟩, 69) := ⟨⟨by decide +kernel, by decide +kernel⟩, List.mem_of_getElem? (i := 1119) (by decide +kernel), List.mem_of_getElem? (i := 1526) (by decide +kernel), List.mem_of_getElem? (i := 1527) (by decide +kernel)⟩
theorem lw_p79 : lw_okq (⟨"CodeExchangeModel", "writePoint", "(III)I"⟩, 69) := ⟨⟨by decide +kernel, by decide +kernel⟩, List.mem_of_getElem? (i := 1119) (by decide +kernel), List.mem_of_getElem? (i := 1530) (by decide +kernel), List.mem_of_getElem? (i := 1531) (by decide +kernel)⟩
def lw_privs_5 : List (MethodName × Nat) := [(⟨"CodeExchangeModel", "breaks", "(III)Z"⟩, 69), (⟨"CodeExchangeModel", "reach", "(I)V"⟩, 69), (⟨"CodeExchangeModel", "comesHome", "(II)Z"⟩, 69), (⟨"CodeExchangeModel", "find", "(II)Z"⟩, 69), (⟨"CodeExchangeModel", "text", "(IJ)V"⟩, 69), (⟨"CodeExchangeModel", "few", "(I)V"⟩, 69), (⟨"CodeExchangeModel", "readAll", "(II[I)I"⟩, 69), (⟨"CodeExchangeModel", "readOne", "(II[IIIZ)I"⟩, 69), (⟨"CodeExchangeModel", "look", "(I[III)I"⟩, 69), (⟨"CodeExchangeModel", "lookFew", "([III)I"⟩, 69), (⟨"CodeExchangeModel", "lookUnits", "(Z[III)I"⟩, 69), (⟨"CodeExchangeModel", "putUnits", "(I)V"⟩, 69), (⟨"CodeExchangeModel", "put", "(I)V"⟩, 69), (⟨"CodeExchangeModel", "resultOf", "([III)I"⟩, 69), (⟨"CodeExchangeModel", "writeAll", "(II[IIII)I"⟩, 69), (⟨"CodeExchangeModel", "writePoint", "(III)I"⟩, 69)]
theorem lw_r5 : ∀ q ∈ lw_privs_5, lw_okq q := List.forall_mem_cons.mpr ⟨lw_p64, List.forall_mem_cons.mpr ⟨lw_p65, List.forall_mem_cons.mpr ⟨lw_p66, List.forall_mem_cons.mpr ⟨lw_p67, List.forall_mem_cons.mpr ⟨lw_p68, List.forall_mem_cons.mpr ⟨lw_p69, List.forall_mem_cons.mpr ⟨lw_p70, List.forall_mem_cons.mpr ⟨lw_p71, List.forall_mem_cons.mpr ⟨lw_p72, List.forall_mem_cons.mpr ⟨lw_p73, List.forall_mem_cons.mpr ⟨lw_p74, List.forall_mem_cons.mpr ⟨lw_p75, List.forall_mem_cons.mpr ⟨lw_p76, List.forall_mem_cons.mpr ⟨lw_p77, List.forall_mem_cons.mpr ⟨lw_p78, List.forall_mem_cons.mpr ⟨lw_p79, fun _ h => absurd h List.not_mem_nil⟩⟩⟩⟩⟩⟩⟩⟩⟩⟩⟩⟩⟩⟩⟩⟩
theorem lw_p80 : lw_okq (⟨"CodeExchangeModel", "putPoint", "(I)I"⟩, 69) := ⟨⟨by decide +kernel, by decide +kernel⟩, List.mem_of_getElem? (i := 1119) (by decide +kernel), List.mem_of_getElem? (i := 1534) (by decide +kernel), List.mem_of_getElem? (i := 1535) (by decide +kernel)⟩
theorem lw_p81 : lw_okq (⟨"CodeExchangeModel", "go", "(IIZ)I"⟩, 69) := ⟨⟨by decide +kernel, by decide +kernel⟩, List.mem_of_getElem? (i := 1119) (by decide +kernel), List.mem_of_getElem? (i := 1538) (by decide +kernel), List.mem_of_getElem? (i := 1539) (by decide +kernel)⟩
theorem lw_p82 : lw_okq (⟨"CodeExchangeModel", "leads", "(IIIIZ)Z"⟩, 69) := ⟨⟨by decide +kernel, by decide +kernel⟩, List.mem_of_getElem? (i := 1119) (by decide +kernel), List.mem_of_getElem? (i := 1542) (by decide +kernel), List.mem_of_getElem? (i := 1543) (by decide +kernel)⟩
theorem lw_p83 : lw_okq (⟨"CodeExchangeModel", "putByte", "(I)I"⟩, 69) := ⟨⟨by decide +kernel, by decide +kernel⟩, List.mem_of_getElem? (i := 1119) (by decide +kernel), List.mem_of_getElem? (i := 1546) (by decide +kernel), List.mem_of_getElem? (i := 1547) (by decide +kernel)⟩
theorem lw_p84 : lw_okq (⟨"CodeExchangeModel", "falls", "(II)Z"⟩, 69) := ⟨⟨by decide +kernel, by decide +kernel⟩, List.mem_of_getElem? (i := 1119) (by decide +kernel), List.mem_of_getElem? (i := 1550) (by decide +kernel), List.mem_of_getElem? (i := 1551) (by decide +kernel)⟩
theorem lw_p85 : lw_okq (⟨"CodeExchangeModel", "fallbackOf", "(I)I"⟩, 69) := ⟨⟨by decide +kernel, by decide +kernel⟩, List.mem_of_getElem? (i := 1119) (by decide +kernel), List.mem_of_getElem? (i := 1554) (by decide +kernel), List.mem_of_getElem? (i := 1555) (by decide +kernel)⟩
theorem lw_p86 : lw_okq (⟨"CodeExchangeModel", "fall", "(II)I"⟩, 69) := ⟨⟨by decide +kernel, by decide +kernel⟩, List.mem_of_getElem? (i := 1119) (by decide +kernel), List.mem_of_getElem? (i := 1558) (by decide +kernel), List.mem_of_getElem? (i := 1559) (by decide +kernel)⟩
theorem lw_p87 : lw_okq (⟨"CodeExchangeModel", "writeLone", "(III)I"⟩, 69) := ⟨⟨by decide +kernel, by decide +kernel⟩, List.mem_of_getElem? (i := 1119) (by decide +kernel), List.mem_of_getElem? (i := 1562) (by decide +kernel), List.mem_of_getElem? (i := 1563) (by decide +kernel)⟩
theorem lw_p88 : lw_okq (⟨"CodeExchangeModel", "goHome", "(I)I"⟩, 69) := ⟨⟨by decide +kernel, by decide +kernel⟩, List.mem_of_getElem? (i := 1119) (by decide +kernel), List.mem_of_getElem? (i := 1567) (by decide +kernel), List.mem_of_getElem? (i := 1568) (by decide +kernel)⟩
theorem lw_p89 : lw_okq (⟨"CodeExchangeModel", "comesBack", "(I)Z"⟩, 69) := ⟨⟨by decide +kernel, by decide +kernel⟩, List.mem_of_getElem? (i := 1119) (by decide +kernel), List.mem_of_getElem? (i := 1587) (by decide +kernel), List.mem_of_getElem? (i := 1588) (by decide +kernel)⟩
theorem lw_p90 : lw_okq (⟨"CodeExchangeModel", "length", "(I[I)I"⟩, 69) := ⟨⟨by decide +kernel, by decide +kernel⟩, List.mem_of_getElem? (i := 1119) (by decide +kernel), List.mem_of_getElem? (i := 1591) (by decide +kernel), List.mem_of_getElem? (i := 1592) (by decide +kernel)⟩
theorem lw_p91 : lw_okq (⟨"CodeExchangeModel", "writes", "(II)I"⟩, 69) := ⟨⟨by decide +kernel, by decide +kernel⟩, List.mem_of_getElem? (i := 1119) (by decide +kernel), List.mem_of_getElem? (i := 1604) (by decide +kernel), List.mem_of_getElem? (i := 1605) (by decide +kernel)⟩
theorem lw_p92 : lw_okq (⟨"CodeExchangeModel", "load", "(I)V"⟩, 69) := ⟨⟨by decide +kernel, by decide +kernel⟩, List.mem_of_getElem? (i := 1119) (by decide +kernel), List.mem_of_getElem? (i := 1608) (by decide +kernel), List.mem_of_getElem? (i := 1609) (by decide +kernel)⟩
theorem lw_p93 : lw_okq (⟨"CodeExchangeModel", "store", "(III)I"⟩, 69) := ⟨⟨by decide +kernel, by decide +kernel⟩, List.mem_of_getElem? (i := 1119) (by decide +kernel), List.mem_of_getElem? (i := 1612) (by decide +kernel), List.mem_of_getElem? (i := 1613) (by decide +kernel)⟩
theorem lw_p94 : lw_okq (⟨"CodeExchangeModel", "reads", "(IZ)I"⟩, 69) := ⟨⟨by decide +kernel, by decide +kernel⟩, List.mem_of_getElem? (i := 1119) (by decide +kernel), List.mem_of_getElem? (i := 1616) (by decide +kernel), List.mem_of_getElem? (i := 1617) (by decide +kernel)⟩
theorem lw_p95 : lw_okq (⟨"CodeExchangeModel", "aloneOf", "(II)I"⟩, 69) := ⟨⟨by decide +kernel, by decide +kernel⟩, List.mem_of_getElem? (i := 1119) (by decide +kernel), List.mem_of_getElem? (i := 1640) (by decide +kernel), List.mem_of_getElem? (i := 1641) (by decide +kernel)⟩
def lw_privs_6 : List (MethodName × Nat) := [(⟨"CodeExchangeModel", "putPoint", "(I)I"⟩, 69), (⟨"CodeExchangeModel", "go", "(IIZ)I"⟩, 69), (⟨"CodeExchangeModel", "leads", "(IIIIZ)Z"⟩, 69), (⟨"CodeExchangeModel", "putByte", "(I)I"⟩, 69), (⟨"CodeExchangeModel", "falls", "(II)Z"⟩, 69), (⟨"CodeExchangeModel", "fallbackOf", "(I)I"⟩, 69), (⟨"CodeExchangeModel", "fall", "(II)I"⟩, 69), (⟨"CodeExchangeModel", "writeLone", "(III)I"⟩, 69), (⟨"CodeExchangeModel", "goHome", "(I)I"⟩, 69), (⟨"CodeExchangeModel", "comesBack", "(I)Z"⟩, 69), (⟨"CodeExchangeModel", "length", "(I[I)I"⟩, 69), (⟨"CodeExchangeModel", "writes", "(II)I"⟩, 69), (⟨"CodeExchangeModel", "load", "(I)V"⟩, 69), (⟨"CodeExchangeModel", "store", "(III)I"⟩, 69), (⟨"CodeExchangeModel", "reads", "(IZ)I"⟩, 69), (⟨"CodeExchangeModel", "aloneOf", "(II)I"⟩, 69)]
theorem lw_r6 : ∀ q ∈ lw_privs_6, lw_okq q := List.forall_mem_cons.mpr ⟨lw_p80, List.forall_mem_cons.mpr ⟨lw_p81, List.forall_mem_cons.mpr ⟨lw_p82, List.forall_mem_cons.mpr ⟨lw_p83, List.forall_mem_cons.mpr ⟨lw_p84, List.forall_mem_cons.mpr ⟨lw_p85, List.forall_mem_cons.mpr ⟨lw_p86, List.forall_mem_cons.mpr ⟨lw_p87, List.forall_mem_cons.mpr ⟨lw_p88, List.forall_mem_cons.mpr ⟨lw_p89, List.forall_mem_cons.mpr ⟨lw_p90, List.forall_mem_cons.mpr ⟨lw_p91, List.forall_mem_cons.mpr ⟨lw_p92, List.forall_mem_cons.mpr ⟨lw_p93, List.forall_mem_cons.mpr ⟨lw_p94, List.forall_mem_cons.mpr ⟨lw_p95, fun _ h => absurd h List.not_mem_nil⟩⟩⟩⟩⟩⟩⟩⟩⟩⟩⟩⟩⟩⟩⟩⟩
theorem lw_p96 : lw_okq (⟨"CodeExchangeModel", "sumOf", "([II)I"⟩, 69) := ⟨⟨by decide +kernel, by decide +kernel⟩, List.mem_of_getElem? (i := 1119) (by decide +kernel), List.mem_of_getElem? (i := 1665) (by decide +kernel), List.mem_of_getElem? (i := 1666) (by decide +kernel)⟩
theorem lw_p97 : lw_okq (⟨"CodeExchangeModel", "takeIn", "(I)Z"⟩, 69) := ⟨⟨by decide +kernel, by decide +kernel⟩, List.mem_of_getElem? (i := 1119) (by decide +kernel), List.mem_of_getElem? (i := 1674) (by decide +kernel), List.mem_of_getElem? (i := 1675) (by decide +kernel)⟩
theorem lw_p98 : lw_okq (⟨"CodeExchangeModel", "next", "()I"⟩, 69) := ⟨⟨by decide +kernel, by decide +kernel⟩, List.mem_of_getElem? (i := 1119) (by decide +kernel), List.mem_of_getElem? (i := 1678) (by decide +kernel), List.mem_of_getElem? (i := 1679) (by decide +kernel)⟩
theorem lw_p99 : lw_okq (⟨"CodeExchangeModel", "takeEntry", "(I)Z"⟩, 69) := ⟨⟨by decide +kernel, by decide +kernel⟩, List.mem_of_getElem? (i := 1119) (by decide +kernel), List.mem_of_getElem? (i := 1682) (by decide +kernel), List.mem_of_getElem? (i := 1683) (by decide +kernel)⟩
theorem lw_p100 : lw_okq (⟨"CodeExchangeModel", "takeShift", "(I)Z"⟩, 69) := ⟨⟨by decide +kernel, by decide +kernel⟩, List.mem_of_getElem? (i := 1119) (by decide +kernel), List.mem_of_getElem? (i := 1686) (by decide +kernel), List.mem_of_getElem? (i := 1687) (by decide +kernel)⟩
def lw_privs_7 : List (MethodName × Nat) := [(⟨"CodeExchangeModel", "sumOf", "([II)I"⟩, 69), (⟨"CodeExchangeModel", "takeIn", "(I)Z"⟩, 69), (⟨"CodeExchangeModel", "next", "()I"⟩, 69), (⟨"CodeExchangeModel", "takeEntry", "(I)Z"⟩, 69), (⟨"CodeExchangeModel", "takeShift", "(I)Z"⟩, 69)]
theorem lw_r7 : ∀ q ∈ lw_privs_7, lw_okq q := List.forall_mem_cons.mpr ⟨lw_p96, List.forall_mem_cons.mpr ⟨lw_p97, List.forall_mem_cons.mpr ⟨lw_p98, List.forall_mem_cons.mpr ⟨lw_p99, List.forall_mem_cons.mpr ⟨lw_p100, fun _ h => absurd h List.not_mem_nil⟩⟩⟩⟩⟩
def lw_privs : List (MethodName × Nat) := lw_privs_1 ++ (lw_privs_2 ++ (lw_privs_3 ++ (lw_privs_4 ++ (lw_privs_5 ++ (lw_privs_6 ++ (lw_privs_7))))))
def lw_tbl : List Cond := k2_sels lw_privs ++ tables_1
theorem lw_privs_ok : ∀ q ∈ lw_privs, lw_okq q := by
  show ∀ q ∈ lw_privs_1 ++ (lw_privs_2 ++ (lw_privs_3 ++ (lw_privs_4 ++ (lw_privs_5 ++ (lw_privs_6 ++ (lw_privs_7)))))), lw_okq q
  exact List.forall_mem_append.mpr ⟨lw_r1, List.forall_mem_append.mpr ⟨lw_r2, List.forall_mem_append.mpr ⟨lw_r3, List.forall_mem_append.mpr ⟨lw_r4, List.forall_mem_append.mpr ⟨lw_r5, List.forall_mem_append.mpr ⟨lw_r6, lw_r7⟩⟩⟩⟩⟩⟩
end
section
def RX0 : String := "CodeExchange$Entries"
def TX0 : u_T := fun k => match k with
  | 0 => ("CodeExchange$Entries", "states", "[I", true)
  | 1 => ("CodeExchange$Entries", "texts", "[I", true)
  | 2 => ("CodeExchange$Entries", "lengths", "[I", true)
  | 3 => ("CodeExchange$Entries", "points", "[I", true)
  | 4 => ("CodeExchange$Entries", "preferred", "[Z", true)
  | _ => ("CodeExchange$Entries", "count", "I", false)
def tyX0 : Nat → FieldType := fun k => match k with
  | 0 => .array .int
  | 1 => .array .int
  | 2 => .array .int
  | 3 => .array .int
  | 4 => .array .boolean
  | _ => .int
theorem nmX0 : ∀ a, a < 6 → ∀ b, b < 6 → a ≠ b → (TX0 a).2.1 ≠ (TX0 b).2.1 := by decide +kernel
theorem tyX0_ok : ∀ k, k < 6 → parseFieldDescriptor (TX0 k).2.2.1 = some (tyX0 k) := by decide +kernel
theorem inX0 : ∀ w ∈ u_ws RX0 TX0 6, w ∈ tables_1 := by decide +kernel
def RX1 : String := "CodeExchange$Forms"
def TX1 : u_T := fun _ => ("", "", "", false)
def tyX1 : Nat → FieldType := fun _ => .int
theorem nmX1 : ∀ a, a < 0 → ∀ b, b < 0 → a ≠ b → (TX1 a).2.1 ≠ (TX1 b).2.1 := by decide +kernel
theorem tyX1_ok : ∀ k, k < 0 → parseFieldDescriptor (TX1 k).2.2.1 = some (tyX1 k) := by decide +kernel
theorem inX1 : ∀ w ∈ u_ws RX1 TX1 0, w ∈ tables_1 := by decide +kernel
def RX2 : String := "CodeExchange$Found"
def TX2 : u_T := fun k => match k with
  | 0 => ("CodeExchange$Found", "what", "I", false)
  | 1 => ("CodeExchange$Found", "length", "I", false)
  | 2 => ("CodeExchange$Found", "point", "I", false)
  | 3 => ("CodeExchange$Found", "goal", "I", false)
  | _ => ("CodeExchange$Found", "sticky", "Z", false)
def tyX2 : Nat → FieldType := fun k => match k with
  | 0 => .int
  | 1 => .int
  | 2 => .int
  | 3 => .int
  | _ => .boolean
theorem nmX2 : ∀ a, a < 5 → ∀ b, b < 5 → a ≠ b → (TX2 a).2.1 ≠ (TX2 b).2.1 := by decide +kernel
theorem tyX2_ok : ∀ k, k < 5 → parseFieldDescriptor (TX2 k).2.2.1 = some (tyX2 k) := by decide +kernel
theorem inX2 : ∀ w ∈ u_ws RX2 TX2 5, w ∈ tables_1 := by decide +kernel
def RX3 : String := "CodeExchange$Machine"
def TX3 : u_T := fun k => match k with
  | 0 => ("CodeExchange$Machine", "reader", "LCodeExchange$Reader;", true)
  | 1 => ("CodeExchange$Machine", "writer", "LCodeExchange$Writer;", true)
  | 2 => ("CodeExchange$Machine", "writes", "Z", false)
  | 3 => ("CodeExchange$Machine", "phase", "I", false)
  | 4 => ("CodeExchange$Machine", "kept", "[I", true)
  | 5 => ("CodeExchange$Machine", "keeps", "I", false)
  | 6 => ("CodeExchange$Machine", "fed", "I", false)
  | 7 => ("CodeExchange$Machine", "place", "I", false)
  | 8 => ("CodeExchange$Machine", "burst", "LCodeExchange$Row;", true)
  | 9 => ("CodeExchange$Machine", "ring", "[I", true)
  | 10 => ("CodeExchange$Machine", "first", "I", false)
  | _ => ("CodeExchange$Machine", "waiting", "I", false)
def tyX3 : Nat → FieldType := fun k => match k with
  | 0 => .object "CodeExchange$Reader"
  | 1 => .object "CodeExchange$Writer"
  | 2 => .boolean
  | 3 => .int
  | 4 => .array .int
  | 5 => .int
  | 6 => .int
  | 7 => .int
  | 8 => .object "CodeExchange$Row"
  | 9 => .array .int
  | 10 => .int
  | _ => .int
theorem nmX3 : ∀ a, a < 12 → ∀ b, b < 12 → a ≠ b → (TX3 a).2.1 ≠ (TX3 b).2.1 := by decide +kernel
theorem tyX3_ok : ∀ k, k < 12 → parseFieldDescriptor (TX3 k).2.2.1 = some (tyX3 k) := by decide +kernel
theorem inX3 : ∀ w ∈ u_ws RX3 TX3 12, w ∈ tables_1 := by decide +kernel
def RX4 : String := "CodeExchange$Page"
def TX4 : u_T := fun k => match k with
  | 0 => ("CodeExchange$Page", "kind", "I", true)
  | 1 => ("CodeExchange$Page", "closed", "Z", false)
  | 2 => ("CodeExchange$Page", "entries", "LCodeExchange$Entries;", true)
  | 3 => ("CodeExchange$Page", "shifts", "LCodeExchange$Shifts;", true)
  | 4 => ("CodeExchange$Page", "routes", "LCodeExchange$Routes;", true)
  | 5 => ("CodeExchange$Page", "heads", "[I", true)
  | 6 => ("CodeExchange$Page", "nexts", "[I", true)
  | 7 => ("CodeExchange$Page", "order", "[I", true)
  | 8 => ("CodeExchange$Page", "ordered", "I", false)
  | _ => ("CodeExchange$Page", "reached", "I", false)
def tyX4 : Nat → FieldType := fun k => match k with
  | 0 => .int
  | 1 => .boolean
  | 2 => .object "CodeExchange$Entries"
  | 3 => .object "CodeExchange$Shifts"
  | 4 => .object "CodeExchange$Routes"
  | 5 => .array .int
  | 6 => .array .int
  | 7 => .array .int
  | 8 => .int
  | _ => .int
theorem nmX4 : ∀ a, a < 10 → ∀ b, b < 10 → a ≠ b → (TX4 a).2.1 ≠ (TX4 b).2.1 := by decide +kernel
theorem tyX4_ok : ∀ k, k < 10 → parseFieldDescriptor (TX4 k).2.2.1 = some (tyX4 k) := by decide +kernel
theorem inX4 : ∀ w ∈ u_ws RX4 TX4 10, w ∈ tables_1 := by decide +kernel
def RX5 : String := "CodeExchange$Reader"
def TX5 : u_T := fun k => match k with
  | 0 => ("CodeExchange$Reader", "rules", "LCodeExchange$Rules;", true)
  | 1 => ("CodeExchange$Reader", "found", "LCodeExchange$Found;", true)
  | 2 => ("CodeExchange$Reader", "page", "LCodeExchange$Page;", false)
  | 3 => ("CodeExchange$Reader", "rule", "I", false)
  | 4 => ("CodeExchange$Reader", "state", "I", false)
  | 5 => ("CodeExchange$Reader", "pending", "I", false)
  | _ => ("CodeExchange$Reader", "malformed", "I", false)
def tyX5 : Nat → FieldType := fun k => match k with
  | 0 => .object "CodeExchange$Rules"
  | 1 => .object "CodeExchange$Found"
  | 2 => .object "CodeExchange$Page"
  | 3 => .int
  | 4 => .int
  | 5 => .int
  | _ => .int
theorem nmX5 : ∀ a, a < 7 → ∀ b, b < 7 → a ≠ b → (TX5 a).2.1 ≠ (TX5 b).2.1 := by decide +kernel
theorem tyX5_ok : ∀ k, k < 7 → parseFieldDescriptor (TX5 k).2.2.1 = some (tyX5 k) := by decide +kernel
theorem inX5 : ∀ w ∈ u_ws RX5 TX5 7, w ∈ tables_1 := by decide +kernel
def RX6 : String := "CodeExchange$Routes"
def TX6 : u_T := fun k => match k with
  | 0 => ("CodeExchange$Routes", "texts", "[I", true)
  | 1 => ("CodeExchange$Routes", "lengths", "[I", true)
  | 2 => ("CodeExchange$Routes", "after", "[I", true)
  | _ => ("CodeExchange$Routes", "steps", "[I", true)
def tyX6 : Nat → FieldType := fun k => match k with
  | 0 => .array .int
  | 1 => .array .int
  | 2 => .array .int
  | _ => .array .int
theorem nmX6 : ∀ a, a < 4 → ∀ b, b < 4 → a ≠ b → (TX6 a).2.1 ≠ (TX6 b).2.1 := by decide +kernel
theorem tyX6_ok : ∀ k, k < 4 → parseFieldDescriptor (TX6 k).2.2.1 = some (tyX6 k) := by decide +kernel
theorem inX6 : ∀ w ∈ u_ws RX6 TX6 4, w ∈ tables_1 := by decide +kernel
def RX7 : String := "CodeExchange$Row"
def TX7 : u_T := fun k => match k with
  | 0 => ("CodeExchange$Row", "values", "[I", true)
  | _ => ("CodeExchange$Row", "count", "I", false)
def tyX7 : Nat → FieldType := fun k => match k with
  | 0 => .array .int
  | _ => .int
theorem nmX7 : ∀ a, a < 2 → ∀ b, b < 2 → a ≠ b → (TX7 a).2.1 ≠ (TX7 b).2.1 := by decide +kernel
theorem tyX7_ok : ∀ k, k < 2 → parseFieldDescriptor (TX7 k).2.2.1 = some (tyX7 k) := by decide +kernel
theorem inX7 : ∀ w ∈ u_ws RX7 TX7 2, w ∈ tables_1 := by decide +kernel
def RX8 : String := "CodeExchange$Rules"
def TX8 : u_T := fun k => match k with
  | 0 => ("CodeExchange$Rules", "readSign", "I", false)
  | 1 => ("CodeExchange$Rules", "writeSign", "I", false)
  | 2 => ("CodeExchange$Rules", "count", "I", false)
  | 3 => ("CodeExchange$Rules", "points", "[I", true)
  | 4 => ("CodeExchange$Rules", "lengths", "[I", true)
  | 5 => ("CodeExchange$Rules", "parts", "[I", true)
  | _ => ("CodeExchange$Rules", "wholes", "[I", true)
def tyX8 : Nat → FieldType := fun k => match k with
  | 0 => .int
  | 1 => .int
  | 2 => .int
  | 3 => .array .int
  | 4 => .array .int
  | 5 => .array .int
  | _ => .array .int
theorem nmX8 : ∀ a, a < 7 → ∀ b, b < 7 → a ≠ b → (TX8 a).2.1 ≠ (TX8 b).2.1 := by decide +kernel
theorem tyX8_ok : ∀ k, k < 7 → parseFieldDescriptor (TX8 k).2.2.1 = some (tyX8 k) := by decide +kernel
theorem inX8 : ∀ w ∈ u_ws RX8 TX8 7, w ∈ tables_1 := by decide +kernel
def RX9 : String := "CodeExchange$Shifts"
def TX9 : u_T := fun k => match k with
  | 0 => ("CodeExchange$Shifts", "states", "[I", true)
  | 1 => ("CodeExchange$Shifts", "values", "[I", true)
  | 2 => ("CodeExchange$Shifts", "goals", "[I", true)
  | 3 => ("CodeExchange$Shifts", "sticky", "[Z", true)
  | _ => ("CodeExchange$Shifts", "count", "I", false)
def tyX9 : Nat → FieldType := fun k => match k with
  | 0 => .array .int
  | 1 => .array .int
  | 2 => .array .int
  | 3 => .array .boolean
  | _ => .int
theorem nmX9 : ∀ a, a < 5 → ∀ b, b < 5 → a ≠ b → (TX9 a).2.1 ≠ (TX9 b).2.1 := by decide +kernel
theorem tyX9_ok : ∀ k, k < 5 → parseFieldDescriptor (TX9 k).2.2.1 = some (tyX9 k) := by decide +kernel
theorem inX9 : ∀ w ∈ u_ws RX9 TX9 5, w ∈ tables_1 := by decide +kernel
def RX10 : String := "CodeExchange$Writer"
def TX10 : u_T := fun k => match k with
  | 0 => ("CodeExchange$Writer", "rules", "LCodeExchange$Rules;", true)
  | 1 => ("CodeExchange$Writer", "burst", "LCodeExchange$Row;", true)
  | 2 => ("CodeExchange$Writer", "due", "LCodeExchange$Row;", true)
  | 3 => ("CodeExchange$Writer", "page", "LCodeExchange$Page;", false)
  | 4 => ("CodeExchange$Writer", "rule", "I", false)
  | _ => ("CodeExchange$Writer", "state", "I", false)
def tyX10 : Nat → FieldType := fun k => match k with
  | 0 => .object "CodeExchange$Rules"
  | 1 => .object "CodeExchange$Row"
  | 2 => .object "CodeExchange$Row"
  | 3 => .object "CodeExchange$Page"
  | 4 => .int
  | _ => .int
theorem nmX10 : ∀ a, a < 6 → ∀ b, b < 6 → a ≠ b → (TX10 a).2.1 ≠ (TX10 b).2.1 := by decide +kernel
theorem tyX10_ok : ∀ k, k < 6 → parseFieldDescriptor (TX10 k).2.2.1 = some (tyX10 k) := by decide +kernel
theorem inX10 : ∀ w ∈ u_ws RX10 TX10 6, w ∈ tables_1 := by decide +kernel
def RX11 : String := "CodeExchange"
def TX11 : u_T := fun k => match k with
  | 0 => ("CodeExchange", "pages", "[LCodeExchange$Page;", true)
  | 1 => ("CodeExchange", "pageCount", "I", false)
  | 2 => ("CodeExchange", "spare", "LCodeExchange$Page;", false)
  | 3 => ("CodeExchange", "bytes", "LCodeExchange$Row;", true)
  | 4 => ("CodeExchange", "units", "LCodeExchange$Row;", true)
  | 5 => ("CodeExchange", "result", "LCodeExchange$Row;", false)
  | 6 => ("CodeExchange", "resultKind", "I", false)
  | 7 => ("CodeExchange", "work", "LCodeExchange$Row;", false)
  | 8 => ("CodeExchange", "between", "LCodeExchange$Row;", true)
  | 9 => ("CodeExchange", "rules", "LCodeExchange$Rules;", true)
  | 10 => ("CodeExchange", "reader", "LCodeExchange$Reader;", true)
  | 11 => ("CodeExchange", "writer", "LCodeExchange$Writer;", true)
  | 12 => ("CodeExchange", "machines", "[LCodeExchange$Machine;", true)
  | 13 => ("CodeExchange", "place", "I", false)
  | 14 => ("CodeExchange", "broken", "[I", true)
  | 15 => ("CodeExchange", "unheard", "[I", true)
  | _ => ("CodeExchange", "findings", "I", false)
def tyX11 : Nat → FieldType := fun k => match k with
  | 0 => .array (.object "CodeExchange$Page")
  | 1 => .int
  | 2 => .object "CodeExchange$Page"
  | 3 => .object "CodeExchange$Row"
  | 4 => .object "CodeExchange$Row"
  | 5 => .object "CodeExchange$Row"
  | 6 => .int
  | 7 => .object "CodeExchange$Row"
  | 8 => .object "CodeExchange$Row"
  | 9 => .object "CodeExchange$Rules"
  | 10 => .object "CodeExchange$Reader"
  | 11 => .object "CodeExchange$Writer"
  | 12 => .array (.object "CodeExchange$Machine")
  | 13 => .int
  | 14 => .array .int
  | 15 => .array .int
  | _ => .int
theorem nmX11 : ∀ a, a < 17 → ∀ b, b < 17 → a ≠ b → (TX11 a).2.1 ≠ (TX11 b).2.1 := by decide +kernel
theorem tyX11_ok : ∀ k, k < 17 → parseFieldDescriptor (TX11 k).2.2.1 = some (tyX11 k) := by decide +kernel
theorem inX11 : ∀ w ∈ u_ws RX11 TX11 17, w ∈ tables_1 := by decide +kernel
def RX12 : String := "CodeExchangeModel"
def TX12 : u_T := fun k => match k with
  | 0 => ("CodeExchangeModel", "pages", "I", false)
  | 1 => ("CodeExchangeModel", "kinds", "[I", true)
  | 2 => ("CodeExchangeModel", "closed", "[Z", true)
  | 3 => ("CodeExchangeModel", "entries", "[I", true)
  | 4 => ("CodeExchangeModel", "shifts", "[I", true)
  | 5 => ("CodeExchangeModel", "eState", "[I", true)
  | 6 => ("CodeExchangeModel", "eMany", "[I", true)
  | 7 => ("CodeExchangeModel", "eBytes", "[I", true)
  | 8 => ("CodeExchangeModel", "ePoint", "[I", true)
  | 9 => ("CodeExchangeModel", "ePreferred", "[Z", true)
  | 10 => ("CodeExchangeModel", "sState", "[I", true)
  | 11 => ("CodeExchangeModel", "sByte", "[I", true)
  | 12 => ("CodeExchangeModel", "sTo", "[I", true)
  | 13 => ("CodeExchangeModel", "sSticky", "[Z", true)
  | 14 => ("CodeExchangeModel", "bytes", "I", false)
  | 15 => ("CodeExchangeModel", "byteRow", "[I", true)
  | 16 => ("CodeExchangeModel", "units", "I", false)
  | 17 => ("CodeExchangeModel", "unitRow", "[I", true)
  | 18 => ("CodeExchangeModel", "results", "I", false)
  | 19 => ("CodeExchangeModel", "resultKind", "I", false)
  | 20 => ("CodeExchangeModel", "resultRow", "[I", true)
  | 21 => ("CodeExchangeModel", "signs", "[I", true)
  | 22 => ("CodeExchangeModel", "place", "I", false)
  | 23 => ("CodeExchangeModel", "broken", "[I", true)
  | 24 => ("CodeExchangeModel", "findings", "I", false)
  | 25 => ("CodeExchangeModel", "fallbacks", "I", false)
  | 26 => ("CodeExchangeModel", "fPoint", "[I", true)
  | 27 => ("CodeExchangeModel", "fMany", "[I", true)
  | 28 => ("CodeExchangeModel", "fPoints", "[I", true)
  | 29 => ("CodeExchangeModel", "reached", "[Z", true)
  | 30 => ("CodeExchangeModel", "breach", "[I", true)
  | 31 => ("CodeExchangeModel", "textState", "I", false)
  | 32 => ("CodeExchangeModel", "textMany", "I", false)
  | 33 => ("CodeExchangeModel", "text", "[I", true)
  | 34 => ("CodeExchangeModel", "state", "I", false)
  | 35 => ("CodeExchangeModel", "pending", "I", false)
  | 36 => ("CodeExchangeModel", "out", "[I", false)
  | 37 => ("CodeExchangeModel", "outs", "I", false)
  | 38 => ("CodeExchangeModel", "most", "I", false)
  | 39 => ("CodeExchangeModel", "faultCount", "I", false)
  | 40 => ("CodeExchangeModel", "foundMany", "I", false)
  | 41 => ("CodeExchangeModel", "foundPoint", "I", false)
  | 42 => ("CodeExchangeModel", "foundShift", "I", false)
  | 43 => ("CodeExchangeModel", "read", "[I", true)
  | 44 => ("CodeExchangeModel", "readToo", "[I", true)
  | 45 => ("CodeExchangeModel", "written", "[I", true)
  | 46 => ("CodeExchangeModel", "way", "[I", true)
  | 47 => ("CodeExchangeModel", "ways", "I", false)
  | 48 => ("CodeExchangeModel", "counts", "Z", false)
  | 49 => ("CodeExchangeModel", "points", "[I", true)
  | 50 => ("CodeExchangeModel", "seen", "[I", true)
  | 51 => ("CodeExchangeModel", "known", "[I", true)
  | 52 => ("CodeExchangeModel", "begun", "[Z", true)
  | 53 => ("CodeExchangeModel", "mPage", "[I", true)
  | 54 => ("CodeExchangeModel", "mWrites", "[Z", true)
  | 55 => ("CodeExchangeModel", "mRule", "[I", true)
  | 56 => ("CodeExchangeModel", "mState", "[I", true)
  | 57 => ("CodeExchangeModel", "mPending", "[I", true)
  | 58 => ("CodeExchangeModel", "mKept", "[I", true)
  | 59 => ("CodeExchangeModel", "mKeeps", "[I", true)
  | 60 => ("CodeExchangeModel", "mFed", "[I", true)
  | 61 => ("CodeExchangeModel", "mMode", "[I", true)
  | 62 => ("CodeExchangeModel", "mWaits", "[I", true)
  | 63 => ("CodeExchangeModel", "queues", "[I", true)
  | 64 => ("CodeExchangeModel", "keeps", "[I", true)
  | 65 => ("CodeExchangeModel", "fresh", "[I", true)
  | 66 => ("CodeExchangeModel", "alone", "[I", true)
  | 67 => ("CodeExchangeModel", "at", "I", false)
  | _ => ("CodeExchangeModel", "limit", "I", false)
def tyX12 : Nat → FieldType := fun k => match k with
  | 0 => .int
  | 1 => .array .int
  | 2 => .array .boolean
  | 3 => .array .int
  | 4 => .array .int
  | 5 => .array .int
  | 6 => .array .int
  | 7 => .array .int
  | 8 => .array .int
  | 9 => .array .boolean
  | 10 => .array .int
  | 11 => .array .int
  | 12 => .array .int
  | 13 => .array .boolean
  | 14 => .int
  | 15 => .array .int
  | 16 => .int
  | 17 => .array .int
  | 18 => .int
  | 19 => .int
  | 20 => .array .int
  | 21 => .array .int
  | 22 => .int
  | 23 => .array .int
  | 24 => .int
  | 25 => .int
  | 26 => .array .int
  | 27 => .array .int
  | 28 => .array .int
  | 29 => .array .boolean
  | 30 => .array .int
  | 31 => .int
  | 32 => .int
  | 33 => .array .int
  | 34 => .int
  | 35 => .int
  | 36 => .array .int
  | 37 => .int
  | 38 => .int
  | 39 => .int
  | 40 => .int
  | 41 => .int
  | 42 => .int
  | 43 => .array .int
  | 44 => .array .int
  | 45 => .array .int
  | 46 => .array .int
  | 47 => .int
  | 48 => .boolean
  | 49 => .array .int
  | 50 => .array .int
  | 51 => .array .int
  | 52 => .array .boolean
  | 53 => .array .int
  | 54 => .array .boolean
  | 55 => .array .int
  | 56 => .array .int
  | 57 => .array .int
  | 58 => .array .int
  | 59 => .array .int
  | 60 => .array .int
  | 61 => .array .int
  | 62 => .array .int
  | 63 => .array .int
  | 64 => .array .int
  | 65 => .array .int
  | 66 => .array .int
  | 67 => .int
  | _ => .int
theorem nmX12 : ∀ a, a < 69 → ∀ b, b < 69 → a ≠ b → (TX12 a).2.1 ≠ (TX12 b).2.1 := by decide +kernel
theorem tyX12_ok : ∀ k, k < 69 → parseFieldDescriptor (TX12 k).2.2.1 = some (tyX12 k) := by decide +kernel
theorem inX12 : ∀ w ∈ u_ws RX12 TX12 69, w ∈ tables_1 := by decide +kernel
abbrev mm_cl : List vw_C := [(RX0, TX0, 6), (RX1, TX1, 0), (RX2, TX2, 5), (RX3, TX3, 12), (RX4, TX4, 10), (RX5, TX5, 7), (RX6, TX6, 4), (RX7, TX7, 2), (RX8, TX8, 7), (RX9, TX9, 5), (RX10, TX10, 6), (RX11, TX11, 17), (RX12, TX12, 69)]
def mm_ty : Nat → Nat → FieldType := fun c => match c with
  | 0 => tyX0
  | 1 => tyX1
  | 2 => tyX2
  | 3 => tyX3
  | 4 => tyX4
  | 5 => tyX5
  | 6 => tyX6
  | 7 => tyX7
  | 8 => tyX8
  | 9 => tyX9
  | 10 => tyX10
  | 11 => tyX11
  | _ => tyX12
/-- the name of a class by its number; 13: the law, 14: java/util/Arrays -/
def mm_cn : Nat → String := fun c => match c with
  | 0 => RX0
  | 1 => RX1
  | 2 => RX2
  | 3 => RX3
  | 4 => RX4
  | 5 => RX5
  | 6 => RX6
  | 7 => RX7
  | 8 => RX8
  | 9 => RX9
  | 10 => RX10
  | 11 => RX11
  | 12 => RX12
  | 13 => "CodeExchangeLaw"
  | _ => "java/util/Arrays"
end
section
/-! the mini machine: cells, heaps, instructions -/
abbrev mC : Type := (Nat × Nat × (Nat → Int32)) ⊕ ((Nat × Nat × (Nat → Option Nat)) ⊕ (Nat × List Value))
abbrev mH : Type := Nat × (Nat → mC)
def mJ : mC := .inr (.inl (99, 0, fun _ => none))
def mSet (h : mH) (a : Nat) (e : mC) : mH := (h.1, fun k => if k = a then e else h.2 k)
def mNew (h : mH) (e : mC) : mH := (h.1 + 1, fun k => if k = h.1 then e else h.2 k)
/-- an instruction: what it does, a number, two more, a list -/
abbrev mI : Type := Nat × Int × Nat × Nat × List Nat
/-- code: pc, length, instruction -/
abbrev mK : Type := List (Nat × Nat × mI)
def mAt : mK → Nat → Option (Nat × mI)
  | [], _ => none
  | e :: t, pc => match Nat.beq e.1 pc with
    | true => some e.2
    | false => mAt t pc
/-- a method: name, bytes, locals, answer, class, arguments, kind (0 instance, 1 static, 2 init), cells, slots, code, places of its words -/
abbrev mR : Type := MethodName × ByteArray × Nat × Option FieldType × Nat × Nat × Nat × Nat × Nat × mK × Nat × Nat × Nat

def mx_F_0 : List (Nat × Nat × Nat × Nat × Nat) := [(0, 15, 0, 0, 225), (0, 21, 0, 1, 227), (0, 24, 0, 2, 229), (0, 27, 0, 3, 231), (0, 30, 0, 4, 233), (0, 34, 0, 5, 235), (0, 52, 7, 0, 141), (2, 9, 2, 0, 335), (2, 13, 2, 2, 341), (2, 16, 2, 1, 339), (2, 19, 2, 3, 343), (2, 22, 2, 4, 345), (3, 11, 3, 3, 430), (3, 15, 3, 4, 432), (3, 24, 3, 8, 438), (3, 28, 3, 9, 439), (3, 36, 3, 0, 424), (3, 43, 3, 1, 426), (3, 54, 3, 2, 428), (3, 58, 3, 5, 433), (3, 61, 3, 6, 435), (3, 64, 3, 10, 440), (3, 67, 3, 11, 441), (3, 70, 7, 1, 146), (3, 73, 7, 0, 138), (3, 76, 3, 7, 436), (3, 83, 5, 5, 364), (3, 127, 10, 1, 393), (4, 12, 4, 4, 295), (4, 18, 4, 9, 301), (4, 22, 4, 0, 286), (4, 25, 4, 1, 289), (4, 34, 4, 2, 291), (4, 41, 4, 3, 293), (4, 45, 4, 5, 297), (4, 49, 4, 6, 298), (4, 52, 4, 7, 299), (4, 68, 0, 5, 236), (4, 71, 9, 4, 272), (4, 84, 0, 0, 226), (4, 87, 9, 0, 260), (4, 88, 0, 1, 228), (4, 91, 9, 1, 263), (4, 94, 0, 2, 230), (4, 113, 0, 3, 232), (4, 129, 0, 4, 234), (4, 147, 4, 8, 300), (4, 189, 9, 2, 267), (4, 192, 9, 3, 270), (4, 199, 2, 0, 337), (5, 12, 5, 1, 358), (5, 18, 5, 5, 363), (5, 22, 5, 0, 357), (5, 26, 5, 2, 359), (5, 30, 5, 3, 360), (5, 33, 5, 4, 361), (5, 36, 5, 6, 366), (5, 45, 2, 0, 336), (5, 48, 2, 2, 340), (5, 57, 2, 1, 338)]
def mx_F_1 : List (Nat × Nat × Nat × Nat × Nat) := [(5, 60, 2, 4, 344), (5, 64, 2, 3, 342), (5, 71, 8, 0, 165), (6, 9, 6, 0, 202), (6, 15, 6, 1, 204), (6, 18, 6, 2, 206), (6, 21, 6, 3, 208), (6, 32, 9, 3, 269), (6, 38, 9, 2, 266), (6, 51, 9, 4, 274), (6, 55, 9, 0, 261), (6, 75, 9, 1, 264), (7, 15, 7, 0, 137), (7, 21, 7, 1, 144), (8, 10, 8, 0, 164), (8, 16, 8, 1, 167), (8, 19, 8, 3, 172), (8, 23, 8, 4, 173), (8, 26, 8, 5, 174), (8, 29, 8, 6, 175), (8, 32, 8, 2, 170), (8, 39, 7, 1, 145), (8, 63, 7, 0, 139), (9, 15, 9, 0, 259), (9, 21, 9, 1, 262), (9, 24, 9, 2, 265), (9, 27, 9, 3, 268), (9, 31, 9, 4, 271), (9, 44, 7, 0, 142), (10, 14, 10, 1, 392), (10, 20, 10, 2, 395), (10, 23, 10, 0, 391), (10, 27, 10, 3, 396), (10, 31, 10, 4, 397), (10, 35, 10, 5, 398), (10, 45, 8, 1, 168), (10, 72, 4, 0, 287), (10, 92, 4, 4, 296), (10, 96, 6, 0, 203), (10, 100, 6, 1, 205), (10, 103, 6, 2, 207), (10, 110, 7, 1, 147), (10, 113, 7, 0, 140), (11, 11, 11, 0, 468), (11, 20, 11, 3, 471), (11, 24, 11, 4, 472), (11, 27, 11, 5, 473), (11, 30, 11, 6, 474), (11, 34, 11, 7, 475), (11, 37, 11, 8, 476), (11, 42, 11, 12, 480), (11, 46, 11, 14, 482), (11, 50, 11, 15, 483), (11, 57, 11, 9, 477), (11, 66, 11, 10, 478), (11, 73, 11, 11, 479), (11, 82, 11, 1, 469), (11, 92, 4, 1, 290), (11, 96, 4, 2, 292), (11, 106, 4, 3, 294)]
def mx_F_2 : List (Nat × Nat × Nat × Nat × Nat) := [(11, 134, 0, 5, 237), (11, 146, 9, 4, 273), (11, 165, 4, 0, 288), (11, 183, 7, 1, 148), (11, 223, 7, 0, 143), (11, 226, 8, 0, 166), (11, 229, 8, 1, 169), (11, 243, 8, 2, 171), (11, 254, 3, 2, 429), (11, 257, 3, 11, 442), (11, 280, 3, 3, 431), (11, 283, 3, 1, 427), (11, 284, 10, 5, 399), (11, 287, 3, 0, 425), (11, 288, 5, 4, 362), (11, 289, 5, 5, 365), (11, 292, 3, 5, 434), (11, 336, 11, 2, 470), (11, 345, 11, 13, 481), (11, 348, 11, 16, 484), (11, 368, 5, 6, 367), (11, 378, 10, 1, 394), (11, 394, 3, 7, 437), (12, 9, 12, 1, 1227), (12, 13, 12, 2, 1228), (12, 17, 12, 3, 1229), (12, 20, 12, 4, 1230), (12, 23, 12, 5, 1231), (12, 26, 12, 6, 1232), (12, 29, 12, 7, 1233), (12, 32, 12, 8, 1234), (12, 35, 12, 9, 1235), (12, 38, 12, 10, 1236), (12, 41, 12, 11, 1237), (12, 44, 12, 12, 1238), (12, 47, 12, 13, 1239), (12, 50, 12, 15, 1241), (12, 53, 12, 17, 1243), (12, 56, 12, 20, 1246), (12, 60, 12, 21, 1247), (12, 63, 12, 23, 1249), (12, 66, 12, 26, 1252), (12, 69, 12, 27, 1253), (12, 72, 12, 28, 1254), (12, 75, 12, 29, 1255), (12, 78, 12, 30, 1256), (12, 81, 12, 33, 1259), (12, 84, 12, 43, 1269), (12, 87, 12, 44, 1270), (12, 90, 12, 45, 1271), (12, 93, 12, 46, 1272), (12, 96, 12, 49, 1275), (12, 99, 12, 50, 1276), (12, 102, 12, 51, 1277), (12, 105, 12, 52, 1278), (12, 108, 12, 53, 1279), (12, 111, 12, 54, 1280), (12, 114, 12, 55, 1281), (12, 117, 12, 56, 1282), (12, 120, 12, 57, 1283)]
def mx_F_3 : List (Nat × Nat × Nat × Nat × Nat) := [(12, 123, 12, 58, 1284), (12, 126, 12, 59, 1285), (12, 129, 12, 60, 1286), (12, 132, 12, 61, 1287), (12, 135, 12, 62, 1288), (12, 138, 12, 63, 1289), (12, 141, 12, 64, 1290), (12, 144, 12, 65, 1291), (12, 147, 12, 66, 1292), (12, 150, 12, 24, 1250), (12, 163, 12, 0, 1226), (12, 228, 12, 32, 1258), (12, 233, 12, 31, 1257), (12, 255, 12, 14, 1240), (12, 258, 12, 16, 1242), (12, 263, 12, 19, 1245), (12, 266, 12, 18, 1244), (12, 269, 12, 36, 1262), (12, 272, 12, 37, 1263), (12, 286, 12, 35, 1261), (12, 289, 12, 34, 1260), (12, 292, 12, 40, 1266), (12, 295, 12, 41, 1267), (12, 298, 12, 42, 1268), (12, 314, 12, 39, 1265), (12, 321, 12, 22, 1248), (12, 328, 12, 38, 1264), (12, 331, 12, 48, 1274), (12, 335, 12, 47, 1273), (12, 345, 12, 25, 1251), (12, 412, 12, 67, 1293), (12, 415, 12, 68, 1294)]
def mx_F : List (Nat × Nat × Nat × Nat × Nat) := mx_F_0 ++ (mx_F_1 ++ (mx_F_2 ++ (mx_F_3)))
def mx_M_0 : List (Nat × Nat × Nat × Nat) := [(0, 3, 1000, 223), (0, 9, 1001, 224), (0, 38, 2, 548), (0, 42, 72, 1180), (0, 48, 74, 1181), (0, 55, 76, 1205), (0, 64, 1, 1208), (1, 9, 10, 737), (1, 18, 9, 745), (1, 34, 18, 831), (1, 39, 19, 832), (1, 42, 13, 836), (1, 49, 12, 842), (1, 56, 20, 849), (1, 63, 15, 857), (1, 67, 1002, 860), (1, 72, 16, 861), (2, 1, 1000, 334), (3, 3, 1000, 417), (3, 21, 70, 419), (3, 33, 58, 421), (3, 42, 100, 423), (3, 47, 59, 1038), (3, 51, 101, 1039), (3, 79, 29, 1073), (3, 86, 71, 1077), (3, 89, 60, 1078), (3, 93, 1003, 1079), (3, 99, 25, 1063), (3, 103, 26, 1059), (3, 114, 32, 1054), (3, 124, 103, 1092), (3, 128, 102, 1058), (4, 3, 1000, 195), (4, 31, 0, 220), (4, 40, 90, 254), (4, 55, 36, 620), (4, 59, 42, 650), (4, 62, 43, 659), (4, 65, 44, 671), (4, 72, 41, 624), (4, 76, 37, 643), (4, 80, 35, 647), (4, 97, 38, 628), (4, 100, 40, 632), (4, 103, 1002, 636), (4, 109, 39, 639), (4, 116, 5, 655), (4, 119, 95, 663), (4, 123, 96, 667), (4, 126, 97, 675), (4, 133, 64, 683), (4, 137, 261, 713), (4, 143, 46, 714), (4, 150, 47, 718), (4, 153, 49, 754), (4, 163, 1001, 1119), (4, 166, 18, 820), (4, 171, 11, 824), (4, 177, 14, 854)]
def mx_M_1 : List (Nat × Nat × Nat × Nat) := [(4, 181, 56, 865), (4, 185, 57, 869), (4, 195, 21, 878), (4, 202, 77, 873), (4, 208, 20, 876), (4, 212, 19, 877), (5, 3, 1000, 328), (5, 39, 55, 816), (5, 51, 75, 882), (5, 67, 61, 890), (5, 77, 72, 895), (6, 3, 1000, 201), (6, 24, 67, 687), (6, 28, 68, 702), (6, 41, 261, 691), (6, 47, 65, 694), (6, 58, 66, 697), (6, 62, 1002, 701), (6, 68, 63, 706), (6, 71, 69, 709), (7, 3, 1000, 133), (7, 9, 1001, 134), (7, 25, 1003, 794), (7, 32, 72, 887), (7, 38, 77, 1200), (8, 3, 1000, 162), (8, 35, 81, 959), (8, 42, 83, 1000), (8, 46, 84, 1009), (8, 50, 86, 1014), (8, 53, 85, 1004), (8, 57, 1002, 1013), (8, 66, 1003, 1008), (8, 72, 261, 1018), (8, 78, 87, 1019), (8, 82, 88, 1023), (8, 85, 72, 963), (9, 3, 1000, 257), (9, 9, 1001, 258), (9, 35, 92, 556), (9, 39, 72, 1186), (9, 48, 91, 1214), (10, 3, 1000, 388), (10, 11, 70, 390), (10, 38, 71, 911), (10, 41, 104, 928), (10, 52, 72, 950), (10, 55, 106, 951), (10, 60, 105, 937), (10, 63, 50, 932), (10, 69, 52, 933), (10, 75, 51, 946), (10, 79, 8, 947), (10, 85, 74, 942), (10, 89, 63, 941), (10, 106, 89, 955), (11, 3, 1000, 123), (11, 17, 70, 130), (11, 56, 33, 192), (11, 63, 58, 325)]
def mx_M_2 : List (Nat × Nat × Nat × Nat) := [(11, 72, 100, 385), (11, 77, 22, 414), (11, 78, 139, 524), (11, 85, 153, 528), (11, 89, 154, 536), (11, 100, 4, 544), (11, 110, 94, 552), (11, 115, 155, 564), (11, 118, 148, 568), (11, 122, 145, 574), (11, 126, 1, 583), (11, 130, 2, 587), (11, 137, 147, 571), (11, 140, 146, 592), (11, 143, 91, 595), (11, 147, 92, 599), (11, 151, 3, 604), (11, 154, 93, 608), (11, 155, 34, 616), (11, 159, 45, 679), (11, 162, 152, 540), (11, 168, 156, 730), (11, 171, 8, 734), (11, 177, 50, 750), (11, 179, 51, 758), (11, 184, 72, 766), (11, 187, 159, 779), (11, 191, 160, 786), (11, 195, 149, 801), (11, 198, 162, 804), (11, 202, 161, 896), (11, 205, 150, 904), (11, 208, 101, 907), (11, 212, 164, 912), (11, 215, 157, 975), (11, 218, 1002, 979), (11, 232, 169, 992), (11, 236, 82, 996), (11, 240, 71, 782), (11, 244, 151, 1031), (11, 247, 23, 1034), (11, 251, 158, 1044), (11, 260, 30, 1048), (11, 263, 27, 1069), (11, 266, 168, 1080), (11, 270, 31, 1088), (11, 274, 28, 1093), (11, 277, 24, 1101), (11, 297, 54, 1113), (11, 301, 53, 1125), (11, 304, 166, 1131), (11, 308, 1001, 1147), (11, 311, 163, 1152), (11, 314, 165, 1164), (11, 318, 48, 1168), (11, 321, 6, 1176), (11, 325, 98, 1182), (11, 326, 170, 1187), (11, 329, 74, 1191), (11, 333, 76, 1196)]
def mx_M_3 : List (Nat × Nat × Nat × Nat) := [(11, 340, 7, 1201), (11, 344, 99, 1209), (11, 354, 140, 578), (11, 357, 73, 790), (11, 361, 59, 808), (11, 364, 60, 812), (11, 371, 78, 916), (11, 374, 102, 924), (11, 381, 144, 964), (11, 384, 103, 967), (11, 387, 167, 1135), (11, 391, 79, 1139), (12, 1, 1000, 1224), (12, 156, 173, 1438), (12, 166, 172, 1441), (12, 170, 177, 1449), (12, 174, 179, 1453), (12, 178, 180, 1457), (12, 181, 182, 1465), (12, 184, 183, 1469), (12, 187, 176, 1472), (12, 190, 184, 1478), (12, 194, 185, 1486), (12, 198, 190, 1510), (12, 202, 191, 1514), (12, 205, 189, 1502), (12, 208, 193, 1506), (12, 211, 192, 1518), (12, 214, 196, 1522), (12, 217, 194, 1526), (12, 221, 195, 1530), (12, 225, 197, 1498), (12, 237, 200, 1547), (12, 240, 202, 1552), (12, 243, 203, 1555), (12, 246, 204, 1559), (12, 249, 205, 1562), (12, 252, 201, 1542), (12, 275, 210, 1614), (12, 278, 214, 1595), (12, 282, 213, 1599), (12, 301, 175, 1603), (12, 304, 174, 1606), (12, 307, 212, 1591), (12, 311, 211, 1610), (12, 317, 215, 1587), (12, 324, 217, 1642), (12, 338, 218, 1646), (12, 341, 219, 1638), (12, 348, 220, 1634), (12, 351, 223, 1650), (12, 354, 224, 1658), (12, 357, 221, 1654), (12, 361, 222, 1630), (12, 364, 225, 1662), (12, 367, 226, 1667), (12, 370, 216, 1583), (12, 374, 228, 1618), (12, 377, 227, 1626), (12, 381, 235, 1691)]
def mx_M_4 : List (Nat × Nat × Nat × Nat) := [(12, 385, 234, 1687), (12, 388, 238, 1708), (12, 391, 239, 1712), (12, 395, 241, 1704), (12, 398, 240, 1716), (12, 402, 247, 1740), (12, 408, 253, 1765), (12, 418, 255, 1778), (12, 422, 257, 1782), (12, 425, 258, 1786), (12, 428, 256, 1774), (13, 9, 107, 120), (13, 12, 171, 1221), (13, 13, 108, 520), (13, 17, 178, 1434), (13, 18, 109, 532), (13, 21, 181, 1445), (13, 22, 110, 560), (13, 26, 186, 1461), (13, 27, 111, 588), (13, 31, 187, 1482), (13, 32, 112, 600), (13, 36, 188, 1490), (13, 37, 113, 612), (13, 40, 198, 1494), (13, 41, 114, 722), (13, 45, 199, 1534), (13, 46, 115, 726), (13, 50, 206, 1538), (13, 53, 116, 762), (13, 57, 207, 1566), (13, 58, 117, 770), (13, 61, 208, 1570), (13, 62, 118, 775), (13, 65, 209, 1575), (13, 66, 119, 797), (13, 69, 229, 1579), (13, 70, 120, 900), (13, 73, 230, 1622), (13, 74, 121, 971), (13, 77, 231, 1671), (13, 78, 122, 980), (13, 81, 232, 1675), (13, 82, 123, 984), (13, 85, 233, 1679), (13, 86, 124, 988), (13, 89, 236, 1683), (13, 90, 125, 1027), (13, 94, 237, 1695), (13, 95, 126, 1040), (13, 98, 242, 1699), (13, 99, 127, 1084), (13, 102, 243, 1720), (13, 103, 128, 1097), (13, 106, 244, 1724), (13, 107, 129, 1105), (13, 110, 245, 1728), (13, 111, 130, 1109), (13, 115, 246, 1732), (13, 116, 131, 1120)]
def mx_M_5 : List (Nat × Nat × Nat × Nat) := [(13, 119, 248, 1736), (13, 120, 132, 1143), (13, 123, 249, 1744), (13, 124, 133, 1148), (13, 127, 250, 1748), (13, 128, 134, 1156), (13, 132, 251, 1752), (13, 133, 135, 1160), (13, 136, 252, 1756), (13, 137, 136, 1172), (13, 140, 254, 1761), (13, 141, 137, 1192), (13, 144, 259, 1770), (13, 145, 138, 1215), (13, 148, 260, 1790)]
def mx_M : List (Nat × Nat × Nat × Nat) := mx_M_0 ++ (mx_M_1 ++ (mx_M_2 ++ (mx_M_3 ++ (mx_M_4 ++ (mx_M_5)))))
def mx_N_0 : List (Nat × Nat × Nat × Nat) := [(0, 58, 147, 1206), (0, 61, 145, 1207), (1, 30, 142, 827), (1, 46, 141, 839), (1, 53, 140, 853), (1, 60, 143, 845), (3, 107, 142, 1052), (3, 111, 143, 1053), (3, 118, 141, 1067), (3, 121, 140, 1068), (4, 11, 62, 198), (4, 156, 140, 1129), (5, 11, 17, 331), (7, 42, 140, 920), (7, 45, 141, 921), (7, 48, 142, 922), (7, 51, 143, 923), (9, 45, 147, 1213), (11, 55, 80, 159)]
def mx_N : List (Nat × Nat × Nat × Nat) := mx_N_0
def mx_K_0 : List (Nat × Nat × Nat × Nat) := [(3, 19, 7, 418), (3, 31, 5, 420), (3, 40, 10, 422), (4, 9, 6, 196), (4, 29, 0, 218), (4, 38, 9, 252), (5, 9, 2, 329), (10, 9, 7, 389), (11, 9, 4, 126), (11, 15, 7, 128), (11, 40, 3, 155), (11, 53, 8, 157), (11, 61, 5, 323), (11, 70, 10, 383), (13, 7, 11, 118), (13, 10, 12, 1219)]
def mx_K : List (Nat × Nat × Nat × Nat) := mx_K_0
def mx_C_0 : List (Nat × Nat × Int × Nat) := [(1, 15, 65536, 742), (1, 22, 55296, 748), (1, 23, 56320, 749), (1, 76, 1114111, 864), (4, 112, 1114112, 654), (4, 160, 57344, 1130), (4, 161, 57343, 1117), (4, 162, 55296, 1118), (5, 76, 56320, 894), (7, 31, 65536, 886), (7, 36, 55296, 888), (7, 37, 56320, 889), (8, 9, 65533, 163), (10, 50, 56320, 948), (10, 51, 56575, 949), (11, 186, 65535, 774), (11, 295, 1114111, 577), (11, 296, 65536, 848), (11, 300, 1114112, 1124), (11, 351, 55296, 581), (11, 352, 57343, 582), (11, 353, 56320, 830), (11, 395, 65521, 1190), (12, 59, 65533, 1225), (12, 154, 55296, 1476), (12, 155, 56319, 1609), (12, 160, 56320, 1558), (12, 161, 57343, 1477), (12, 162, 1114111, 1475), (12, 236, 65536, 1546), (12, 360, 56575, 1666), (12, 394, 65535, 1703), (12, 405, 1000000, 1760)]
def mx_C : List (Nat × Nat × Int × Nat) := mx_C_0
def mx_L_0 : List (Nat × Nat × Int × Nat) := [(1, 16, 8589934592, 741), (1, 24, 17179869184, 744), (1, 26, 4294967296, 740), (1, 28, 12884901888, 743), (12, 231, 255, 1551), (12, 261, 65535, 1574), (12, 406, 65521, 1769), (13, 51, 4294967295, 1794)]
def mx_L : List (Nat × Nat × Int × Nat) := mx_L_0
/-- CodeExchange$Entries.<init>(I)V -/
def tk_0 : mK := [(0, 1, 3, 0, 0, 0, []), (1, 3, 53, 0, 0, 0, []), (4, 1, 2, 0, 1, 0, []), (5, 1, 0, 0, 0, 0, []), (6, 3, 54, 0, 0, 0, []), (9, 1, 5, 0, 2, 0, []), (10, 1, 3, 0, 0, 0, []), (11, 1, 2, 0, 2, 0, []), (12, 2, 40, 0, 0, 0, []), (14, 3, 31, 0, 0, 0, []), (17, 1, 3, 0, 0, 0, []), (18, 1, 2, 0, 2, 0, []), (19, 2, 40, 0, 0, 0, []), (21, 3, 31, 0, 0, 1, []), (24, 1, 3, 0, 0, 0, []), (25, 1, 2, 0, 2, 0, []), (26, 2, 40, 0, 0, 0, []), (28, 3, 31, 0, 0, 2, []), (31, 1, 3, 0, 0, 0, []), (32, 1, 2, 0, 2, 0, []), (33, 2, 40, 0, 0, 0, []), (35, 3, 31, 0, 0, 3, []), (38, 1, 3, 0, 0, 0, []), (39, 1, 2, 0, 2, 0, []), (40, 2, 40, 0, 0, 1, []), (42, 3, 31, 0, 0, 4, []), (45, 1, 72, 0, 0, 0, [])]
/-- CodeExchange$Entries.slotOf(III)I -/
def tk_1 : mK := [(0, 1, 0, 0, 0, 0, []), (1, 2, 5, 0, 4, 0, []), (3, 2, 2, 0, 4, 0, []), (5, 1, 3, 0, 0, 0, []), (6, 3, 30, 0, 0, 5, []), (9, 3, 21, 0, 54, 3, []), (12, 1, 3, 0, 0, 0, []), (13, 3, 30, 0, 0, 0, []), (16, 2, 2, 0, 4, 0, []), (18, 1, 33, 0, 0, 0, []), (19, 1, 2, 0, 1, 0, []), (20, 3, 21, 0, 48, 1, []), (23, 1, 3, 0, 0, 0, []), (24, 3, 30, 0, 0, 1, []), (27, 2, 2, 0, 4, 0, []), (29, 1, 33, 0, 0, 0, []), (30, 1, 2, 0, 2, 0, []), (31, 3, 21, 0, 48, 1, []), (34, 1, 3, 0, 0, 0, []), (35, 3, 30, 0, 0, 2, []), (38, 2, 2, 0, 4, 0, []), (40, 1, 33, 0, 0, 0, []), (41, 1, 2, 0, 3, 0, []), (42, 3, 21, 0, 48, 1, []), (45, 2, 2, 0, 4, 0, []), (47, 1, 70, 0, 0, 0, []), (48, 3, 8, 1, 4, 0, []), (51, 3, 22, 0, 3, 0, []), (54, 1, 0, (-1), 0, 0, []), (55, 1, 70, 0, 0, 0, [])]
/-- CodeExchange$Entries.put(IIIIIZ)V -/
def tk_2 : mK := [(0, 1, 2, 0, 1, 0, []), (1, 3, 20, 0, 21, 2, []), (4, 1, 2, 0, 1, 0, []), (5, 1, 3, 0, 0, 0, []), (6, 3, 30, 0, 0, 5, []), (9, 3, 21, 0, 21, 4, []), (12, 1, 2, 0, 1, 0, []), (13, 1, 3, 0, 0, 0, []), (14, 3, 30, 0, 0, 0, []), (17, 1, 39, 0, 0, 0, []), (18, 3, 21, 0, 22, 2, []), (21, 1, 72, 0, 0, 0, []), (22, 1, 3, 0, 0, 0, []), (23, 3, 30, 0, 0, 0, []), (26, 1, 2, 0, 1, 0, []), (27, 1, 2, 0, 2, 0, []), (28, 1, 36, 0, 0, 0, []), (29, 1, 3, 0, 0, 0, []), (30, 3, 30, 0, 0, 1, []), (33, 1, 2, 0, 1, 0, []), (34, 1, 2, 0, 3, 0, []), (35, 1, 36, 0, 0, 0, []), (36, 1, 3, 0, 0, 0, []), (37, 3, 30, 0, 0, 2, []), (40, 1, 2, 0, 1, 0, []), (41, 2, 2, 0, 4, 0, []), (43, 1, 36, 0, 0, 0, []), (44, 1, 3, 0, 0, 0, []), (45, 3, 30, 0, 0, 3, []), (48, 1, 2, 0, 1, 0, []), (49, 2, 2, 0, 5, 0, []), (51, 1, 36, 0, 0, 0, []), (52, 1, 3, 0, 0, 0, []), (53, 3, 30, 0, 0, 4, []), (56, 1, 2, 0, 1, 0, []), (57, 2, 2, 0, 6, 0, []), (59, 1, 37, 0, 0, 0, []), (60, 1, 3, 0, 0, 0, []), (61, 1, 3, 0, 0, 0, []), (62, 3, 30, 0, 0, 5, []), (65, 1, 2, 0, 1, 0, []), (66, 1, 0, 1, 0, 0, []), (67, 1, 9, 0, 0, 0, []), (68, 3, 54, 0, 0, 0, []), (71, 3, 31, 0, 0, 5, []), (74, 1, 72, 0, 0, 0, [])]
/-- CodeExchange$Entries.removeAt(I)V -/
def tk_3 : mK := [(0, 1, 2, 0, 1, 0, []), (1, 3, 20, 0, 12, 2, []), (4, 1, 2, 0, 1, 0, []), (5, 1, 3, 0, 0, 0, []), (6, 3, 30, 0, 0, 5, []), (9, 3, 21, 0, 13, 2, []), (12, 1, 72, 0, 0, 0, []), (13, 1, 2, 0, 1, 0, []), (14, 1, 5, 0, 2, 0, []), (15, 1, 2, 0, 2, 0, []), (16, 1, 0, 1, 0, 0, []), (17, 1, 9, 0, 0, 0, []), (18, 1, 3, 0, 0, 0, []), (19, 3, 30, 0, 0, 5, []), (22, 3, 21, 0, 76, 3, []), (25, 1, 3, 0, 0, 0, []), (26, 1, 2, 0, 2, 0, []), (27, 1, 3, 0, 0, 0, []), (28, 3, 30, 0, 0, 0, []), (31, 1, 2, 0, 2, 0, []), (32, 1, 0, 1, 0, 0, []), (33, 1, 9, 0, 0, 0, []), (34, 1, 33, 0, 0, 0, []), (35, 1, 3, 0, 0, 0, []), (36, 3, 30, 0, 0, 1, []), (39, 1, 2, 0, 2, 0, []), (40, 1, 0, 1, 0, 0, []), (41, 1, 9, 0, 0, 0, []), (42, 1, 33, 0, 0, 0, []), (43, 1, 3, 0, 0, 0, []), (44, 3, 30, 0, 0, 2, []), (47, 1, 2, 0, 2, 0, []), (48, 1, 0, 1, 0, 0, []), (49, 1, 9, 0, 0, 0, []), (50, 1, 33, 0, 0, 0, []), (51, 1, 3, 0, 0, 0, []), (52, 3, 30, 0, 0, 3, []), (55, 1, 2, 0, 2, 0, []), (56, 1, 0, 1, 0, 0, []), (57, 1, 9, 0, 0, 0, []), (58, 1, 33, 0, 0, 0, []), (59, 1, 3, 0, 0, 0, []), (60, 3, 30, 0, 0, 4, []), (63, 1, 2, 0, 2, 0, []), (64, 1, 0, 1, 0, 0, []), (65, 1, 9, 0, 0, 0, []), (66, 1, 34, 0, 0, 0, []), (67, 3, 50, 0, 2, 6, [0, 0, 0]), (70, 3, 8, 1, 2, 0, []), (73, 3, 22, 0, 15, 0, []), (76, 1, 3, 0, 0, 0, []), (77, 1, 17, 0, 0, 0, []), (78, 3, 30, 0, 0, 5, []), (81, 1, 0, 1, 0, 0, []), (82, 1, 9, 0, 0, 1, []), (83, 3, 31, 0, 0, 5, []), (86, 1, 72, 0, 0, 0, [])]
/-- CodeExchange$Entries.copyFrom(LCodeExchange$Entries;)V -/
def tk_4 : mK := [(0, 1, 3, 0, 0, 0, []), (1, 1, 0, 0, 0, 0, []), (2, 3, 31, 0, 0, 5, []), (5, 1, 0, 0, 0, 0, []), (6, 1, 5, 0, 2, 0, []), (7, 1, 2, 0, 2, 0, []), (8, 1, 3, 0, 1, 0, []), (9, 3, 30, 0, 0, 5, []), (12, 3, 21, 0, 56, 3, []), (15, 1, 3, 0, 0, 0, []), (16, 1, 2, 0, 2, 0, []), (17, 1, 3, 0, 1, 0, []), (18, 3, 30, 0, 0, 0, []), (21, 1, 2, 0, 2, 0, []), (22, 1, 33, 0, 0, 0, []), (23, 1, 3, 0, 1, 0, []), (24, 3, 30, 0, 0, 1, []), (27, 1, 2, 0, 2, 0, []), (28, 1, 33, 0, 0, 0, []), (29, 1, 3, 0, 1, 0, []), (30, 3, 30, 0, 0, 2, []), (33, 1, 2, 0, 2, 0, []), (34, 1, 33, 0, 0, 0, []), (35, 1, 3, 0, 1, 0, []), (36, 3, 30, 0, 0, 3, []), (39, 1, 2, 0, 2, 0, []), (40, 1, 33, 0, 0, 0, []), (41, 1, 3, 0, 1, 0, []), (42, 3, 30, 0, 0, 4, []), (45, 1, 2, 0, 2, 0, []), (46, 1, 34, 0, 0, 0, []), (47, 3, 50, 0, 2, 6, [0, 0, 0]), (50, 3, 8, 1, 2, 0, []), (53, 3, 22, 0, 7, 0, []), (56, 1, 72, 0, 0, 0, [])]
/-- CodeExchange$Entries.preferredOf(I)I -/
def tk_5 : mK := [(0, 1, 0, 0, 0, 0, []), (1, 1, 5, 0, 2, 0, []), (2, 1, 0, 0, 0, 0, []), (3, 1, 5, 0, 3, 0, []), (4, 1, 2, 0, 3, 0, []), (5, 1, 3, 0, 0, 0, []), (6, 3, 30, 0, 0, 5, []), (9, 3, 21, 0, 40, 3, []), (12, 1, 3, 0, 0, 0, []), (13, 3, 30, 0, 0, 3, []), (16, 1, 2, 0, 3, 0, []), (17, 1, 33, 0, 0, 0, []), (18, 1, 2, 0, 1, 0, []), (19, 3, 21, 0, 34, 1, []), (22, 1, 3, 0, 0, 0, []), (23, 3, 30, 0, 0, 4, []), (26, 1, 2, 0, 3, 0, []), (27, 1, 34, 0, 0, 0, []), (28, 3, 20, 0, 34, 0, []), (31, 3, 8, 1, 2, 0, []), (34, 3, 8, 1, 3, 0, []), (37, 3, 22, 0, 4, 0, []), (40, 1, 2, 0, 2, 0, []), (41, 1, 70, 0, 0, 0, [])]
/-- CodeExchange$Entries.writeTo(LCodeExchange$Row;)V -/
def tk_6 : mK := [(0, 1, 3, 0, 1, 0, []), (1, 1, 3, 0, 0, 0, []), (2, 3, 30, 0, 0, 5, []), (5, 3, 50, 0, 72, 1, [7, 0, 0]), (8, 1, 18, 0, 0, 0, []), (9, 1, 0, 0, 0, 0, []), (10, 1, 5, 0, 2, 0, []), (11, 1, 2, 0, 2, 0, []), (12, 1, 3, 0, 0, 0, []), (13, 3, 30, 0, 0, 5, []), (16, 3, 21, 0, 93, 3, []), (19, 1, 3, 0, 1, 0, []), (20, 1, 3, 0, 0, 0, []), (21, 3, 30, 0, 0, 0, []), (24, 1, 2, 0, 2, 0, []), (25, 1, 33, 0, 0, 0, []), (26, 3, 50, 0, 72, 1, [7, 0, 0]), (29, 1, 18, 0, 0, 0, []), (30, 1, 3, 0, 1, 0, []), (31, 1, 3, 0, 0, 0, []), (32, 3, 30, 0, 0, 2, []), (35, 1, 2, 0, 2, 0, []), (36, 1, 33, 0, 0, 0, []), (37, 3, 50, 0, 72, 1, [7, 0, 0]), (40, 1, 18, 0, 0, 0, []), (41, 1, 3, 0, 1, 0, []), (42, 1, 3, 0, 0, 0, []), (43, 3, 30, 0, 0, 1, []), (46, 1, 2, 0, 2, 0, []), (47, 1, 33, 0, 0, 0, []), (48, 1, 3, 0, 0, 0, []), (49, 3, 30, 0, 0, 2, []), (52, 1, 2, 0, 2, 0, []), (53, 1, 33, 0, 0, 0, []), (54, 3, 50, 0, 74, 2, [7, 0, 0]), (57, 1, 3, 0, 1, 0, []), (58, 1, 3, 0, 0, 0, []), (59, 3, 30, 0, 0, 3, []), (62, 1, 2, 0, 2, 0, []), (63, 1, 33, 0, 0, 0, []), (64, 1, 0, 3, 0, 0, []), (65, 3, 50, 0, 74, 2, [7, 0, 0]), (68, 1, 3, 0, 1, 0, []), (69, 1, 3, 0, 0, 0, []), (70, 3, 30, 0, 0, 4, []), (73, 1, 2, 0, 2, 0, []), (74, 1, 34, 0, 0, 0, []), (75, 3, 20, 0, 82, 0, []), (78, 1, 0, 1, 0, 0, []), (79, 3, 22, 0, 83, 0, []), (82, 1, 0, 0, 0, 0, []), (83, 3, 50, 0, 72, 1, [7, 0, 0]), (86, 1, 18, 0, 0, 0, []), (87, 3, 8, 1, 2, 0, []), (90, 3, 22, 0, 11, 0, []), (93, 1, 72, 0, 0, 0, [])]
/-- CodeExchange$Entries.readFrom(LCodeExchange$Row;II)I -/
def tk_7_0 : mK := [(0, 1, 3, 0, 0, 0, []), (1, 1, 0, 0, 0, 0, []), (2, 3, 31, 0, 0, 5, []), (5, 1, 2, 0, 2, 0, []), (6, 1, 2, 0, 3, 0, []), (7, 3, 21, 0, 21, 3, []), (10, 1, 3, 0, 1, 0, []), (11, 3, 30, 0, 7, 0, []), (14, 1, 2, 0, 2, 0, []), (15, 1, 33, 0, 0, 0, []), (16, 2, 0, 100, 0, 0, []), (18, 3, 21, 0, 23, 5, []), (21, 1, 0, (-1), 0, 0, []), (22, 1, 70, 0, 0, 0, []), (23, 1, 3, 0, 1, 0, []), (24, 3, 30, 0, 7, 0, []), (27, 1, 2, 0, 2, 0, []), (28, 1, 33, 0, 0, 0, []), (29, 2, 5, 0, 4, 0, []), (31, 1, 2, 0, 2, 0, []), (32, 1, 0, 1, 0, 0, []), (33, 1, 9, 0, 0, 0, []), (34, 2, 5, 0, 5, 0, []), (36, 1, 0, 0, 0, 0, []), (37, 2, 5, 0, 6, 0, []), (39, 2, 2, 0, 6, 0, []), (41, 2, 2, 0, 4, 0, []), (43, 3, 21, 0, 222, 3, []), (46, 2, 2, 0, 5, 0, []), (48, 1, 0, 1, 0, 0, []), (49, 1, 9, 0, 0, 0, []), (50, 1, 2, 0, 3, 0, []), (51, 3, 21, 0, 66, 3, []), (54, 1, 3, 0, 1, 0, []), (55, 3, 30, 0, 7, 0, []), (58, 2, 2, 0, 5, 0, []), (60, 1, 0, 1, 0, 0, []), (61, 1, 9, 0, 0, 0, []), (62, 1, 33, 0, 0, 0, []), (63, 3, 22, 0, 67, 0, []), (66, 1, 0, 0, 0, 0, []), (67, 2, 5, 0, 7, 0, []), (69, 2, 2, 0, 7, 0, []), (71, 1, 0, 1, 0, 0, []), (72, 3, 21, 0, 93, 2, []), (75, 2, 2, 0, 7, 0, []), (77, 1, 0, 3, 0, 0, []), (78, 3, 21, 0, 93, 4, []), (81, 2, 2, 0, 5, 0, []), (83, 2, 2, 0, 7, 0, []), (85, 1, 9, 0, 0, 0, []), (86, 2, 0, 6, 0, 0, []), (88, 1, 9, 0, 0, 0, []), (89, 1, 2, 0, 3, 0, []), (90, 3, 21, 0, 95, 5, []), (93, 1, 0, (-1), 0, 0, []), (94, 1, 70, 0, 0, 0, []), (95, 1, 3, 0, 1, 0, []), (96, 3, 30, 0, 7, 0, []), (99, 2, 2, 0, 5, 0, []), (101, 1, 33, 0, 0, 0, []), (102, 2, 5, 0, 8, 0, []), (104, 1, 3, 0, 1, 0, []), (105, 2, 2, 0, 5, 0, []), (107, 1, 0, 2, 0, 0, []), (108, 1, 9, 0, 0, 0, []), (109, 2, 2, 0, 7, 0, []), (111, 3, 50, 0, 76, 2, [7, 0, 0]), (114, 2, 5, 0, 9, 0, []), (116, 1, 3, 0, 1, 0, []), (117, 2, 2, 0, 5, 0, []), (119, 1, 0, 2, 0, 0, []), (120, 1, 9, 0, 0, 0, []), (121, 2, 2, 0, 7, 0, []), (123, 1, 9, 0, 0, 0, []), (124, 1, 0, 3, 0, 0, []), (125, 3, 50, 0, 76, 2, [7, 0, 0]), (128, 2, 5, 0, 10, 0, []), (130, 1, 3, 0, 1, 0, []), (131, 3, 30, 0, 7, 0, []), (134, 2, 2, 0, 5, 0, []), (136, 1, 0, 5, 0, 0, []), (137, 1, 9, 0, 0, 0, []), (138, 2, 2, 0, 7, 0, []), (140, 1, 9, 0, 0, 0, []), (141, 1, 33, 0, 0, 0, []), (142, 2, 5, 0, 11, 0, []), (144, 2, 2, 0, 8, 0, []), (146, 3, 51, 0, 147, 1, [11, 0, 0]), (149, 3, 20, 0, 179, 0, []), (152, 2, 2, 0, 10, 0, []), (154, 3, 51, 0, 145, 1, [11, 0, 0]), (157, 3, 20, 0, 179, 0, []), (160, 2, 2, 0, 11, 0, []), (162, 1, 0, 1, 0, 0, []), (163, 3, 21, 0, 179, 4, []), (166, 1, 3, 0, 0, 0, []), (167, 2, 2, 0, 8, 0, []), (169, 2, 2, 0, 9, 0, []), (171, 2, 2, 0, 7, 0, [])]
def tk_7_1 : mK := [(173, 3, 50, 0, 1, 3, [0, 0, 0]), (176, 3, 20, 0, 181, 2, []), (179, 1, 0, (-1), 0, 0, []), (180, 1, 70, 0, 0, 0, []), (181, 1, 3, 0, 0, 0, []), (182, 2, 2, 0, 6, 0, []), (184, 2, 2, 0, 8, 0, []), (186, 2, 2, 0, 9, 0, []), (188, 2, 2, 0, 7, 0, []), (190, 2, 2, 0, 10, 0, []), (192, 2, 2, 0, 11, 0, []), (194, 1, 0, 1, 0, 0, []), (195, 3, 21, 0, 202, 1, []), (198, 1, 0, 1, 0, 0, []), (199, 3, 22, 0, 203, 0, []), (202, 1, 0, 0, 0, 0, []), (203, 3, 50, 0, 2, 6, [0, 0, 0]), (206, 2, 2, 0, 5, 0, []), (208, 2, 2, 0, 7, 0, []), (210, 2, 0, 6, 0, 0, []), (212, 1, 9, 0, 0, 0, []), (213, 1, 9, 0, 0, 0, []), (214, 2, 5, 0, 5, 0, []), (216, 3, 8, 1, 6, 0, []), (219, 3, 22, 0, 39, 0, []), (222, 2, 2, 0, 5, 0, []), (224, 1, 70, 0, 0, 0, [])]
def tk_7 : mK := tk_7_0 ++ (tk_7_1)
/-- CodeExchange$Forms.textOf(II)J -/
def tk_8 : mK := [(0, 1, 2, 0, 0, 0, []), (1, 1, 0, 3, 0, 0, []), (2, 3, 21, 0, 10, 1, []), (5, 1, 2, 0, 1, 0, []), (6, 3, 51, 0, 10, 1, [1, 0, 0]), (9, 1, 71, 0, 0, 0, []), (10, 1, 2, 0, 1, 0, []), (11, 2, 0, 65536, 0, 0, []), (13, 3, 21, 0, 27, 3, []), (16, 3, 1, 8589934592, 0, 0, []), (19, 1, 2, 0, 0, 0, []), (20, 1, 2, 0, 1, 0, []), (21, 3, 51, 0, 9, 2, [1, 0, 0]), (24, 1, 15, 0, 0, 0, []), (25, 1, 12, 0, 0, 4, []), (26, 1, 71, 0, 0, 0, []), (27, 1, 2, 0, 0, 0, []), (28, 2, 0, 55296, 0, 0, []), (30, 1, 2, 0, 1, 0, []), (31, 2, 0, 65536, 0, 0, []), (33, 1, 9, 0, 0, 1, []), (34, 3, 0, 1024, 0, 0, []), (37, 1, 10, 0, 0, 0, []), (38, 1, 9, 0, 0, 0, []), (39, 3, 51, 0, 9, 2, [1, 0, 0]), (42, 1, 15, 0, 0, 0, []), (43, 1, 7, 0, 2, 0, []), (44, 1, 2, 0, 0, 0, []), (45, 2, 0, 56320, 0, 0, []), (47, 1, 2, 0, 1, 0, []), (48, 2, 0, 65536, 0, 0, []), (50, 1, 9, 0, 0, 1, []), (51, 3, 0, 1024, 0, 0, []), (54, 1, 11, 0, 0, 0, []), (55, 1, 9, 0, 0, 0, []), (56, 3, 51, 0, 9, 2, [1, 0, 0]), (59, 1, 15, 0, 0, 0, []), (60, 2, 7, 0, 4, 0, []), (62, 3, 1, 17179869184, 0, 0, []), (65, 1, 4, 0, 2, 0, []), (66, 2, 0, 16, 0, 0, []), (68, 1, 14, 0, 0, 0, []), (69, 1, 12, 0, 0, 4, []), (70, 2, 4, 0, 4, 0, []), (72, 1, 12, 0, 0, 4, []), (73, 1, 71, 0, 0, 0, [])]
/-- CodeExchange$Forms.unitText(II)I -/
def tk_9 : mK := [(0, 1, 2, 0, 0, 0, []), (1, 1, 0, 1, 0, 0, []), (2, 3, 21, 0, 9, 1, []), (5, 1, 2, 0, 1, 0, []), (6, 3, 22, 0, 22, 0, []), (9, 1, 2, 0, 1, 0, []), (10, 3, 0, 255, 0, 0, []), (13, 1, 9, 0, 0, 3, []), (14, 2, 0, 8, 0, 0, []), (16, 1, 9, 0, 0, 6, []), (17, 1, 2, 0, 1, 0, []), (18, 2, 0, 8, 0, 0, []), (20, 1, 9, 0, 0, 7, []), (21, 1, 9, 0, 0, 4, []), (22, 1, 70, 0, 0, 0, [])]
/-- CodeExchange$Forms.fewText(I)J -/
def tk_10 : mK := [(0, 1, 2, 0, 0, 0, []), (1, 3, 0, 128, 0, 0, []), (4, 3, 21, 0, 14, 3, []), (7, 3, 1, 4294967296, 0, 0, []), (10, 1, 2, 0, 0, 0, []), (11, 1, 15, 0, 0, 0, []), (12, 1, 12, 0, 0, 4, []), (13, 1, 71, 0, 0, 0, []), (14, 3, 0, 128, 0, 0, []), (17, 1, 2, 0, 0, 0, []), (18, 2, 0, 63, 0, 0, []), (20, 1, 9, 0, 0, 3, []), (21, 1, 9, 0, 0, 4, []), (22, 1, 5, 0, 1, 0, []), (23, 3, 0, 128, 0, 0, []), (26, 1, 2, 0, 0, 0, []), (27, 2, 0, 6, 0, 0, []), (29, 1, 9, 0, 0, 7, []), (30, 2, 0, 63, 0, 0, []), (32, 1, 9, 0, 0, 3, []), (33, 1, 9, 0, 0, 4, []), (34, 1, 5, 0, 2, 0, []), (35, 1, 2, 0, 0, 0, []), (36, 3, 0, 2048, 0, 0, []), (39, 3, 21, 0, 62, 3, []), (42, 3, 1, 8589934592, 0, 0, []), (45, 3, 0, 192, 0, 0, []), (48, 1, 2, 0, 0, 0, []), (49, 2, 0, 6, 0, 0, []), (51, 1, 9, 0, 0, 7, []), (52, 1, 9, 0, 0, 4, []), (53, 2, 0, 8, 0, 0, []), (55, 1, 9, 0, 0, 6, []), (56, 1, 15, 0, 0, 0, []), (57, 1, 12, 0, 0, 4, []), (58, 1, 2, 0, 1, 0, []), (59, 1, 15, 0, 0, 0, []), (60, 1, 12, 0, 0, 4, []), (61, 1, 71, 0, 0, 0, []), (62, 1, 2, 0, 0, 0, []), (63, 2, 0, 65536, 0, 0, []), (65, 3, 21, 0, 94, 3, []), (68, 3, 1, 12884901888, 0, 0, []), (71, 3, 0, 224, 0, 0, []), (74, 1, 2, 0, 0, 0, []), (75, 2, 0, 12, 0, 0, []), (77, 1, 9, 0, 0, 7, []), (78, 1, 9, 0, 0, 4, []), (79, 2, 0, 16, 0, 0, []), (81, 1, 9, 0, 0, 6, []), (82, 1, 15, 0, 0, 0, []), (83, 1, 12, 0, 0, 4, []), (84, 1, 2, 0, 2, 0, []), (85, 2, 0, 8, 0, 0, []), (87, 1, 9, 0, 0, 6, []), (88, 1, 15, 0, 0, 0, []), (89, 1, 12, 0, 0, 4, []), (90, 1, 2, 0, 1, 0, []), (91, 1, 15, 0, 0, 0, []), (92, 1, 12, 0, 0, 4, []), (93, 1, 71, 0, 0, 0, []), (94, 3, 0, 128, 0, 0, []), (97, 1, 2, 0, 0, 0, []), (98, 2, 0, 12, 0, 0, []), (100, 1, 9, 0, 0, 7, []), (101, 2, 0, 63, 0, 0, []), (103, 1, 9, 0, 0, 3, []), (104, 1, 9, 0, 0, 4, []), (105, 1, 5, 0, 3, 0, []), (106, 3, 0, 240, 0, 0, []), (109, 1, 2, 0, 0, 0, []), (110, 2, 0, 18, 0, 0, []), (112, 1, 9, 0, 0, 7, []), (113, 1, 9, 0, 0, 4, []), (114, 1, 15, 0, 0, 0, []), (115, 2, 7, 0, 4, 0, []), (117, 3, 1, 17179869184, 0, 0, []), (120, 2, 4, 0, 4, 0, []), (122, 2, 0, 24, 0, 0, []), (124, 1, 14, 0, 0, 0, []), (125, 1, 12, 0, 0, 4, []), (126, 1, 2, 0, 3, 0, []), (127, 2, 0, 16, 0, 0, []), (129, 1, 9, 0, 0, 6, []), (130, 1, 15, 0, 0, 0, []), (131, 1, 12, 0, 0, 4, []), (132, 1, 2, 0, 2, 0, []), (133, 2, 0, 8, 0, 0, []), (135, 1, 9, 0, 0, 6, []), (136, 1, 15, 0, 0, 0, []), (137, 1, 12, 0, 0, 4, []), (138, 1, 2, 0, 1, 0, []), (139, 1, 15, 0, 0, 0, []), (140, 1, 12, 0, 0, 4, []), (141, 1, 71, 0, 0, 0, [])]
/-- CodeExchange$Forms.findUnits(Z[IIILCodeExchange$Found;)V -/
def tk_11 : mK := [(0, 1, 2, 0, 2, 0, []), (1, 1, 0, 1, 0, 0, []), (2, 1, 9, 0, 0, 0, []), (3, 1, 2, 0, 3, 0, []), (4, 3, 21, 0, 37, 2, []), (7, 1, 2, 0, 0, 0, []), (8, 3, 20, 0, 31, 0, []), (11, 1, 3, 0, 1, 0, []), (12, 1, 2, 0, 2, 0, []), (13, 1, 33, 0, 0, 0, []), (14, 2, 0, 8, 0, 0, []), (16, 1, 9, 0, 0, 6, []), (17, 3, 51, 0, 142, 1, [11, 0, 0]), (20, 3, 20, 0, 31, 0, []), (23, 2, 3, 0, 4, 0, []), (25, 3, 50, 0, 18, 0, [2, 0, 0]), (28, 3, 22, 0, 36, 0, []), (31, 2, 3, 0, 4, 0, []), (33, 3, 50, 0, 19, 0, [2, 0, 0]), (36, 1, 72, 0, 0, 0, []), (37, 1, 2, 0, 0, 0, []), (38, 1, 3, 0, 1, 0, []), (39, 1, 2, 0, 2, 0, []), (40, 3, 51, 0, 13, 3, [1, 0, 0]), (43, 2, 5, 0, 5, 0, []), (45, 2, 2, 0, 5, 0, []), (47, 3, 51, 0, 141, 1, [11, 0, 0]), (50, 3, 20, 0, 65, 0, []), (53, 1, 2, 0, 0, 0, []), (54, 1, 3, 0, 1, 0, []), (55, 1, 2, 0, 2, 0, []), (56, 1, 2, 0, 3, 0, []), (57, 2, 3, 0, 4, 0, []), (59, 3, 51, 0, 12, 5, [1, 0, 0]), (62, 3, 22, 0, 89, 0, []), (65, 2, 2, 0, 5, 0, []), (67, 3, 51, 0, 140, 1, [11, 0, 0]), (70, 3, 20, 0, 81, 0, []), (73, 2, 3, 0, 4, 0, []), (75, 3, 50, 0, 18, 0, [2, 0, 0]), (78, 3, 22, 0, 89, 0, []), (81, 2, 3, 0, 4, 0, []), (83, 2, 2, 0, 5, 0, []), (85, 1, 0, 2, 0, 0, []), (86, 3, 50, 0, 20, 2, [2, 0, 0]), (89, 1, 72, 0, 0, 0, [])]
/-- CodeExchange$Forms.findLowHalf(Z[IIILCodeExchange$Found;)V -/
def tk_12 : mK := [(0, 1, 2, 0, 3, 0, []), (1, 1, 2, 0, 2, 0, []), (2, 1, 9, 0, 0, 1, []), (3, 1, 0, 2, 0, 0, []), (4, 1, 9, 0, 0, 1, []), (5, 2, 5, 0, 5, 0, []), (7, 2, 2, 0, 5, 0, []), (9, 1, 0, 2, 0, 0, []), (10, 3, 21, 0, 17, 2, []), (13, 1, 0, 1, 0, 0, []), (14, 3, 22, 0, 18, 0, []), (17, 1, 0, 0, 0, 0, []), (18, 2, 5, 0, 6, 0, []), (20, 2, 2, 0, 5, 0, []), (22, 1, 0, 1, 0, 0, []), (23, 3, 21, 0, 44, 2, []), (26, 1, 2, 0, 0, 0, []), (27, 3, 20, 0, 44, 0, []), (30, 1, 3, 0, 1, 0, []), (31, 1, 2, 0, 2, 0, []), (32, 1, 0, 2, 0, 0, []), (33, 1, 9, 0, 0, 0, []), (34, 1, 33, 0, 0, 0, []), (35, 2, 0, 8, 0, 0, []), (37, 1, 9, 0, 0, 6, []), (38, 3, 51, 0, 142, 1, [11, 0, 0]), (41, 3, 20, 0, 48, 0, []), (44, 1, 0, 1, 0, 0, []), (45, 3, 22, 0, 49, 0, []), (48, 1, 0, 0, 0, 0, []), (49, 2, 5, 0, 7, 0, []), (51, 2, 2, 0, 6, 0, []), (53, 3, 20, 0, 69, 0, []), (56, 1, 2, 0, 0, 0, []), (57, 1, 3, 0, 1, 0, []), (58, 1, 2, 0, 2, 0, []), (59, 1, 0, 2, 0, 0, []), (60, 1, 9, 0, 0, 0, []), (61, 3, 51, 0, 13, 3, [1, 0, 0]), (64, 3, 51, 0, 142, 1, [11, 0, 0]), (67, 2, 5, 0, 7, 0, []), (69, 2, 2, 0, 7, 0, []), (71, 3, 20, 0, 82, 1, []), (74, 2, 3, 0, 4, 0, []), (76, 3, 50, 0, 18, 0, [2, 0, 0]), (79, 3, 22, 0, 122, 0, []), (82, 2, 2, 0, 6, 0, []), (84, 3, 20, 0, 117, 0, []), (87, 1, 2, 0, 0, 0, []), (88, 1, 3, 0, 1, 0, []), (89, 1, 2, 0, 2, 0, []), (90, 3, 51, 0, 13, 3, [1, 0, 0]), (93, 2, 5, 0, 8, 0, []), (95, 2, 3, 0, 4, 0, []), (97, 2, 2, 0, 8, 0, []), (99, 1, 2, 0, 0, 0, []), (100, 1, 3, 0, 1, 0, []), (101, 1, 2, 0, 2, 0, []), (102, 1, 0, 2, 0, 0, []), (103, 1, 9, 0, 0, 0, []), (104, 3, 51, 0, 13, 3, [1, 0, 0]), (107, 3, 51, 0, 143, 2, [11, 0, 0]), (110, 1, 0, 4, 0, 0, []), (111, 3, 50, 0, 20, 2, [2, 0, 0]), (114, 3, 22, 0, 122, 0, []), (117, 2, 3, 0, 4, 0, []), (119, 3, 50, 0, 19, 0, [2, 0, 0]), (122, 1, 72, 0, 0, 0, [])]
/-- CodeExchange$Forms.unitAt(Z[II)I -/
def tk_13 : mK := [(0, 1, 2, 0, 0, 0, []), (1, 3, 20, 0, 19, 0, []), (4, 1, 3, 0, 1, 0, []), (5, 1, 2, 0, 2, 0, []), (6, 1, 33, 0, 0, 0, []), (7, 2, 0, 8, 0, 0, []), (9, 1, 9, 0, 0, 6, []), (10, 1, 3, 0, 1, 0, []), (11, 1, 2, 0, 2, 0, []), (12, 1, 0, 1, 0, 0, []), (13, 1, 9, 0, 0, 0, []), (14, 1, 33, 0, 0, 0, []), (15, 1, 9, 0, 0, 4, []), (16, 3, 22, 0, 31, 0, []), (19, 1, 3, 0, 1, 0, []), (20, 1, 2, 0, 2, 0, []), (21, 1, 0, 1, 0, 0, []), (22, 1, 9, 0, 0, 0, []), (23, 1, 33, 0, 0, 0, []), (24, 2, 0, 8, 0, 0, []), (26, 1, 9, 0, 0, 6, []), (27, 1, 3, 0, 1, 0, []), (28, 1, 2, 0, 2, 0, []), (29, 1, 33, 0, 0, 0, []), (30, 1, 9, 0, 0, 4, []), (31, 1, 70, 0, 0, 0, [])]
/-- CodeExchange$Forms.findFew([IIILCodeExchange$Found;)V -/
def tk_14 : mK := [(0, 1, 3, 0, 0, 0, []), (1, 1, 2, 0, 1, 0, []), (2, 1, 33, 0, 0, 0, []), (3, 3, 51, 0, 15, 1, [1, 0, 0]), (6, 2, 5, 0, 4, 0, []), (8, 2, 2, 0, 4, 0, []), (10, 1, 2, 0, 2, 0, []), (11, 1, 2, 0, 1, 0, []), (12, 1, 9, 0, 0, 1, []), (13, 3, 55, 0, 0, 0, []), (16, 2, 5, 0, 5, 0, []), (18, 2, 2, 0, 4, 0, []), (20, 1, 0, 1, 0, 0, []), (21, 3, 21, 0, 30, 1, []), (24, 1, 3, 0, 0, 0, []), (25, 1, 2, 0, 1, 0, []), (26, 1, 33, 0, 0, 0, []), (27, 3, 22, 0, 39, 0, []), (30, 1, 3, 0, 0, 0, []), (31, 1, 2, 0, 1, 0, []), (32, 1, 33, 0, 0, 0, []), (33, 2, 0, 127, 0, 0, []), (35, 2, 2, 0, 4, 0, []), (37, 1, 9, 0, 0, 7, []), (38, 1, 9, 0, 0, 3, []), (39, 2, 5, 0, 6, 0, []), (41, 2, 2, 0, 4, 0, []), (43, 3, 20, 0, 50, 5, []), (46, 1, 0, 1, 0, 0, []), (47, 3, 22, 0, 51, 0, []), (50, 1, 0, 0, 0, 0, []), (51, 2, 5, 0, 7, 0, []), (53, 1, 0, 1, 0, 0, []), (54, 2, 5, 0, 8, 0, []), (56, 2, 2, 0, 8, 0, []), (58, 2, 2, 0, 5, 0, []), (60, 3, 21, 0, 114, 3, []), (63, 2, 2, 0, 7, 0, []), (65, 3, 20, 0, 88, 0, []), (68, 1, 3, 0, 0, 0, []), (69, 1, 2, 0, 1, 0, []), (70, 2, 2, 0, 8, 0, []), (72, 1, 9, 0, 0, 0, []), (73, 1, 33, 0, 0, 0, []), (74, 3, 0, 192, 0, 0, []), (77, 1, 9, 0, 0, 3, []), (78, 3, 0, 128, 0, 0, []), (81, 3, 21, 0, 88, 1, []), (84, 1, 0, 1, 0, 0, []), (85, 3, 22, 0, 89, 0, []), (88, 1, 0, 0, 0, 0, []), (89, 2, 5, 0, 7, 0, []), (91, 2, 2, 0, 6, 0, []), (93, 2, 0, 6, 0, 0, []), (95, 1, 9, 0, 0, 6, []), (96, 1, 3, 0, 0, 0, []), (97, 1, 2, 0, 1, 0, []), (98, 2, 2, 0, 8, 0, []), (100, 1, 9, 0, 0, 0, []), (101, 1, 33, 0, 0, 0, []), (102, 2, 0, 63, 0, 0, []), (104, 1, 9, 0, 0, 3, []), (105, 1, 9, 0, 0, 4, []), (106, 2, 5, 0, 6, 0, []), (108, 3, 8, 1, 8, 0, []), (111, 3, 22, 0, 56, 0, []), (114, 2, 0, 6, 0, 0, []), (116, 2, 2, 0, 4, 0, []), (118, 2, 2, 0, 5, 0, []), (120, 1, 9, 0, 0, 1, []), (121, 1, 9, 0, 0, 2, []), (122, 2, 5, 0, 8, 0, []), (124, 2, 2, 0, 7, 0, []), (126, 3, 20, 0, 151, 0, []), (129, 2, 2, 0, 6, 0, []), (131, 2, 2, 0, 8, 0, []), (133, 1, 9, 0, 0, 6, []), (134, 2, 2, 0, 6, 0, []), (136, 1, 0, 1, 0, 0, []), (137, 1, 9, 0, 0, 0, []), (138, 2, 2, 0, 8, 0, []), (140, 1, 9, 0, 0, 6, []), (141, 1, 0, 1, 0, 0, []), (142, 1, 9, 0, 0, 1, []), (143, 2, 2, 0, 4, 0, []), (145, 3, 51, 0, 16, 3, [1, 0, 0]), (148, 3, 20, 0, 158, 1, []), (151, 1, 3, 0, 3, 0, []), (152, 3, 50, 0, 18, 0, [2, 0, 0]), (155, 3, 22, 0, 180, 0, []), (158, 2, 2, 0, 5, 0, []), (160, 2, 2, 0, 4, 0, []), (162, 3, 21, 0, 176, 1, []), (165, 1, 3, 0, 3, 0, []), (166, 2, 2, 0, 6, 0, []), (168, 2, 2, 0, 4, 0, []), (170, 3, 50, 0, 20, 2, [2, 0, 0]), (173, 3, 22, 0, 180, 0, []), (176, 1, 3, 0, 3, 0, []), (177, 3, 50, 0, 19, 0, [2, 0, 0]), (180, 1, 72, 0, 0, 0, [])]
/-- CodeExchange$Forms.fewLength(I)I -/
def tk_15 : mK := [(0, 1, 2, 0, 0, 0, []), (1, 3, 0, 128, 0, 0, []), (4, 3, 21, 0, 9, 3, []), (7, 1, 0, 1, 0, 0, []), (8, 1, 70, 0, 0, 0, []), (9, 1, 2, 0, 0, 0, []), (10, 3, 0, 192, 0, 0, []), (13, 3, 21, 0, 23, 2, []), (16, 1, 2, 0, 0, 0, []), (17, 3, 0, 248, 0, 0, []), (20, 3, 21, 0, 25, 2, []), (23, 1, 0, 0, 0, 0, []), (24, 1, 70, 0, 0, 0, []), (25, 1, 2, 0, 0, 0, []), (26, 3, 0, 224, 0, 0, []), (29, 3, 21, 0, 34, 3, []), (32, 1, 0, 2, 0, 0, []), (33, 1, 70, 0, 0, 0, []), (34, 1, 2, 0, 0, 0, []), (35, 3, 0, 240, 0, 0, []), (38, 3, 21, 0, 45, 3, []), (41, 1, 0, 3, 0, 0, []), (42, 3, 22, 0, 46, 0, []), (45, 1, 0, 4, 0, 0, []), (46, 1, 70, 0, 0, 0, [])]
/-- CodeExchange$Forms.holdsPoint(III)Z -/
def tk_16 : mK := [(0, 1, 0, 0, 0, 0, []), (1, 1, 5, 0, 3, 0, []), (2, 1, 2, 0, 2, 0, []), (3, 1, 0, 1, 0, 0, []), (4, 3, 21, 0, 32, 5, []), (7, 1, 2, 0, 2, 0, []), (8, 1, 0, 2, 0, 0, []), (9, 3, 21, 0, 18, 1, []), (12, 3, 0, 128, 0, 0, []), (15, 3, 22, 0, 31, 0, []), (18, 1, 2, 0, 2, 0, []), (19, 1, 0, 3, 0, 0, []), (20, 3, 21, 0, 29, 1, []), (23, 3, 0, 2048, 0, 0, []), (26, 3, 22, 0, 31, 0, []), (29, 2, 0, 65536, 0, 0, []), (31, 1, 5, 0, 3, 0, []), (32, 1, 2, 0, 1, 0, []), (33, 1, 2, 0, 3, 0, []), (34, 3, 21, 0, 61, 2, []), (37, 1, 2, 0, 0, 0, []), (38, 2, 0, 1114111, 0, 0, []), (40, 3, 21, 0, 61, 4, []), (43, 1, 2, 0, 0, 0, []), (44, 3, 51, 0, 140, 1, [11, 0, 0]), (47, 3, 20, 0, 57, 0, []), (50, 1, 2, 0, 1, 0, []), (51, 3, 51, 0, 140, 1, [11, 0, 0]), (54, 3, 20, 0, 61, 1, []), (57, 1, 0, 1, 0, 0, []), (58, 3, 22, 0, 62, 0, []), (61, 1, 0, 0, 0, 0, []), (62, 1, 70, 0, 1, 0, [])]
/-- CodeExchange$Found.<init>()V -/
def tk_17 : mK := [(0, 1, 3, 0, 0, 0, []), (1, 3, 53, 0, 0, 0, []), (4, 1, 72, 0, 0, 0, [])]
/-- CodeExchange$Found.setNone()V -/
def tk_18 : mK := [(0, 1, 3, 0, 0, 0, []), (1, 1, 0, 0, 0, 0, []), (2, 3, 31, 0, 2, 0, []), (5, 1, 72, 0, 0, 0, [])]
/-- CodeExchange$Found.setPart()V -/
def tk_19 : mK := [(0, 1, 3, 0, 0, 0, []), (1, 1, 0, 1, 0, 0, []), (2, 3, 31, 0, 2, 0, []), (5, 1, 72, 0, 0, 0, [])]
/-- CodeExchange$Found.setWhole(II)V -/
def tk_20 : mK := [(0, 1, 3, 0, 0, 0, []), (1, 1, 0, 2, 0, 0, []), (2, 3, 31, 0, 2, 0, []), (5, 1, 3, 0, 0, 0, []), (6, 1, 2, 0, 1, 0, []), (7, 3, 31, 0, 2, 2, []), (10, 1, 3, 0, 0, 0, []), (11, 1, 2, 0, 2, 0, []), (12, 3, 31, 0, 2, 1, []), (15, 1, 72, 0, 0, 0, [])]
/-- CodeExchange$Found.setShift(IZ)V -/
def tk_21 : mK := [(0, 1, 3, 0, 0, 0, []), (1, 1, 0, 3, 0, 0, []), (2, 3, 31, 0, 2, 0, []), (5, 1, 3, 0, 0, 0, []), (6, 1, 2, 0, 1, 0, []), (7, 3, 31, 0, 2, 3, []), (10, 1, 3, 0, 0, 0, []), (11, 1, 2, 0, 2, 0, []), (12, 3, 31, 0, 2, 4, []), (15, 1, 3, 0, 0, 0, []), (16, 1, 0, 1, 0, 0, []), (17, 3, 31, 0, 2, 1, []), (20, 1, 72, 0, 0, 0, [])]
/-- CodeExchange$Machine.<init>(LCodeExchange$Rules;LCodeExchange$Page;)V -/
def tk_22 : mK := [(0, 1, 3, 0, 0, 0, []), (1, 3, 53, 0, 0, 0, []), (4, 1, 3, 0, 0, 0, []), (5, 1, 0, (-1), 0, 0, []), (6, 3, 31, 0, 3, 3, []), (9, 1, 3, 0, 0, 0, []), (10, 1, 0, 4, 0, 0, []), (11, 2, 40, 0, 0, 0, []), (13, 3, 31, 0, 3, 4, []), (16, 1, 3, 0, 0, 0, []), (17, 3, 42, 0, 7, 2, []), (20, 1, 17, 0, 0, 0, []), (21, 3, 0, 128, 0, 0, []), (24, 3, 52, 0, 70, 1, [7, 1, 6000]), (27, 3, 31, 0, 3, 8, []), (30, 1, 3, 0, 0, 0, []), (31, 3, 0, 429, 0, 0, []), (34, 2, 40, 0, 0, 0, []), (36, 3, 31, 0, 3, 9, []), (39, 1, 3, 0, 0, 0, []), (40, 3, 42, 0, 5, 7, []), (43, 1, 17, 0, 0, 0, []), (44, 1, 3, 0, 1, 0, []), (45, 1, 3, 0, 2, 0, []), (46, 3, 52, 0, 58, 2, [5, 1, 5]), (49, 3, 31, 0, 3, 0, []), (52, 1, 3, 0, 0, 0, []), (53, 3, 42, 0, 10, 6, []), (56, 1, 17, 0, 0, 0, []), (57, 1, 3, 0, 1, 0, []), (58, 1, 3, 0, 2, 0, []), (59, 3, 52, 0, 100, 2, [10, 4, 12004]), (62, 3, 31, 0, 3, 1, []), (65, 1, 72, 0, 0, 0, [])]
/-- CodeExchange$Machine.start(LCodeExchange$Page;ZI)V -/
def tk_23 : mK := [(0, 1, 3, 0, 0, 0, []), (1, 3, 30, 0, 3, 0, []), (4, 1, 3, 0, 1, 0, []), (5, 1, 2, 0, 3, 0, []), (6, 3, 50, 0, 59, 2, [5, 0, 0]), (9, 1, 3, 0, 0, 0, []), (10, 3, 30, 0, 3, 1, []), (13, 1, 3, 0, 1, 0, []), (14, 1, 2, 0, 3, 0, []), (15, 1, 0, 0, 0, 0, []), (16, 3, 50, 0, 101, 3, [10, 0, 0]), (19, 1, 3, 0, 0, 0, []), (20, 1, 2, 0, 2, 0, []), (21, 3, 31, 0, 3, 2, []), (24, 1, 3, 0, 0, 0, []), (25, 1, 0, 0, 0, 0, []), (26, 3, 31, 0, 3, 3, []), (29, 1, 3, 0, 0, 0, []), (30, 1, 0, 0, 0, 0, []), (31, 3, 31, 0, 3, 5, []), (34, 1, 3, 0, 0, 0, []), (35, 1, 0, 0, 0, 0, []), (36, 3, 31, 0, 3, 6, []), (39, 1, 3, 0, 0, 0, []), (40, 1, 0, 0, 0, 0, []), (41, 3, 31, 0, 3, 10, []), (44, 1, 3, 0, 0, 0, []), (45, 1, 0, 0, 0, 0, []), (46, 3, 31, 0, 3, 11, []), (49, 1, 72, 0, 0, 0, [])]
/-- CodeExchange$Machine.takeFirst()I -/
def tk_24 : mK := [(0, 1, 3, 0, 0, 0, []), (1, 3, 30, 0, 3, 9, []), (4, 1, 3, 0, 0, 0, []), (5, 3, 30, 0, 3, 10, []), (8, 1, 33, 0, 0, 0, []), (9, 1, 5, 0, 1, 0, []), (10, 1, 3, 0, 0, 0, []), (11, 1, 3, 0, 0, 0, []), (12, 3, 30, 0, 3, 10, []), (15, 1, 0, 1, 0, 0, []), (16, 1, 9, 0, 0, 0, []), (17, 3, 0, 429, 0, 0, []), (20, 1, 11, 0, 0, 0, []), (21, 3, 31, 0, 3, 10, []), (24, 1, 3, 0, 0, 0, []), (25, 1, 17, 0, 0, 0, []), (26, 3, 30, 0, 3, 11, []), (29, 1, 0, 1, 0, 0, []), (30, 1, 9, 0, 0, 1, []), (31, 3, 31, 0, 3, 11, []), (34, 1, 2, 0, 1, 0, []), (35, 1, 70, 0, 0, 0, [])]
/-- CodeExchange$Machine.pour(LCodeExchange$Row;)V -/
def tk_25 : mK := [(0, 1, 0, 0, 0, 0, []), (1, 1, 5, 0, 2, 0, []), (2, 1, 2, 0, 2, 0, []), (3, 1, 3, 0, 1, 0, []), (4, 3, 30, 0, 7, 1, []), (7, 3, 21, 0, 60, 3, []), (10, 1, 3, 0, 0, 0, []), (11, 3, 30, 0, 3, 11, []), (14, 3, 0, 429, 0, 0, []), (17, 3, 21, 0, 60, 3, []), (20, 1, 3, 0, 0, 0, []), (21, 3, 30, 0, 3, 9, []), (24, 1, 3, 0, 0, 0, []), (25, 3, 30, 0, 3, 10, []), (28, 1, 3, 0, 0, 0, []), (29, 3, 30, 0, 3, 11, []), (32, 1, 9, 0, 0, 0, []), (33, 3, 0, 429, 0, 0, []), (36, 1, 11, 0, 0, 0, []), (37, 1, 3, 0, 1, 0, []), (38, 3, 30, 0, 7, 0, []), (41, 1, 2, 0, 2, 0, []), (42, 1, 33, 0, 0, 0, []), (43, 1, 36, 0, 0, 0, []), (44, 1, 3, 0, 0, 0, []), (45, 1, 17, 0, 0, 0, []), (46, 3, 30, 0, 3, 11, []), (49, 1, 0, 1, 0, 0, []), (50, 1, 9, 0, 0, 0, []), (51, 3, 31, 0, 3, 11, []), (54, 3, 8, 1, 2, 0, []), (57, 3, 22, 0, 2, 0, []), (60, 1, 72, 0, 0, 0, [])]
/-- CodeExchange$Machine.stopAt(II)I -/
def tk_26 : mK := [(0, 1, 3, 0, 0, 0, []), (1, 1, 2, 0, 1, 0, []), (2, 3, 31, 0, 3, 7, []), (5, 1, 3, 0, 0, 0, []), (6, 1, 0, 2, 0, 0, []), (7, 3, 31, 0, 3, 3, []), (10, 1, 3, 0, 0, 0, []), (11, 1, 0, 0, 0, 0, []), (12, 3, 31, 0, 3, 5, []), (15, 1, 2, 0, 2, 0, []), (16, 1, 70, 0, 0, 0, [])]
/-- CodeExchange$Machine.acceptByte(I)I -/
def tk_27 : mK := [(0, 1, 3, 0, 0, 0, []), (1, 3, 30, 0, 3, 5, []), (4, 1, 0, 4, 0, 0, []), (5, 3, 21, 0, 28, 3, []), (8, 1, 3, 0, 0, 0, []), (9, 3, 30, 0, 3, 4, []), (12, 1, 3, 0, 0, 0, []), (13, 3, 30, 0, 3, 5, []), (16, 1, 2, 0, 1, 0, []), (17, 1, 36, 0, 0, 0, []), (18, 1, 3, 0, 0, 0, []), (19, 1, 17, 0, 0, 0, []), (20, 3, 30, 0, 3, 5, []), (23, 1, 0, 1, 0, 0, []), (24, 1, 9, 0, 0, 0, []), (25, 3, 31, 0, 3, 5, []), (28, 1, 3, 0, 0, 0, []), (29, 1, 17, 0, 0, 0, []), (30, 3, 30, 0, 3, 6, []), (33, 1, 0, 1, 0, 0, []), (34, 1, 9, 0, 0, 0, []), (35, 3, 31, 0, 3, 6, []), (38, 1, 3, 0, 0, 0, []), (39, 1, 0, 0, 0, 0, []), (40, 3, 50, 0, 29, 1, [3, 0, 0]), (43, 1, 70, 0, 0, 0, [])]
/-- CodeExchange$Machine.endBytes()I -/
def tk_28 : mK := [(0, 1, 3, 0, 0, 0, []), (1, 1, 0, 1, 0, 0, []), (2, 3, 50, 0, 29, 1, [3, 0, 0]), (5, 1, 5, 0, 1, 0, []), (6, 1, 2, 0, 1, 0, []), (7, 3, 20, 0, 23, 2, []), (10, 1, 3, 0, 0, 0, []), (11, 1, 0, 1, 0, 0, []), (12, 3, 31, 0, 3, 3, []), (15, 1, 3, 0, 0, 0, []), (16, 3, 30, 0, 3, 0, []), (19, 1, 0, 4, 0, 0, []), (20, 3, 31, 0, 5, 5, []), (23, 1, 2, 0, 1, 0, []), (24, 1, 70, 0, 0, 0, [])]
/-- CodeExchange$Machine.readKept(Z)I -/
def tk_29 : mK := [(0, 1, 3, 0, 0, 0, []), (1, 3, 30, 0, 3, 8, []), (4, 3, 50, 0, 71, 0, [7, 0, 0]), (7, 1, 0, 1, 0, 0, []), (8, 1, 5, 0, 2, 0, []), (9, 1, 3, 0, 0, 0, []), (10, 3, 30, 0, 3, 5, []), (13, 3, 20, 0, 76, 5, []), (16, 1, 2, 0, 2, 0, []), (17, 3, 20, 0, 76, 5, []), (20, 1, 3, 0, 0, 0, []), (21, 3, 30, 0, 3, 0, []), (24, 1, 3, 0, 0, 0, []), (25, 3, 30, 0, 3, 4, []), (28, 1, 0, 0, 0, 0, []), (29, 1, 3, 0, 0, 0, []), (30, 3, 30, 0, 3, 5, []), (33, 1, 2, 0, 1, 0, []), (34, 1, 3, 0, 0, 0, []), (35, 3, 30, 0, 3, 8, []), (38, 3, 50, 0, 60, 5, [5, 0, 0]), (41, 1, 5, 0, 2, 0, []), (42, 1, 2, 0, 2, 0, []), (43, 3, 20, 0, 9, 5, []), (46, 1, 3, 0, 0, 0, []), (47, 1, 17, 0, 0, 0, []), (48, 3, 30, 0, 3, 5, []), (51, 1, 2, 0, 2, 0, []), (52, 1, 9, 0, 0, 1, []), (53, 3, 31, 0, 3, 5, []), (56, 1, 3, 0, 0, 0, []), (57, 3, 30, 0, 3, 4, []), (60, 1, 2, 0, 2, 0, []), (61, 1, 3, 0, 0, 0, []), (62, 3, 30, 0, 3, 4, []), (65, 1, 0, 0, 0, 0, []), (66, 1, 3, 0, 0, 0, []), (67, 3, 30, 0, 3, 5, []), (70, 3, 56, 0, 0, 0, []), (73, 3, 22, 0, 9, 0, []), (76, 1, 3, 0, 0, 0, []), (77, 1, 3, 0, 0, 0, []), (78, 3, 30, 0, 3, 8, []), (81, 3, 50, 0, 25, 1, [3, 0, 0]), (84, 1, 2, 0, 2, 0, []), (85, 3, 20, 0, 106, 3, []), (88, 1, 3, 0, 0, 0, []), (89, 1, 3, 0, 0, 0, []), (90, 3, 30, 0, 3, 6, []), (93, 1, 3, 0, 0, 0, []), (94, 3, 30, 0, 3, 5, []), (97, 1, 9, 0, 0, 1, []), (98, 2, 0, (-9), 0, 0, []), (100, 3, 50, 0, 26, 2, [3, 0, 0]), (103, 3, 22, 0, 110, 0, []), (106, 1, 3, 0, 0, 0, []), (107, 3, 30, 0, 3, 11, []), (110, 1, 70, 0, 0, 0, [])]
/-- CodeExchange$Machine.acceptUnit(I)I -/
def tk_30 : mK := [(0, 1, 3, 0, 0, 0, []), (1, 1, 17, 0, 0, 0, []), (2, 3, 30, 0, 3, 6, []), (5, 1, 0, 1, 0, 0, []), (6, 1, 9, 0, 0, 0, []), (7, 3, 31, 0, 3, 6, []), (10, 1, 3, 0, 0, 0, []), (11, 3, 30, 0, 3, 5, []), (14, 3, 20, 0, 74, 5, []), (17, 1, 3, 0, 0, 0, []), (18, 1, 0, 0, 0, 0, []), (19, 3, 31, 0, 3, 5, []), (22, 1, 2, 0, 1, 0, []), (23, 3, 51, 0, 142, 1, [11, 0, 0]), (26, 3, 20, 0, 51, 0, []), (29, 1, 3, 0, 0, 0, []), (30, 1, 3, 0, 0, 0, []), (31, 3, 30, 0, 3, 4, []), (34, 1, 0, 0, 0, 0, []), (35, 1, 33, 0, 0, 0, []), (36, 1, 2, 0, 1, 0, []), (37, 3, 51, 0, 143, 2, [11, 0, 0]), (40, 1, 2, 0, 1, 0, []), (41, 1, 3, 0, 0, 0, []), (42, 3, 30, 0, 3, 6, []), (45, 1, 0, 2, 0, 0, []), (46, 1, 9, 0, 0, 1, []), (47, 3, 50, 0, 32, 3, [3, 0, 0]), (50, 1, 70, 0, 0, 0, []), (51, 1, 3, 0, 0, 0, []), (52, 1, 0, (-1), 0, 0, []), (53, 1, 3, 0, 0, 0, []), (54, 3, 30, 0, 3, 4, []), (57, 1, 0, 0, 0, 0, []), (58, 1, 33, 0, 0, 0, []), (59, 1, 3, 0, 0, 0, []), (60, 3, 30, 0, 3, 6, []), (63, 1, 0, 2, 0, 0, []), (64, 1, 9, 0, 0, 1, []), (65, 3, 50, 0, 32, 3, [3, 0, 0]), (68, 3, 20, 0, 74, 3, []), (71, 2, 0, (-10), 0, 0, []), (73, 1, 70, 0, 0, 0, []), (74, 1, 2, 0, 1, 0, []), (75, 3, 51, 0, 141, 1, [11, 0, 0]), (78, 3, 20, 0, 98, 0, []), (81, 1, 3, 0, 0, 0, []), (82, 3, 30, 0, 3, 4, []), (85, 1, 0, 0, 0, 0, []), (86, 1, 2, 0, 1, 0, []), (87, 1, 36, 0, 0, 0, []), (88, 1, 3, 0, 0, 0, []), (89, 1, 0, 1, 0, 0, []), (90, 3, 31, 0, 3, 5, []), (93, 1, 3, 0, 0, 0, []), (94, 3, 30, 0, 3, 11, []), (97, 1, 70, 0, 0, 0, []), (98, 1, 3, 0, 0, 0, []), (99, 1, 2, 0, 1, 0, []), (100, 3, 51, 0, 140, 1, [11, 0, 0]), (103, 3, 20, 0, 110, 0, []), (106, 1, 0, (-1), 0, 0, []), (107, 3, 22, 0, 111, 0, []), (110, 1, 2, 0, 1, 0, []), (111, 1, 2, 0, 1, 0, []), (112, 1, 3, 0, 0, 0, []), (113, 3, 30, 0, 3, 6, []), (116, 1, 0, 1, 0, 0, []), (117, 1, 9, 0, 0, 1, []), (118, 3, 50, 0, 32, 3, [3, 0, 0]), (121, 1, 70, 0, 0, 0, [])]
/-- CodeExchange$Machine.endUnits()I -/
def tk_31 : mK := [(0, 1, 3, 0, 0, 0, []), (1, 3, 30, 0, 3, 5, []), (4, 3, 20, 0, 30, 5, []), (7, 1, 3, 0, 0, 0, []), (8, 1, 0, (-1), 0, 0, []), (9, 1, 3, 0, 0, 0, []), (10, 3, 30, 0, 3, 4, []), (13, 1, 0, 0, 0, 0, []), (14, 1, 33, 0, 0, 0, []), (15, 1, 3, 0, 0, 0, []), (16, 3, 30, 0, 3, 6, []), (19, 1, 0, 1, 0, 0, []), (20, 1, 9, 0, 0, 1, []), (21, 3, 50, 0, 32, 3, [3, 0, 0]), (24, 3, 20, 0, 30, 3, []), (27, 2, 0, (-10), 0, 0, []), (29, 1, 70, 0, 0, 0, []), (30, 1, 3, 0, 0, 0, []), (31, 1, 0, 0, 0, 0, []), (32, 3, 31, 0, 3, 5, []), (35, 1, 3, 0, 0, 0, []), (36, 3, 30, 0, 3, 1, []), (39, 3, 50, 0, 103, 0, [10, 0, 0]), (42, 1, 3, 0, 0, 0, []), (43, 1, 3, 0, 0, 0, []), (44, 3, 30, 0, 3, 1, []), (47, 3, 30, 0, 10, 1, []), (50, 3, 50, 0, 25, 1, [3, 0, 0]), (53, 1, 3, 0, 0, 0, []), (54, 1, 0, 1, 0, 0, []), (55, 3, 31, 0, 3, 3, []), (58, 1, 3, 0, 0, 0, []), (59, 3, 30, 0, 3, 11, []), (62, 1, 70, 0, 0, 0, [])]
/-- CodeExchange$Machine.writeOut(III)I -/
def tk_32 : mK := [(0, 1, 3, 0, 0, 0, []), (1, 3, 30, 0, 3, 1, []), (4, 1, 2, 0, 1, 0, []), (5, 1, 2, 0, 2, 0, []), (6, 3, 50, 0, 102, 2, [10, 0, 0]), (9, 3, 20, 0, 20, 1, []), (12, 1, 3, 0, 0, 0, []), (13, 1, 2, 0, 3, 0, []), (14, 2, 0, (-10), 0, 0, []), (16, 3, 50, 0, 26, 2, [3, 0, 0]), (19, 1, 70, 0, 0, 0, []), (20, 1, 3, 0, 0, 0, []), (21, 1, 3, 0, 0, 0, []), (22, 3, 30, 0, 3, 1, []), (25, 3, 30, 0, 10, 1, []), (28, 3, 50, 0, 25, 1, [3, 0, 0]), (31, 1, 3, 0, 0, 0, []), (32, 3, 30, 0, 3, 11, []), (35, 1, 70, 0, 0, 0, [])]
/-- CodeExchange$Page.<init>(I)V -/
def tk_33 : mK := [(0, 1, 3, 0, 0, 0, []), (1, 3, 53, 0, 0, 0, []), (4, 1, 3, 0, 0, 0, []), (5, 3, 42, 0, 6, 4, []), (8, 1, 17, 0, 0, 0, []), (9, 3, 52, 0, 62, 0, [6, 4, 64]), (12, 3, 31, 0, 4, 4, []), (15, 1, 3, 0, 0, 0, []), (16, 1, 0, 1, 0, 0, []), (17, 3, 31, 0, 4, 9, []), (20, 1, 3, 0, 0, 0, []), (21, 1, 2, 0, 1, 0, []), (22, 3, 31, 0, 4, 0, []), (25, 1, 2, 0, 1, 0, []), (26, 3, 20, 0, 33, 1, []), (29, 1, 0, 1, 0, 0, []), (30, 3, 22, 0, 34, 0, []), (33, 1, 0, 0, 0, 0, []), (34, 1, 5, 0, 2, 0, []), (35, 1, 3, 0, 0, 0, []), (36, 1, 2, 0, 2, 0, []), (37, 3, 20, 0, 44, 1, []), (40, 1, 0, 1, 0, 0, []), (41, 3, 22, 0, 45, 0, []), (44, 1, 0, 0, 0, 0, []), (45, 3, 31, 0, 4, 1, []), (48, 1, 3, 0, 0, 0, []), (49, 3, 42, 0, 0, 6, []), (52, 1, 17, 0, 0, 0, []), (53, 1, 2, 0, 2, 0, []), (54, 3, 20, 0, 62, 0, []), (57, 2, 0, 100, 0, 0, []), (59, 3, 22, 0, 63, 0, []), (62, 1, 0, 0, 0, 0, []), (63, 3, 52, 0, 0, 1, [0, 5, 500]), (66, 3, 31, 0, 4, 2, []), (69, 1, 3, 0, 0, 0, []), (70, 3, 42, 0, 9, 5, []), (73, 1, 17, 0, 0, 0, []), (74, 1, 2, 0, 2, 0, []), (75, 3, 20, 0, 83, 0, []), (78, 2, 0, 10, 0, 0, []), (80, 3, 22, 0, 84, 0, []), (83, 1, 0, 0, 0, 0, []), (84, 3, 52, 0, 90, 1, [9, 4, 40]), (87, 3, 31, 0, 4, 3, []), (90, 1, 3, 0, 0, 0, []), (91, 1, 2, 0, 2, 0, []), (92, 3, 20, 0, 101, 0, []), (95, 3, 0, 1024, 0, 0, []), (98, 3, 22, 0, 102, 0, []), (101, 1, 0, 0, 0, 0, []), (102, 2, 40, 0, 0, 0, []), (104, 3, 31, 0, 4, 5, []), (107, 1, 3, 0, 0, 0, []), (108, 1, 2, 0, 2, 0, []), (109, 3, 20, 0, 117, 0, []), (112, 2, 0, 110, 0, 0, []), (114, 3, 22, 0, 118, 0, []), (117, 1, 0, 0, 0, 0, []), (118, 2, 40, 0, 0, 0, []), (120, 3, 31, 0, 4, 6, []), (123, 1, 3, 0, 0, 0, []), (124, 1, 2, 0, 2, 0, []), (125, 3, 20, 0, 133, 0, []), (128, 2, 0, 100, 0, 0, []), (130, 3, 22, 0, 134, 0, []), (133, 1, 0, 0, 0, 0, []), (134, 2, 40, 0, 0, 0, []), (136, 3, 31, 0, 4, 7, []), (139, 1, 72, 0, 0, 0, [])]
/-- CodeExchange$Page.isGood([I)Z -/
def tk_34 : mK := [(0, 1, 3, 0, 0, 0, []), (1, 1, 3, 0, 1, 0, []), (2, 3, 50, 0, 36, 1, [4, 0, 0]), (5, 3, 20, 0, 36, 1, []), (8, 1, 3, 0, 0, 0, []), (9, 1, 3, 0, 1, 0, []), (10, 3, 50, 0, 42, 1, [4, 0, 0]), (13, 3, 20, 0, 36, 1, []), (16, 1, 3, 0, 0, 0, []), (17, 1, 3, 0, 1, 0, []), (18, 3, 50, 0, 43, 1, [4, 0, 0]), (21, 3, 20, 0, 36, 1, []), (24, 1, 3, 0, 0, 0, []), (25, 1, 3, 0, 1, 0, []), (26, 3, 50, 0, 44, 1, [4, 0, 0]), (29, 3, 20, 0, 36, 1, []), (32, 1, 0, 1, 0, 0, []), (33, 3, 22, 0, 37, 0, []), (36, 1, 0, 0, 0, 0, []), (37, 1, 70, 0, 1, 0, [])]
/-- CodeExchange$Page.note([IIII)Z -/
def tk_35 : mK := [(0, 1, 3, 0, 0, 0, []), (1, 1, 39, 0, 0, 0, []), (2, 1, 0, 3, 0, 0, []), (3, 3, 21, 0, 18, 2, []), (6, 1, 3, 0, 0, 0, []), (7, 1, 0, 0, 0, 0, []), (8, 1, 2, 0, 1, 0, []), (9, 1, 36, 0, 0, 0, []), (10, 1, 3, 0, 0, 0, []), (11, 1, 0, 1, 0, 0, []), (12, 1, 2, 0, 2, 0, []), (13, 1, 36, 0, 0, 0, []), (14, 1, 3, 0, 0, 0, []), (15, 1, 0, 2, 0, 0, []), (16, 1, 2, 0, 3, 0, []), (17, 1, 36, 0, 0, 0, []), (18, 1, 0, 1, 0, 0, []), (19, 1, 70, 0, 1, 0, [])]
/-- CodeExchange$Page.clashes([I)Z -/
def tk_36 : mK := [(0, 1, 3, 0, 0, 0, []), (1, 3, 30, 0, 4, 2, []), (4, 3, 30, 0, 0, 5, []), (7, 1, 3, 0, 0, 0, []), (8, 3, 30, 0, 4, 3, []), (11, 3, 30, 0, 9, 4, []), (14, 1, 9, 0, 0, 0, []), (15, 1, 5, 0, 2, 0, []), (16, 1, 0, 0, 0, 0, []), (17, 1, 5, 0, 3, 0, []), (18, 1, 2, 0, 3, 0, []), (19, 1, 2, 0, 2, 0, []), (20, 3, 21, 0, 73, 3, []), (23, 1, 2, 0, 3, 0, []), (24, 1, 0, 1, 0, 0, []), (25, 1, 9, 0, 0, 0, []), (26, 2, 5, 0, 4, 0, []), (28, 2, 2, 0, 4, 0, []), (30, 1, 2, 0, 2, 0, []), (31, 3, 21, 0, 67, 3, []), (34, 1, 3, 0, 0, 0, []), (35, 1, 2, 0, 3, 0, []), (36, 2, 2, 0, 4, 0, []), (38, 3, 50, 0, 41, 2, [4, 0, 0]), (41, 3, 20, 0, 61, 0, []), (44, 1, 3, 0, 1, 0, []), (45, 1, 0, 1, 0, 0, []), (46, 1, 3, 0, 0, 0, []), (47, 1, 2, 0, 3, 0, []), (48, 3, 50, 0, 37, 1, [4, 0, 0]), (51, 1, 3, 0, 0, 0, []), (52, 2, 2, 0, 4, 0, []), (54, 3, 50, 0, 37, 1, [4, 0, 0]), (57, 3, 51, 0, 35, 4, [4, 0, 0]), (60, 1, 70, 0, 1, 0, []), (61, 3, 8, 1, 4, 0, []), (64, 3, 22, 0, 28, 0, []), (67, 3, 8, 1, 3, 0, []), (70, 3, 22, 0, 18, 0, []), (73, 1, 0, 0, 0, 0, []), (74, 1, 70, 0, 1, 0, [])]
/-- CodeExchange$Page.numberOf(I)I -/
def tk_37 : mK := [(0, 1, 2, 0, 1, 0, []), (1, 1, 3, 0, 0, 0, []), (2, 3, 30, 0, 4, 2, []), (5, 3, 30, 0, 0, 5, []), (8, 3, 21, 0, 15, 3, []), (11, 1, 2, 0, 1, 0, []), (12, 3, 22, 0, 27, 0, []), (15, 2, 0, 100, 0, 0, []), (17, 1, 2, 0, 1, 0, []), (18, 1, 9, 0, 0, 0, []), (19, 1, 3, 0, 0, 0, []), (20, 3, 30, 0, 4, 2, []), (23, 3, 30, 0, 0, 5, []), (26, 1, 9, 0, 0, 1, []), (27, 1, 70, 0, 0, 0, [])]
/-- CodeExchange$Page.stateOf(I)I -/
def tk_38 : mK := [(0, 1, 2, 0, 1, 0, []), (1, 1, 3, 0, 0, 0, []), (2, 3, 30, 0, 4, 2, []), (5, 3, 30, 0, 0, 5, []), (8, 3, 21, 0, 23, 3, []), (11, 1, 3, 0, 0, 0, []), (12, 3, 30, 0, 4, 2, []), (15, 3, 30, 0, 0, 0, []), (18, 1, 2, 0, 1, 0, []), (19, 1, 33, 0, 0, 0, []), (20, 3, 22, 0, 40, 0, []), (23, 1, 3, 0, 0, 0, []), (24, 3, 30, 0, 4, 3, []), (27, 3, 30, 0, 9, 0, []), (30, 1, 2, 0, 1, 0, []), (31, 1, 3, 0, 0, 0, []), (32, 3, 30, 0, 4, 2, []), (35, 3, 30, 0, 0, 5, []), (38, 1, 9, 0, 0, 1, []), (39, 1, 33, 0, 0, 0, []), (40, 1, 70, 0, 0, 0, [])]
/-- CodeExchange$Page.textOf(I)I -/
def tk_39 : mK := [(0, 1, 2, 0, 1, 0, []), (1, 1, 3, 0, 0, 0, []), (2, 3, 30, 0, 4, 2, []), (5, 3, 30, 0, 0, 5, []), (8, 3, 21, 0, 23, 3, []), (11, 1, 3, 0, 0, 0, []), (12, 3, 30, 0, 4, 2, []), (15, 3, 30, 0, 0, 1, []), (18, 1, 2, 0, 1, 0, []), (19, 1, 33, 0, 0, 0, []), (20, 3, 22, 0, 40, 0, []), (23, 1, 3, 0, 0, 0, []), (24, 3, 30, 0, 4, 3, []), (27, 3, 30, 0, 9, 1, []), (30, 1, 2, 0, 1, 0, []), (31, 1, 3, 0, 0, 0, []), (32, 3, 30, 0, 4, 2, []), (35, 3, 30, 0, 0, 5, []), (38, 1, 9, 0, 0, 1, []), (39, 1, 33, 0, 0, 0, []), (40, 1, 70, 0, 0, 0, [])]
/-- CodeExchange$Page.lengthOf(I)I -/
def tk_40 : mK := [(0, 1, 2, 0, 1, 0, []), (1, 1, 3, 0, 0, 0, []), (2, 3, 30, 0, 4, 2, []), (5, 3, 30, 0, 0, 5, []), (8, 3, 21, 0, 23, 3, []), (11, 1, 3, 0, 0, 0, []), (12, 3, 30, 0, 4, 2, []), (15, 3, 30, 0, 0, 2, []), (18, 1, 2, 0, 1, 0, []), (19, 1, 33, 0, 0, 0, []), (20, 3, 22, 0, 24, 0, []), (23, 1, 0, 1, 0, 0, []), (24, 1, 70, 0, 0, 0, [])]
/-- CodeExchange$Page.clash(II)Z -/
def tk_41 : mK := [(0, 1, 3, 0, 0, 0, []), (1, 1, 2, 0, 1, 0, []), (2, 3, 50, 0, 38, 1, [4, 0, 0]), (5, 1, 3, 0, 0, 0, []), (6, 1, 2, 0, 2, 0, []), (7, 3, 50, 0, 38, 1, [4, 0, 0]), (10, 3, 21, 0, 15, 0, []), (13, 1, 0, 0, 0, 0, []), (14, 1, 70, 0, 1, 0, []), (15, 1, 3, 0, 0, 0, []), (16, 1, 2, 0, 1, 0, []), (17, 3, 50, 0, 40, 1, [4, 0, 0]), (20, 1, 3, 0, 0, 0, []), (21, 1, 2, 0, 2, 0, []), (22, 3, 50, 0, 40, 1, [4, 0, 0]), (25, 3, 55, 0, 0, 0, []), (28, 1, 5, 0, 3, 0, []), (29, 1, 3, 0, 0, 0, []), (30, 1, 2, 0, 1, 0, []), (31, 3, 50, 0, 39, 1, [4, 0, 0]), (34, 2, 0, 8, 0, 0, []), (36, 1, 3, 0, 0, 0, []), (37, 1, 2, 0, 1, 0, []), (38, 3, 50, 0, 40, 1, [4, 0, 0]), (41, 1, 2, 0, 3, 0, []), (42, 1, 9, 0, 0, 1, []), (43, 1, 9, 0, 0, 2, []), (44, 1, 9, 0, 0, 7, []), (45, 1, 3, 0, 0, 0, []), (46, 1, 2, 0, 2, 0, []), (47, 3, 50, 0, 39, 1, [4, 0, 0]), (50, 2, 0, 8, 0, 0, []), (52, 1, 3, 0, 0, 0, []), (53, 1, 2, 0, 2, 0, []), (54, 3, 50, 0, 40, 1, [4, 0, 0]), (57, 1, 2, 0, 3, 0, []), (58, 1, 9, 0, 0, 1, []), (59, 1, 9, 0, 0, 2, []), (60, 1, 9, 0, 0, 7, []), (61, 3, 21, 0, 68, 1, []), (64, 1, 0, 1, 0, 0, []), (65, 3, 22, 0, 69, 0, []), (68, 1, 0, 0, 0, 0, []), (69, 1, 70, 0, 1, 0, [])]
/-- CodeExchange$Page.isUnsure([I)Z -/
def tk_42 : mK := [(0, 2, 0, 1114112, 0, 0, []), (2, 1, 5, 0, 2, 0, []), (3, 1, 0, 0, 0, 0, []), (4, 1, 5, 0, 3, 0, []), (5, 1, 2, 0, 3, 0, []), (6, 1, 3, 0, 0, 0, []), (7, 3, 30, 0, 4, 2, []), (10, 3, 30, 0, 0, 5, []), (13, 3, 21, 0, 65, 3, []), (16, 1, 3, 0, 0, 0, []), (17, 3, 30, 0, 4, 2, []), (20, 3, 30, 0, 0, 3, []), (23, 1, 2, 0, 3, 0, []), (24, 1, 33, 0, 0, 0, []), (25, 1, 2, 0, 2, 0, []), (26, 3, 21, 0, 59, 3, []), (29, 1, 3, 0, 0, 0, []), (30, 3, 30, 0, 4, 2, []), (33, 1, 3, 0, 0, 0, []), (34, 3, 30, 0, 4, 2, []), (37, 3, 30, 0, 0, 3, []), (40, 1, 2, 0, 3, 0, []), (41, 1, 33, 0, 0, 0, []), (42, 3, 50, 0, 5, 1, [0, 0, 0]), (45, 1, 0, 1, 0, 0, []), (46, 3, 21, 0, 59, 0, []), (49, 1, 3, 0, 0, 0, []), (50, 3, 30, 0, 4, 2, []), (53, 3, 30, 0, 0, 3, []), (56, 1, 2, 0, 3, 0, []), (57, 1, 33, 0, 0, 0, []), (58, 1, 5, 0, 2, 0, []), (59, 3, 8, 1, 3, 0, []), (62, 3, 22, 0, 5, 0, []), (65, 1, 2, 0, 2, 0, []), (66, 2, 0, 1114112, 0, 0, []), (68, 3, 21, 0, 85, 3, []), (71, 1, 3, 0, 1, 0, []), (72, 1, 0, 2, 0, 0, []), (73, 1, 2, 0, 2, 0, []), (74, 1, 0, 0, 0, 0, []), (75, 3, 51, 0, 35, 4, [4, 0, 0]), (78, 3, 20, 0, 85, 0, []), (81, 1, 0, 1, 0, 0, []), (82, 3, 22, 0, 86, 0, []), (85, 1, 0, 0, 0, 0, []), (86, 1, 70, 0, 1, 0, [])]
/-- CodeExchange$Page.isStuck([I)Z -/
def tk_43 : mK := [(0, 1, 3, 0, 0, 0, []), (1, 3, 30, 0, 4, 3, []), (4, 3, 50, 0, 95, 0, [9, 0, 0]), (7, 1, 3, 0, 0, 0, []), (8, 3, 30, 0, 4, 3, []), (11, 3, 50, 0, 96, 0, [9, 0, 0]), (14, 1, 0, (-1), 0, 0, []), (15, 1, 9, 0, 0, 5, []), (16, 1, 9, 0, 0, 3, []), (17, 1, 5, 0, 2, 0, []), (18, 1, 0, 0, 0, 0, []), (19, 1, 5, 0, 3, 0, []), (20, 1, 2, 0, 3, 0, []), (21, 1, 0, 4, 0, 0, []), (22, 3, 21, 0, 48, 3, []), (25, 1, 2, 0, 2, 0, []), (26, 1, 2, 0, 3, 0, []), (27, 1, 9, 0, 0, 7, []), (28, 1, 0, 1, 0, 0, []), (29, 1, 9, 0, 0, 3, []), (30, 1, 0, 1, 0, 0, []), (31, 3, 21, 0, 42, 1, []), (34, 1, 3, 0, 1, 0, []), (35, 1, 0, 3, 0, 0, []), (36, 1, 2, 0, 3, 0, []), (37, 1, 0, 0, 0, 0, []), (38, 3, 51, 0, 35, 4, [4, 0, 0]), (41, 1, 70, 0, 1, 0, []), (42, 3, 8, 1, 3, 0, []), (45, 3, 22, 0, 20, 0, []), (48, 1, 0, 0, 0, 0, []), (49, 1, 70, 0, 1, 0, [])]
/-- CodeExchange$Page.isCutOff([I)Z -/
def tk_44 : mK := [(0, 1, 3, 0, 0, 0, []), (1, 3, 30, 0, 4, 3, []), (4, 3, 50, 0, 95, 0, [9, 0, 0]), (7, 1, 5, 0, 2, 0, []), (8, 1, 2, 0, 2, 0, []), (9, 1, 3, 0, 0, 0, []), (10, 3, 30, 0, 4, 3, []), (13, 1, 2, 0, 2, 0, []), (14, 3, 50, 0, 97, 1, [9, 0, 0]), (17, 1, 9, 0, 0, 4, []), (18, 1, 5, 0, 3, 0, []), (19, 1, 0, 0, 0, 0, []), (20, 2, 5, 0, 4, 0, []), (22, 2, 2, 0, 4, 0, []), (24, 1, 3, 0, 0, 0, []), (25, 3, 30, 0, 4, 2, []), (28, 3, 30, 0, 0, 5, []), (31, 3, 21, 0, 79, 3, []), (34, 1, 3, 0, 0, 0, []), (35, 3, 30, 0, 4, 2, []), (38, 3, 30, 0, 0, 4, []), (41, 2, 2, 0, 4, 0, []), (43, 1, 34, 0, 0, 0, []), (44, 3, 20, 0, 73, 0, []), (47, 1, 2, 0, 3, 0, []), (48, 1, 3, 0, 0, 0, []), (49, 3, 30, 0, 4, 2, []), (52, 3, 30, 0, 0, 0, []), (55, 2, 2, 0, 4, 0, []), (57, 1, 33, 0, 0, 0, []), (58, 1, 9, 0, 0, 7, []), (59, 1, 0, 1, 0, 0, []), (60, 1, 9, 0, 0, 3, []), (61, 3, 20, 0, 73, 1, []), (64, 1, 3, 0, 1, 0, []), (65, 1, 0, 4, 0, 0, []), (66, 2, 2, 0, 4, 0, []), (68, 1, 0, 0, 0, 0, []), (69, 3, 51, 0, 35, 4, [4, 0, 0]), (72, 1, 70, 0, 1, 0, []), (73, 3, 8, 1, 4, 0, []), (76, 3, 22, 0, 22, 0, []), (79, 1, 0, 0, 0, 0, []), (80, 1, 70, 0, 1, 0, [])]
/-- CodeExchange$Page.settle()V -/
def tk_45 : mK := [(0, 1, 3, 0, 0, 0, []), (1, 1, 0, 1, 0, 0, []), (2, 3, 31, 0, 4, 1, []), (5, 1, 3, 0, 0, 0, []), (6, 1, 3, 0, 0, 0, []), (7, 3, 30, 0, 4, 3, []), (10, 3, 50, 0, 95, 0, [9, 0, 0]), (13, 3, 31, 0, 4, 9, []), (16, 1, 3, 0, 0, 0, []), (17, 3, 30, 0, 4, 4, []), (20, 1, 3, 0, 0, 0, []), (21, 3, 30, 0, 4, 3, []), (24, 3, 50, 0, 64, 1, [6, 0, 0]), (27, 1, 3, 0, 0, 0, []), (28, 3, 30, 0, 4, 5, []), (31, 1, 0, 0, 0, 0, []), (32, 3, 51, 0, 261, 2, [14, 0, 0]), (35, 1, 0, 0, 0, 0, []), (36, 1, 5, 0, 1, 0, []), (37, 1, 2, 0, 1, 0, []), (38, 1, 3, 0, 0, 0, []), (39, 3, 30, 0, 4, 2, []), (42, 3, 30, 0, 0, 5, []), (45, 3, 21, 0, 94, 3, []), (48, 1, 3, 0, 0, 0, []), (49, 3, 30, 0, 4, 2, []), (52, 3, 30, 0, 0, 1, []), (55, 1, 2, 0, 1, 0, []), (56, 1, 33, 0, 0, 0, []), (57, 2, 0, 8, 0, 0, []), (59, 1, 3, 0, 0, 0, []), (60, 3, 30, 0, 4, 2, []), (63, 3, 30, 0, 0, 2, []), (66, 1, 2, 0, 1, 0, []), (67, 1, 33, 0, 0, 0, []), (68, 1, 0, 1, 0, 0, []), (69, 1, 9, 0, 0, 1, []), (70, 1, 9, 0, 0, 2, []), (71, 1, 9, 0, 0, 7, []), (72, 1, 5, 0, 2, 0, []), (73, 1, 3, 0, 0, 0, []), (74, 1, 3, 0, 0, 0, []), (75, 3, 30, 0, 4, 2, []), (78, 3, 30, 0, 0, 0, []), (81, 1, 2, 0, 1, 0, []), (82, 1, 33, 0, 0, 0, []), (83, 1, 2, 0, 2, 0, []), (84, 1, 2, 0, 1, 0, []), (85, 3, 50, 0, 46, 3, [4, 0, 0]), (88, 3, 8, 1, 1, 0, []), (91, 3, 22, 0, 37, 0, []), (94, 1, 0, 0, 0, 0, []), (95, 1, 5, 0, 1, 0, []), (96, 1, 2, 0, 1, 0, []), (97, 1, 3, 0, 0, 0, []), (98, 3, 30, 0, 4, 3, []), (101, 3, 30, 0, 9, 4, []), (104, 3, 21, 0, 139, 3, []), (107, 1, 3, 0, 0, 0, []), (108, 1, 3, 0, 0, 0, []), (109, 3, 30, 0, 4, 3, []), (112, 3, 30, 0, 9, 0, []), (115, 1, 2, 0, 1, 0, []), (116, 1, 33, 0, 0, 0, []), (117, 1, 3, 0, 0, 0, []), (118, 3, 30, 0, 4, 3, []), (121, 3, 30, 0, 9, 1, []), (124, 1, 2, 0, 1, 0, []), (125, 1, 33, 0, 0, 0, []), (126, 2, 0, 100, 0, 0, []), (128, 1, 2, 0, 1, 0, []), (129, 1, 9, 0, 0, 0, []), (130, 3, 50, 0, 46, 3, [4, 0, 0]), (133, 3, 8, 1, 1, 0, []), (136, 3, 22, 0, 96, 0, []), (139, 1, 3, 0, 0, 0, []), (140, 1, 0, 0, 0, 0, []), (141, 3, 31, 0, 4, 8, []), (144, 1, 0, 0, 0, 0, []), (145, 1, 5, 0, 1, 0, []), (146, 1, 2, 0, 1, 0, []), (147, 1, 3, 0, 0, 0, []), (148, 3, 30, 0, 4, 2, []), (151, 3, 30, 0, 0, 5, []), (154, 3, 21, 0, 180, 3, []), (157, 1, 3, 0, 0, 0, []), (158, 3, 30, 0, 4, 2, []), (161, 3, 30, 0, 0, 4, []), (164, 1, 2, 0, 1, 0, []), (165, 1, 34, 0, 0, 0, []), (166, 3, 20, 0, 174, 0, []), (169, 1, 3, 0, 0, 0, []), (170, 1, 2, 0, 1, 0, []), (171, 3, 50, 0, 47, 1, [4, 0, 0]), (174, 3, 8, 1, 1, 0, []), (177, 3, 22, 0, 146, 0, []), (180, 1, 72, 0, 0, 0, [])]
/-- CodeExchange$Page.chain(III)V -/
def tk_46 : mK := [(0, 1, 2, 0, 1, 0, []), (1, 3, 0, 256, 0, 0, []), (4, 1, 9, 0, 0, 2, []), (5, 1, 2, 0, 2, 0, []), (6, 1, 9, 0, 0, 0, []), (7, 2, 5, 0, 4, 0, []), (9, 2, 2, 0, 4, 0, []), (11, 3, 20, 0, 56, 2, []), (14, 2, 2, 0, 4, 0, []), (16, 1, 3, 0, 0, 0, []), (17, 3, 30, 0, 4, 5, []), (20, 1, 39, 0, 0, 0, []), (21, 3, 21, 0, 56, 3, []), (24, 1, 2, 0, 3, 0, []), (25, 1, 3, 0, 0, 0, []), (26, 3, 30, 0, 4, 6, []), (29, 1, 39, 0, 0, 0, []), (30, 3, 21, 0, 56, 3, []), (33, 1, 3, 0, 0, 0, []), (34, 3, 30, 0, 4, 6, []), (37, 1, 2, 0, 3, 0, []), (38, 1, 3, 0, 0, 0, []), (39, 3, 30, 0, 4, 5, []), (42, 2, 2, 0, 4, 0, []), (44, 1, 33, 0, 0, 0, []), (45, 1, 36, 0, 0, 0, []), (46, 1, 3, 0, 0, 0, []), (47, 3, 30, 0, 4, 5, []), (50, 2, 2, 0, 4, 0, []), (52, 1, 2, 0, 3, 0, []), (53, 1, 0, 1, 0, 0, []), (54, 1, 9, 0, 0, 0, []), (55, 1, 36, 0, 0, 0, []), (56, 1, 72, 0, 0, 0, [])]
/-- CodeExchange$Page.sortIn(I)V -/
def tk_47 : mK := [(0, 1, 3, 0, 0, 0, []), (1, 3, 30, 0, 4, 8, []), (4, 1, 5, 0, 2, 0, []), (5, 1, 2, 0, 2, 0, []), (6, 3, 20, 0, 57, 5, []), (9, 1, 3, 0, 0, 0, []), (10, 3, 30, 0, 4, 2, []), (13, 3, 30, 0, 0, 3, []), (16, 1, 3, 0, 0, 0, []), (17, 3, 30, 0, 4, 7, []), (20, 1, 2, 0, 2, 0, []), (21, 1, 0, 1, 0, 0, []), (22, 1, 9, 0, 0, 1, []), (23, 1, 33, 0, 0, 0, []), (24, 1, 33, 0, 0, 0, []), (25, 1, 3, 0, 0, 0, []), (26, 3, 30, 0, 4, 2, []), (29, 3, 30, 0, 0, 3, []), (32, 1, 2, 0, 1, 0, []), (33, 1, 33, 0, 0, 0, []), (34, 3, 21, 0, 57, 5, []), (37, 1, 3, 0, 0, 0, []), (38, 3, 30, 0, 4, 7, []), (41, 1, 2, 0, 2, 0, []), (42, 1, 3, 0, 0, 0, []), (43, 3, 30, 0, 4, 7, []), (46, 1, 2, 0, 2, 0, []), (47, 1, 0, 1, 0, 0, []), (48, 1, 9, 0, 0, 1, []), (49, 1, 33, 0, 0, 0, []), (50, 1, 36, 0, 0, 0, []), (51, 3, 8, (-1), 2, 0, []), (54, 3, 22, 0, 5, 0, []), (57, 1, 3, 0, 0, 0, []), (58, 3, 30, 0, 4, 7, []), (61, 1, 2, 0, 2, 0, []), (62, 1, 2, 0, 1, 0, []), (63, 1, 36, 0, 0, 0, []), (64, 1, 3, 0, 0, 0, []), (65, 1, 17, 0, 0, 0, []), (66, 3, 30, 0, 4, 8, []), (69, 1, 0, 1, 0, 0, []), (70, 1, 9, 0, 0, 0, []), (71, 3, 31, 0, 4, 8, []), (74, 1, 72, 0, 0, 0, [])]
/-- CodeExchange$Page.isReached(I)Z -/
def tk_48 : mK := [(0, 1, 3, 0, 0, 0, []), (1, 3, 30, 0, 4, 9, []), (4, 1, 2, 0, 1, 0, []), (5, 1, 9, 0, 0, 7, []), (6, 1, 0, 1, 0, 0, []), (7, 1, 9, 0, 0, 3, []), (8, 1, 0, 1, 0, 0, []), (9, 3, 21, 0, 16, 1, []), (12, 1, 0, 1, 0, 0, []), (13, 3, 22, 0, 17, 0, []), (16, 1, 0, 0, 0, 0, []), (17, 1, 70, 0, 1, 0, [])]
/-- CodeExchange$Page.placeFrom(I)I -/
def tk_49 : mK := [(0, 1, 0, 0, 0, 0, []), (1, 1, 5, 0, 2, 0, []), (2, 1, 3, 0, 0, 0, []), (3, 3, 30, 0, 4, 8, []), (6, 1, 5, 0, 3, 0, []), (7, 1, 2, 0, 2, 0, []), (8, 1, 2, 0, 3, 0, []), (9, 3, 21, 0, 52, 3, []), (12, 1, 2, 0, 2, 0, []), (13, 1, 2, 0, 3, 0, []), (14, 1, 9, 0, 0, 0, []), (15, 1, 0, 2, 0, 0, []), (16, 1, 10, 0, 0, 0, []), (17, 2, 5, 0, 4, 0, []), (19, 1, 3, 0, 0, 0, []), (20, 3, 30, 0, 4, 2, []), (23, 3, 30, 0, 0, 3, []), (26, 1, 3, 0, 0, 0, []), (27, 3, 30, 0, 4, 7, []), (30, 2, 2, 0, 4, 0, []), (32, 1, 33, 0, 0, 0, []), (33, 1, 33, 0, 0, 0, []), (34, 1, 2, 0, 1, 0, []), (35, 3, 21, 0, 46, 3, []), (38, 2, 2, 0, 4, 0, []), (40, 1, 0, 1, 0, 0, []), (41, 1, 9, 0, 0, 0, []), (42, 1, 5, 0, 2, 0, []), (43, 3, 22, 0, 49, 0, []), (46, 2, 2, 0, 4, 0, []), (48, 1, 5, 0, 3, 0, []), (49, 3, 22, 0, 7, 0, []), (52, 1, 2, 0, 2, 0, []), (53, 1, 70, 0, 0, 0, [])]
/-- CodeExchange$Page.slotOf(I)I -/
def tk_50 : mK := [(0, 1, 3, 0, 0, 0, []), (1, 3, 30, 0, 4, 0, []), (4, 3, 20, 0, 9, 0, []), (7, 1, 0, 0, 0, 0, []), (8, 1, 70, 0, 0, 0, []), (9, 1, 3, 0, 0, 0, []), (10, 1, 2, 0, 1, 0, []), (11, 3, 50, 0, 49, 1, [4, 0, 0]), (14, 1, 5, 0, 2, 0, []), (15, 1, 2, 0, 2, 0, []), (16, 1, 3, 0, 0, 0, []), (17, 3, 30, 0, 4, 8, []), (20, 3, 21, 0, 45, 3, []), (23, 1, 3, 0, 0, 0, []), (24, 3, 30, 0, 4, 2, []), (27, 3, 30, 0, 0, 3, []), (30, 1, 3, 0, 0, 0, []), (31, 3, 30, 0, 4, 7, []), (34, 1, 2, 0, 2, 0, []), (35, 1, 33, 0, 0, 0, []), (36, 1, 33, 0, 0, 0, []), (37, 1, 2, 0, 1, 0, []), (38, 3, 21, 0, 45, 1, []), (41, 1, 0, 1, 0, 0, []), (42, 3, 22, 0, 46, 0, []), (45, 1, 0, 0, 0, 0, []), (46, 1, 5, 0, 3, 0, []), (47, 1, 2, 0, 3, 0, []), (48, 3, 20, 0, 60, 0, []), (51, 1, 3, 0, 0, 0, []), (52, 3, 30, 0, 4, 7, []), (55, 1, 2, 0, 2, 0, []), (56, 1, 33, 0, 0, 0, []), (57, 3, 22, 0, 61, 0, []), (60, 1, 0, (-1), 0, 0, []), (61, 1, 70, 0, 0, 0, [])]
/-- CodeExchange$Page.textAt(I)J -/
def tk_51 : mK := [(0, 1, 2, 0, 1, 0, []), (1, 3, 20, 0, 15, 2, []), (4, 1, 2, 0, 1, 0, []), (5, 1, 3, 0, 0, 0, []), (6, 3, 30, 0, 4, 2, []), (9, 3, 30, 0, 0, 5, []), (12, 3, 21, 0, 17, 2, []), (15, 1, 1, 0, 0, 0, []), (16, 1, 71, 0, 0, 0, []), (17, 1, 3, 0, 0, 0, []), (18, 3, 30, 0, 4, 2, []), (21, 3, 30, 0, 0, 2, []), (24, 1, 2, 0, 1, 0, []), (25, 1, 33, 0, 0, 0, []), (26, 1, 15, 0, 0, 0, []), (27, 2, 0, 32, 0, 0, []), (29, 1, 14, 0, 0, 0, []), (30, 1, 3, 0, 0, 0, []), (31, 3, 30, 0, 4, 2, []), (34, 3, 30, 0, 0, 1, []), (37, 1, 2, 0, 1, 0, []), (38, 1, 33, 0, 0, 0, []), (39, 1, 15, 0, 0, 0, []), (40, 1, 12, 0, 0, 4, []), (41, 1, 71, 0, 0, 0, [])]
/-- CodeExchange$Page.stateAt(I)I -/
def tk_52 : mK := [(0, 1, 2, 0, 1, 0, []), (1, 3, 20, 0, 27, 2, []), (4, 1, 2, 0, 1, 0, []), (5, 1, 3, 0, 0, 0, []), (6, 3, 30, 0, 4, 2, []), (9, 3, 30, 0, 0, 5, []), (12, 3, 21, 0, 27, 3, []), (15, 1, 3, 0, 0, 0, []), (16, 3, 30, 0, 4, 2, []), (19, 3, 30, 0, 0, 0, []), (22, 1, 2, 0, 1, 0, []), (23, 1, 33, 0, 0, 0, []), (24, 3, 22, 0, 28, 0, []), (27, 1, 0, 0, 0, 0, []), (28, 1, 70, 0, 0, 0, [])]
/-- CodeExchange$Page.pointFrom(I)I -/
def tk_53 : mK := [(0, 1, 3, 0, 0, 0, []), (1, 3, 30, 0, 4, 0, []), (4, 3, 20, 0, 41, 1, []), (7, 1, 3, 0, 0, 0, []), (8, 1, 2, 0, 1, 0, []), (9, 3, 50, 0, 49, 1, [4, 0, 0]), (12, 1, 5, 0, 2, 0, []), (13, 1, 2, 0, 2, 0, []), (14, 1, 3, 0, 0, 0, []), (15, 3, 30, 0, 4, 8, []), (18, 3, 21, 0, 38, 3, []), (21, 1, 3, 0, 0, 0, []), (22, 3, 30, 0, 4, 2, []), (25, 3, 30, 0, 0, 3, []), (28, 1, 3, 0, 0, 0, []), (29, 3, 30, 0, 4, 7, []), (32, 1, 2, 0, 2, 0, []), (33, 1, 33, 0, 0, 0, []), (34, 1, 33, 0, 0, 0, []), (35, 3, 22, 0, 40, 0, []), (38, 2, 0, 1114112, 0, 0, []), (40, 1, 70, 0, 0, 0, []), (41, 1, 2, 0, 1, 0, []), (42, 3, 51, 0, 140, 1, [11, 0, 0]), (45, 3, 20, 0, 53, 0, []), (48, 2, 0, 57344, 0, 0, []), (50, 3, 22, 0, 59, 0, []), (53, 1, 2, 0, 1, 0, []), (54, 2, 0, 1114112, 0, 0, []), (56, 3, 55, 0, 0, 0, []), (59, 1, 70, 0, 0, 0, [])]
/-- CodeExchange$Page.pointsWithin(II)I -/
def tk_54 : mK := [(0, 1, 3, 0, 0, 0, []), (1, 3, 30, 0, 4, 0, []), (4, 3, 20, 0, 21, 1, []), (7, 1, 3, 0, 0, 0, []), (8, 1, 2, 0, 2, 0, []), (9, 1, 0, 1, 0, 0, []), (10, 1, 9, 0, 0, 0, []), (11, 3, 50, 0, 49, 1, [4, 0, 0]), (14, 1, 3, 0, 0, 0, []), (15, 1, 2, 0, 1, 0, []), (16, 3, 50, 0, 49, 1, [4, 0, 0]), (19, 1, 9, 0, 0, 1, []), (20, 1, 70, 0, 0, 0, []), (21, 1, 2, 0, 2, 0, []), (22, 2, 0, 57343, 0, 0, []), (24, 3, 55, 0, 0, 0, []), (27, 1, 2, 0, 1, 0, []), (28, 2, 0, 55296, 0, 0, []), (30, 3, 54, 0, 0, 0, []), (33, 1, 9, 0, 0, 1, []), (34, 1, 0, 1, 0, 0, []), (35, 1, 9, 0, 0, 0, []), (36, 1, 5, 0, 3, 0, []), (37, 1, 2, 0, 2, 0, []), (38, 1, 2, 0, 1, 0, []), (39, 1, 9, 0, 0, 1, []), (40, 1, 0, 1, 0, 0, []), (41, 1, 9, 0, 0, 0, []), (42, 1, 2, 0, 3, 0, []), (43, 1, 0, 0, 0, 0, []), (44, 3, 54, 0, 0, 0, []), (47, 1, 9, 0, 0, 1, []), (48, 1, 70, 0, 0, 0, [])]
/-- CodeExchange$Page.find(IZ[IIILCodeExchange$Found;)V -/
def tk_55 : mK := [(0, 2, 2, 0, 4, 0, []), (2, 3, 20, 0, 19, 2, []), (5, 2, 2, 0, 4, 0, []), (7, 2, 2, 0, 5, 0, []), (9, 3, 21, 0, 19, 3, []), (12, 2, 2, 0, 5, 0, []), (14, 1, 3, 0, 3, 0, []), (15, 1, 39, 0, 0, 0, []), (16, 3, 21, 0, 25, 5, []), (19, 2, 3, 0, 6, 0, []), (21, 3, 50, 0, 18, 0, [2, 0, 0]), (24, 1, 72, 0, 0, 0, []), (25, 1, 3, 0, 0, 0, []), (26, 3, 30, 0, 4, 0, []), (29, 27, 26, 1, 97, 0, [56, 70, 84]), (56, 1, 0, 1, 0, 0, []), (57, 1, 3, 0, 3, 0, []), (58, 2, 2, 0, 4, 0, []), (60, 2, 2, 0, 5, 0, []), (62, 2, 3, 0, 6, 0, []), (64, 3, 51, 0, 11, 5, [1, 0, 0]), (67, 3, 22, 0, 110, 0, []), (70, 1, 0, 0, 0, 0, []), (71, 1, 3, 0, 3, 0, []), (72, 2, 2, 0, 4, 0, []), (74, 2, 2, 0, 5, 0, []), (76, 2, 3, 0, 6, 0, []), (78, 3, 51, 0, 11, 5, [1, 0, 0]), (81, 3, 22, 0, 110, 0, []), (84, 1, 3, 0, 3, 0, []), (85, 2, 2, 0, 4, 0, []), (87, 2, 2, 0, 5, 0, []), (89, 2, 3, 0, 6, 0, []), (91, 3, 51, 0, 14, 4, [1, 0, 0]), (94, 3, 22, 0, 110, 0, []), (97, 1, 3, 0, 0, 0, []), (98, 1, 2, 0, 1, 0, []), (99, 1, 2, 0, 2, 0, []), (100, 1, 3, 0, 3, 0, []), (101, 2, 2, 0, 4, 0, []), (103, 2, 2, 0, 5, 0, []), (105, 2, 3, 0, 6, 0, []), (107, 3, 50, 0, 56, 6, [4, 0, 0]), (110, 1, 72, 0, 0, 0, [])]
/-- CodeExchange$Page.findItem(IZ[IIILCodeExchange$Found;)V -/
def tk_56 : mK := [(0, 2, 3, 0, 6, 0, []), (2, 3, 50, 0, 18, 0, [2, 0, 0]), (5, 1, 2, 0, 1, 0, []), (6, 3, 0, 256, 0, 0, []), (9, 1, 9, 0, 0, 2, []), (10, 1, 3, 0, 3, 0, []), (11, 2, 2, 0, 4, 0, []), (13, 1, 33, 0, 0, 0, []), (14, 1, 9, 0, 0, 0, []), (15, 2, 5, 0, 7, 0, []), (17, 2, 2, 0, 7, 0, []), (19, 3, 20, 0, 44, 2, []), (22, 2, 2, 0, 7, 0, []), (24, 1, 3, 0, 0, 0, []), (25, 3, 30, 0, 4, 5, []), (28, 1, 39, 0, 0, 0, []), (29, 3, 21, 0, 44, 3, []), (32, 1, 3, 0, 0, 0, []), (33, 3, 30, 0, 4, 5, []), (36, 2, 2, 0, 7, 0, []), (38, 1, 33, 0, 0, 0, []), (39, 1, 0, 1, 0, 0, []), (40, 1, 9, 0, 0, 1, []), (41, 3, 22, 0, 45, 0, []), (44, 1, 0, (-1), 0, 0, []), (45, 2, 5, 0, 8, 0, []), (47, 1, 0, 0, 0, 0, []), (48, 2, 5, 0, 9, 0, []), (50, 2, 2, 0, 8, 0, []), (52, 3, 20, 0, 151, 2, []), (55, 2, 2, 0, 9, 0, []), (57, 1, 3, 0, 0, 0, []), (58, 3, 30, 0, 4, 6, []), (61, 1, 39, 0, 0, 0, []), (62, 3, 21, 0, 151, 3, []), (65, 2, 2, 0, 8, 0, []), (67, 2, 0, 100, 0, 0, []), (69, 3, 21, 0, 88, 3, []), (72, 1, 3, 0, 0, 0, []), (73, 2, 2, 0, 8, 0, []), (75, 1, 3, 0, 3, 0, []), (76, 2, 2, 0, 4, 0, []), (78, 2, 2, 0, 5, 0, []), (80, 2, 3, 0, 6, 0, []), (82, 3, 50, 0, 57, 5, [4, 0, 0]), (85, 3, 22, 0, 124, 0, []), (88, 1, 2, 0, 2, 0, []), (89, 3, 20, 0, 124, 0, []), (92, 2, 2, 0, 8, 0, []), (94, 2, 0, 100, 0, 0, []), (96, 1, 9, 0, 0, 1, []), (97, 2, 5, 0, 10, 0, []), (99, 2, 3, 0, 6, 0, []), (101, 1, 3, 0, 0, 0, []), (102, 3, 30, 0, 4, 3, []), (105, 3, 30, 0, 9, 2, []), (108, 2, 2, 0, 10, 0, []), (110, 1, 33, 0, 0, 0, []), (111, 1, 3, 0, 0, 0, []), (112, 3, 30, 0, 4, 3, []), (115, 3, 30, 0, 9, 3, []), (118, 2, 2, 0, 10, 0, []), (120, 1, 34, 0, 0, 0, []), (121, 3, 50, 0, 21, 2, [2, 0, 0]), (124, 2, 3, 0, 6, 0, []), (126, 3, 30, 0, 2, 0, []), (129, 1, 0, 2, 0, 0, []), (130, 3, 21, 0, 134, 2, []), (133, 1, 72, 0, 0, 0, []), (134, 1, 3, 0, 0, 0, []), (135, 3, 30, 0, 4, 6, []), (138, 2, 2, 0, 8, 0, []), (140, 1, 33, 0, 0, 0, []), (141, 1, 0, 1, 0, 0, []), (142, 1, 9, 0, 0, 1, []), (143, 2, 5, 0, 8, 0, []), (145, 3, 8, 1, 9, 0, []), (148, 3, 22, 0, 50, 0, []), (151, 1, 72, 0, 0, 0, [])]
/-- CodeExchange$Page.tryEntry(I[IIILCodeExchange$Found;)V -/
def tk_57 : mK := [(0, 1, 3, 0, 0, 0, []), (1, 3, 30, 0, 4, 2, []), (4, 3, 30, 0, 0, 2, []), (7, 1, 2, 0, 1, 0, []), (8, 1, 33, 0, 0, 0, []), (9, 2, 5, 0, 6, 0, []), (11, 2, 2, 0, 6, 0, []), (13, 2, 2, 0, 4, 0, []), (15, 1, 2, 0, 3, 0, []), (16, 1, 9, 0, 0, 1, []), (17, 3, 55, 0, 0, 0, []), (20, 2, 5, 0, 7, 0, []), (22, 1, 3, 0, 0, 0, []), (23, 3, 30, 0, 4, 2, []), (26, 3, 30, 0, 0, 1, []), (29, 1, 2, 0, 1, 0, []), (30, 1, 33, 0, 0, 0, []), (31, 2, 0, 8, 0, 0, []), (33, 2, 2, 0, 6, 0, []), (35, 2, 2, 0, 7, 0, []), (37, 1, 9, 0, 0, 1, []), (38, 1, 9, 0, 0, 2, []), (39, 1, 9, 0, 0, 7, []), (40, 1, 3, 0, 2, 0, []), (41, 1, 2, 0, 3, 0, []), (42, 2, 2, 0, 7, 0, []), (44, 3, 51, 0, 77, 3, [7, 0, 0]), (47, 3, 21, 0, 51, 0, []), (50, 1, 72, 0, 0, 0, []), (51, 2, 2, 0, 7, 0, []), (53, 2, 2, 0, 6, 0, []), (55, 3, 21, 0, 77, 1, []), (58, 2, 3, 0, 5, 0, []), (60, 1, 3, 0, 0, 0, []), (61, 3, 30, 0, 4, 2, []), (64, 3, 30, 0, 0, 3, []), (67, 1, 2, 0, 1, 0, []), (68, 1, 33, 0, 0, 0, []), (69, 2, 2, 0, 6, 0, []), (71, 3, 50, 0, 20, 2, [2, 0, 0]), (74, 3, 22, 0, 82, 0, []), (77, 2, 3, 0, 5, 0, []), (79, 3, 50, 0, 19, 0, [2, 0, 0]), (82, 1, 72, 0, 0, 0, [])]
/-- CodeExchange$Reader.<init>(LCodeExchange$Rules;LCodeExchange$Page;)V -/
def tk_58 : mK := [(0, 1, 3, 0, 0, 0, []), (1, 3, 53, 0, 0, 0, []), (4, 1, 3, 0, 0, 0, []), (5, 3, 42, 0, 2, 5, []), (8, 1, 17, 0, 0, 0, []), (9, 3, 52, 0, 17, 0, [2, 0, 0]), (12, 3, 31, 0, 5, 1, []), (15, 1, 3, 0, 0, 0, []), (16, 1, 0, 4, 0, 0, []), (17, 3, 31, 0, 5, 5, []), (20, 1, 3, 0, 0, 0, []), (21, 1, 3, 0, 1, 0, []), (22, 3, 31, 0, 5, 0, []), (25, 1, 3, 0, 0, 0, []), (26, 1, 3, 0, 2, 0, []), (27, 3, 31, 0, 5, 2, []), (30, 1, 72, 0, 0, 0, [])]
/-- CodeExchange$Reader.open(LCodeExchange$Page;I)V -/
def tk_59 : mK := [(0, 1, 3, 0, 0, 0, []), (1, 1, 3, 0, 1, 0, []), (2, 3, 31, 0, 5, 2, []), (5, 1, 3, 0, 0, 0, []), (6, 1, 2, 0, 2, 0, []), (7, 3, 31, 0, 5, 3, []), (10, 1, 3, 0, 0, 0, []), (11, 1, 0, 0, 0, 0, []), (12, 3, 31, 0, 5, 4, []), (15, 1, 3, 0, 0, 0, []), (16, 1, 0, 4, 0, 0, []), (17, 3, 31, 0, 5, 5, []), (20, 1, 3, 0, 0, 0, []), (21, 1, 0, 0, 0, 0, []), (22, 3, 31, 0, 5, 6, []), (25, 1, 72, 0, 0, 0, [])]
/-- CodeExchange$Reader.step([IIIZLCodeExchange$Row;)I -/
def tk_60 : mK := [(0, 1, 3, 0, 0, 0, []), (1, 3, 30, 0, 5, 5, []), (4, 1, 0, 4, 0, 0, []), (5, 3, 21, 0, 12, 1, []), (8, 1, 0, 1, 0, 0, []), (9, 3, 22, 0, 13, 0, []), (12, 1, 0, 0, 0, 0, []), (13, 2, 5, 0, 6, 0, []), (15, 1, 3, 0, 0, 0, []), (16, 3, 30, 0, 5, 2, []), (19, 2, 2, 0, 6, 0, []), (21, 3, 20, 0, 31, 0, []), (24, 1, 3, 0, 0, 0, []), (25, 3, 30, 0, 5, 4, []), (28, 3, 22, 0, 35, 0, []), (31, 1, 3, 0, 0, 0, []), (32, 3, 30, 0, 5, 5, []), (35, 2, 2, 0, 6, 0, []), (37, 1, 3, 0, 1, 0, []), (38, 1, 2, 0, 2, 0, []), (39, 1, 2, 0, 3, 0, []), (40, 1, 3, 0, 0, 0, []), (41, 3, 30, 0, 5, 1, []), (44, 3, 50, 0, 55, 6, [4, 0, 0]), (47, 1, 3, 0, 0, 0, []), (48, 3, 30, 0, 5, 1, []), (51, 3, 30, 0, 2, 0, []), (54, 1, 0, 1, 0, 0, []), (55, 3, 21, 0, 65, 1, []), (58, 2, 2, 0, 4, 0, []), (60, 3, 20, 0, 65, 1, []), (63, 1, 0, 0, 0, 0, []), (64, 1, 70, 0, 0, 0, []), (65, 1, 3, 0, 0, 0, []), (66, 1, 0, 4, 0, 0, []), (67, 3, 31, 0, 5, 5, []), (70, 1, 3, 0, 0, 0, []), (71, 3, 30, 0, 5, 1, []), (74, 3, 30, 0, 2, 0, []), (77, 1, 0, 2, 0, 0, []), (78, 3, 21, 0, 101, 1, []), (81, 2, 3, 0, 5, 0, []), (83, 1, 3, 0, 0, 0, []), (84, 3, 30, 0, 5, 1, []), (87, 3, 30, 0, 2, 2, []), (90, 3, 50, 0, 75, 1, [7, 0, 0]), (93, 1, 3, 0, 0, 0, []), (94, 3, 30, 0, 5, 1, []), (97, 3, 30, 0, 2, 1, []), (100, 1, 70, 0, 0, 0, []), (101, 1, 3, 0, 0, 0, []), (102, 3, 30, 0, 5, 1, []), (105, 3, 30, 0, 2, 0, []), (108, 1, 0, 3, 0, 0, []), (109, 3, 21, 0, 155, 1, []), (112, 1, 3, 0, 0, 0, []), (113, 3, 30, 0, 5, 1, []), (116, 3, 30, 0, 2, 4, []), (119, 3, 20, 0, 136, 0, []), (122, 1, 3, 0, 0, 0, []), (123, 1, 3, 0, 0, 0, []), (124, 3, 30, 0, 5, 1, []), (127, 3, 30, 0, 2, 3, []), (130, 3, 31, 0, 5, 4, []), (133, 3, 22, 0, 147, 0, []), (136, 1, 3, 0, 0, 0, []), (137, 1, 3, 0, 0, 0, []), (138, 3, 30, 0, 5, 1, []), (141, 3, 30, 0, 2, 3, []), (144, 3, 31, 0, 5, 5, []), (147, 1, 3, 0, 0, 0, []), (148, 3, 30, 0, 5, 1, []), (151, 3, 30, 0, 2, 1, []), (154, 1, 70, 0, 0, 0, []), (155, 1, 3, 0, 0, 0, []), (156, 1, 2, 0, 2, 0, []), (157, 3, 20, 0, 172, 2, []), (160, 1, 2, 0, 2, 0, []), (161, 1, 3, 0, 1, 0, []), (162, 1, 39, 0, 0, 0, []), (163, 3, 21, 0, 172, 3, []), (166, 1, 3, 0, 1, 0, []), (167, 1, 2, 0, 2, 0, []), (168, 1, 33, 0, 0, 0, []), (169, 3, 22, 0, 173, 0, []), (172, 1, 0, 0, 0, 0, []), (173, 2, 3, 0, 5, 0, []), (175, 3, 50, 0, 61, 2, [5, 0, 0]), (178, 1, 70, 0, 0, 0, [])]
/-- CodeExchange$Reader.passOver(ILCodeExchange$Row;)I -/
def tk_61 : mK := [(0, 1, 3, 0, 0, 0, []), (1, 1, 17, 0, 0, 0, []), (2, 3, 30, 0, 5, 6, []), (5, 1, 0, 1, 0, 0, []), (6, 1, 9, 0, 0, 0, []), (7, 3, 31, 0, 5, 6, []), (10, 1, 3, 0, 0, 0, []), (11, 3, 30, 0, 5, 3, []), (14, 26, 26, 1, 66, 0, [40, 53, 55]), (40, 1, 3, 0, 2, 0, []), (41, 1, 3, 0, 0, 0, []), (42, 3, 30, 0, 5, 0, []), (45, 3, 30, 0, 8, 0, []), (48, 3, 50, 0, 75, 1, [7, 0, 0]), (51, 1, 0, 1, 0, 0, []), (52, 1, 70, 0, 0, 0, []), (53, 1, 0, 1, 0, 0, []), (54, 1, 70, 0, 0, 0, []), (55, 1, 3, 0, 2, 0, []), (56, 2, 0, 56320, 0, 0, []), (58, 1, 2, 0, 1, 0, []), (59, 1, 9, 0, 0, 0, []), (60, 3, 50, 0, 72, 1, [7, 0, 0]), (63, 1, 18, 0, 0, 0, []), (64, 1, 0, 1, 0, 0, []), (65, 1, 70, 0, 0, 0, []), (66, 2, 0, (-9), 0, 0, []), (68, 1, 70, 0, 0, 0, [])]
/-- CodeExchange$Routes.<init>()V -/
def tk_62 : mK := [(0, 1, 3, 0, 0, 0, []), (1, 3, 53, 0, 0, 0, []), (4, 1, 3, 0, 0, 0, []), (5, 2, 0, 20, 0, 0, []), (7, 2, 40, 0, 0, 0, []), (9, 3, 31, 0, 6, 0, []), (12, 1, 3, 0, 0, 0, []), (13, 2, 0, 20, 0, 0, []), (15, 2, 40, 0, 0, 0, []), (17, 3, 31, 0, 6, 1, []), (20, 1, 3, 0, 0, 0, []), (21, 2, 0, 20, 0, 0, []), (23, 2, 40, 0, 0, 0, []), (25, 3, 31, 0, 6, 2, []), (28, 1, 3, 0, 0, 0, []), (29, 1, 0, 4, 0, 0, []), (30, 2, 40, 0, 0, 0, []), (32, 3, 31, 0, 6, 3, []), (35, 1, 72, 0, 0, 0, [])]
/-- CodeExchange$Routes.slotOf(II)I -/
def tk_63 : mK := [(0, 1, 2, 0, 0, 0, []), (1, 1, 0, 4, 0, 0, []), (2, 1, 9, 0, 0, 2, []), (3, 1, 2, 0, 1, 0, []), (4, 1, 9, 0, 0, 0, []), (5, 1, 70, 0, 0, 0, [])]
/-- CodeExchange$Routes.plan(LCodeExchange$Shifts;)V -/
def tk_64 : mK := [(0, 1, 0, 0, 0, 0, []), (1, 1, 5, 0, 2, 0, []), (2, 1, 2, 0, 2, 0, []), (3, 1, 0, 4, 0, 0, []), (4, 3, 21, 0, 39, 4, []), (7, 1, 3, 0, 0, 0, []), (8, 1, 3, 0, 1, 0, []), (9, 1, 2, 0, 2, 0, []), (10, 3, 50, 0, 67, 2, [6, 0, 0]), (13, 1, 0, 0, 0, 0, []), (14, 1, 5, 0, 3, 0, []), (15, 1, 2, 0, 3, 0, []), (16, 1, 0, 4, 0, 0, []), (17, 3, 21, 0, 33, 3, []), (20, 1, 3, 0, 0, 0, []), (21, 1, 3, 0, 1, 0, []), (22, 1, 2, 0, 2, 0, []), (23, 1, 2, 0, 3, 0, []), (24, 3, 50, 0, 68, 3, [6, 0, 0]), (27, 3, 8, 1, 3, 0, []), (30, 3, 22, 0, 15, 0, []), (33, 3, 8, 1, 2, 0, []), (36, 3, 22, 0, 2, 0, []), (39, 1, 72, 0, 0, 0, [])]
/-- CodeExchange$Routes.stateOf(I)I -/
def tk_65 : mK := [(0, 1, 2, 0, 0, 0, []), (1, 1, 0, 4, 0, 0, []), (2, 3, 21, 0, 9, 1, []), (5, 1, 0, 0, 0, 0, []), (6, 3, 22, 0, 10, 0, []), (9, 1, 2, 0, 0, 0, []), (10, 1, 70, 0, 0, 0, [])]
/-- CodeExchange$Routes.stepsBy(LCodeExchange$Shifts;II)I -/
def tk_66 : mK := [(0, 1, 3, 0, 1, 0, []), (1, 3, 30, 0, 9, 3, []), (4, 1, 2, 0, 2, 0, []), (5, 1, 34, 0, 0, 0, []), (6, 3, 20, 0, 23, 0, []), (9, 1, 0, 1, 0, 0, []), (10, 1, 3, 0, 0, 0, []), (11, 3, 30, 0, 6, 3, []), (14, 1, 3, 0, 1, 0, []), (15, 3, 30, 0, 9, 2, []), (18, 1, 2, 0, 2, 0, []), (19, 1, 33, 0, 0, 0, []), (20, 1, 33, 0, 0, 0, []), (21, 1, 9, 0, 0, 0, []), (22, 1, 70, 0, 0, 0, []), (23, 1, 2, 0, 3, 0, []), (24, 1, 0, 4, 0, 0, []), (25, 3, 21, 0, 42, 0, []), (28, 1, 3, 0, 1, 0, []), (29, 3, 30, 0, 9, 2, []), (32, 1, 2, 0, 2, 0, []), (33, 1, 33, 0, 0, 0, []), (34, 1, 2, 0, 3, 0, []), (35, 3, 21, 0, 42, 1, []), (38, 1, 0, 1, 0, 0, []), (39, 3, 22, 0, 44, 0, []), (42, 2, 0, 100, 0, 0, []), (44, 1, 70, 0, 0, 0, [])]
/-- CodeExchange$Routes.measure(LCodeExchange$Shifts;I)V -/
def tk_67 : mK := [(0, 1, 3, 0, 0, 0, []), (1, 3, 30, 0, 6, 3, []), (4, 2, 0, 100, 0, 0, []), (6, 3, 51, 0, 261, 2, [14, 0, 0]), (9, 1, 3, 0, 0, 0, []), (10, 3, 30, 0, 6, 3, []), (13, 1, 2, 0, 2, 0, []), (14, 3, 51, 0, 65, 1, [6, 0, 0]), (17, 1, 0, 0, 0, 0, []), (18, 1, 36, 0, 0, 0, []), (19, 1, 0, 1, 0, 0, []), (20, 1, 5, 0, 3, 0, []), (21, 1, 2, 0, 3, 0, []), (22, 1, 0, 4, 0, 0, []), (23, 3, 21, 0, 84, 3, []), (26, 1, 0, 0, 0, 0, []), (27, 2, 5, 0, 4, 0, []), (29, 2, 2, 0, 4, 0, []), (31, 1, 3, 0, 1, 0, []), (32, 3, 30, 0, 9, 4, []), (35, 3, 21, 0, 78, 3, []), (38, 1, 3, 0, 1, 0, []), (39, 3, 30, 0, 9, 0, []), (42, 2, 2, 0, 4, 0, []), (44, 1, 33, 0, 0, 0, []), (45, 2, 5, 0, 5, 0, []), (47, 1, 3, 0, 0, 0, []), (48, 3, 30, 0, 6, 3, []), (51, 2, 2, 0, 5, 0, []), (53, 1, 3, 0, 0, 0, []), (54, 3, 30, 0, 6, 3, []), (57, 2, 2, 0, 5, 0, []), (59, 1, 33, 0, 0, 0, []), (60, 1, 3, 0, 0, 0, []), (61, 1, 3, 0, 1, 0, []), (62, 2, 2, 0, 4, 0, []), (64, 1, 2, 0, 2, 0, []), (65, 3, 50, 0, 66, 3, [6, 0, 0]), (68, 3, 55, 0, 0, 0, []), (71, 1, 36, 0, 0, 0, []), (72, 3, 8, 1, 4, 0, []), (75, 3, 22, 0, 29, 0, []), (78, 3, 8, 1, 3, 0, []), (81, 3, 22, 0, 21, 0, []), (84, 1, 72, 0, 0, 0, [])]
/-- CodeExchange$Routes.walk(LCodeExchange$Shifts;II)V -/
def tk_68 : mK := [(0, 1, 2, 0, 2, 0, []), (1, 1, 2, 0, 3, 0, []), (2, 3, 51, 0, 63, 2, [6, 0, 0]), (5, 2, 5, 0, 4, 0, []), (7, 1, 3, 0, 0, 0, []), (8, 3, 30, 0, 6, 0, []), (11, 2, 2, 0, 4, 0, []), (13, 1, 0, 0, 0, 0, []), (14, 1, 36, 0, 0, 0, []), (15, 1, 3, 0, 0, 0, []), (16, 3, 30, 0, 6, 1, []), (19, 2, 2, 0, 4, 0, []), (21, 1, 0, 0, 0, 0, []), (22, 1, 36, 0, 0, 0, []), (23, 1, 2, 0, 3, 0, []), (24, 2, 5, 0, 5, 0, []), (26, 1, 3, 0, 0, 0, []), (27, 3, 30, 0, 6, 3, []), (30, 1, 2, 0, 3, 0, []), (31, 1, 33, 0, 0, 0, []), (32, 2, 5, 0, 6, 0, []), (34, 2, 2, 0, 6, 0, []), (36, 3, 20, 0, 127, 5, []), (39, 2, 2, 0, 6, 0, []), (41, 2, 0, 100, 0, 0, []), (43, 3, 21, 0, 127, 3, []), (46, 1, 3, 0, 0, 0, []), (47, 1, 3, 0, 1, 0, []), (48, 1, 2, 0, 2, 0, []), (49, 2, 2, 0, 5, 0, []), (51, 2, 2, 0, 6, 0, []), (53, 3, 50, 0, 69, 4, [6, 0, 0]), (56, 2, 5, 0, 7, 0, []), (58, 2, 2, 0, 7, 0, []), (60, 3, 20, 0, 66, 3, []), (63, 3, 22, 0, 127, 0, []), (66, 1, 3, 0, 0, 0, []), (67, 3, 30, 0, 6, 0, []), (70, 2, 2, 0, 4, 0, []), (72, 1, 3, 0, 0, 0, []), (73, 3, 30, 0, 6, 0, []), (76, 2, 2, 0, 4, 0, []), (78, 1, 33, 0, 0, 0, []), (79, 2, 0, 8, 0, 0, []), (81, 1, 9, 0, 0, 6, []), (82, 1, 3, 0, 1, 0, []), (83, 3, 30, 0, 9, 1, []), (86, 2, 2, 0, 7, 0, []), (88, 1, 33, 0, 0, 0, []), (89, 1, 9, 0, 0, 4, []), (90, 1, 36, 0, 0, 0, []), (91, 1, 3, 0, 0, 0, []), (92, 3, 30, 0, 6, 1, []), (95, 2, 2, 0, 4, 0, []), (97, 1, 19, 0, 0, 0, []), (98, 1, 33, 0, 0, 0, []), (99, 1, 0, 1, 0, 0, []), (100, 1, 9, 0, 0, 0, []), (101, 1, 36, 0, 0, 0, []), (102, 1, 3, 0, 1, 0, []), (103, 3, 30, 0, 9, 3, []), (106, 2, 2, 0, 7, 0, []), (108, 1, 34, 0, 0, 0, []), (109, 3, 20, 0, 121, 0, []), (112, 1, 3, 0, 1, 0, []), (113, 3, 30, 0, 9, 2, []), (116, 2, 2, 0, 7, 0, []), (118, 1, 33, 0, 0, 0, []), (119, 2, 5, 0, 5, 0, []), (121, 3, 8, (-1), 6, 0, []), (124, 3, 22, 0, 34, 0, []), (127, 1, 3, 0, 0, 0, []), (128, 3, 30, 0, 6, 2, []), (131, 2, 2, 0, 4, 0, []), (133, 2, 2, 0, 5, 0, []), (135, 1, 36, 0, 0, 0, []), (136, 1, 72, 0, 0, 0, [])]
/-- CodeExchange$Routes.leastShift(LCodeExchange$Shifts;III)I -/
def tk_69 : mK := [(0, 1, 0, (-1), 0, 0, []), (1, 2, 5, 0, 5, 0, []), (3, 1, 0, 0, 0, 0, []), (4, 2, 5, 0, 6, 0, []), (6, 2, 2, 0, 6, 0, []), (8, 1, 3, 0, 1, 0, []), (9, 3, 30, 0, 9, 4, []), (12, 3, 21, 0, 71, 3, []), (15, 1, 3, 0, 1, 0, []), (16, 3, 30, 0, 9, 0, []), (19, 2, 2, 0, 6, 0, []), (21, 1, 33, 0, 0, 0, []), (22, 1, 2, 0, 3, 0, []), (23, 3, 21, 0, 65, 1, []), (26, 1, 3, 0, 0, 0, []), (27, 1, 3, 0, 1, 0, []), (28, 2, 2, 0, 6, 0, []), (30, 1, 2, 0, 2, 0, []), (31, 3, 50, 0, 66, 3, [6, 0, 0]), (34, 2, 2, 0, 4, 0, []), (36, 3, 21, 0, 65, 1, []), (39, 2, 2, 0, 5, 0, []), (41, 3, 20, 0, 61, 2, []), (44, 1, 3, 0, 1, 0, []), (45, 3, 30, 0, 9, 1, []), (48, 2, 2, 0, 6, 0, []), (50, 1, 33, 0, 0, 0, []), (51, 1, 3, 0, 1, 0, []), (52, 3, 30, 0, 9, 1, []), (55, 2, 2, 0, 5, 0, []), (57, 1, 33, 0, 0, 0, []), (58, 3, 21, 0, 65, 3, []), (61, 2, 2, 0, 6, 0, []), (63, 2, 5, 0, 5, 0, []), (65, 3, 8, 1, 6, 0, []), (68, 3, 22, 0, 6, 0, []), (71, 2, 2, 0, 5, 0, []), (73, 1, 70, 0, 0, 0, [])]
/-- CodeExchange$Row.<init>(I)V -/
def tk_70 : mK := [(0, 1, 3, 0, 0, 0, []), (1, 3, 53, 0, 0, 0, []), (4, 1, 3, 0, 0, 0, []), (5, 1, 2, 0, 1, 0, []), (6, 1, 0, 0, 0, 0, []), (7, 3, 54, 0, 0, 0, []), (10, 2, 40, 0, 0, 0, []), (12, 3, 31, 0, 7, 0, []), (15, 1, 72, 0, 0, 0, [])]
/-- CodeExchange$Row.clear()V -/
def tk_71 : mK := [(0, 1, 3, 0, 0, 0, []), (1, 1, 0, 0, 0, 0, []), (2, 3, 31, 0, 7, 1, []), (5, 1, 72, 0, 0, 0, [])]
/-- CodeExchange$Row.add(I)Z -/
def tk_72 : mK := [(0, 1, 3, 0, 0, 0, []), (1, 3, 30, 0, 7, 1, []), (4, 1, 3, 0, 0, 0, []), (5, 3, 30, 0, 7, 0, []), (8, 1, 39, 0, 0, 0, []), (9, 3, 21, 0, 14, 2, []), (12, 1, 0, 0, 0, 0, []), (13, 1, 70, 0, 1, 0, []), (14, 1, 3, 0, 0, 0, []), (15, 3, 30, 0, 7, 0, []), (18, 1, 3, 0, 0, 0, []), (19, 3, 30, 0, 7, 1, []), (22, 1, 2, 0, 1, 0, []), (23, 1, 36, 0, 0, 0, []), (24, 1, 3, 0, 0, 0, []), (25, 1, 17, 0, 0, 0, []), (26, 3, 30, 0, 7, 1, []), (29, 1, 0, 1, 0, 0, []), (30, 1, 9, 0, 0, 0, []), (31, 3, 31, 0, 7, 1, []), (34, 1, 0, 1, 0, 0, []), (35, 1, 70, 0, 1, 0, [])]
/-- CodeExchange$Row.addAll(LCodeExchange$Row;)Z -/
def tk_73 : mK := [(0, 1, 3, 0, 1, 0, []), (1, 3, 30, 0, 7, 1, []), (4, 1, 3, 0, 0, 0, []), (5, 3, 30, 0, 7, 0, []), (8, 1, 39, 0, 0, 0, []), (9, 1, 3, 0, 0, 0, []), (10, 3, 30, 0, 7, 1, []), (13, 1, 9, 0, 0, 1, []), (14, 3, 21, 0, 19, 5, []), (17, 1, 0, 0, 0, 0, []), (18, 1, 70, 0, 1, 0, []), (19, 1, 3, 0, 1, 0, []), (20, 3, 30, 0, 7, 0, []), (23, 1, 0, 0, 0, 0, []), (24, 1, 3, 0, 0, 0, []), (25, 3, 30, 0, 7, 0, []), (28, 1, 3, 0, 0, 0, []), (29, 3, 30, 0, 7, 1, []), (32, 1, 3, 0, 1, 0, []), (33, 3, 30, 0, 7, 1, []), (36, 3, 56, 0, 0, 0, []), (39, 1, 3, 0, 0, 0, []), (40, 1, 17, 0, 0, 0, []), (41, 3, 30, 0, 7, 1, []), (44, 1, 3, 0, 1, 0, []), (45, 3, 30, 0, 7, 1, []), (48, 1, 9, 0, 0, 0, []), (49, 3, 31, 0, 7, 1, []), (52, 1, 0, 1, 0, 0, []), (53, 1, 70, 0, 1, 0, [])]
/-- CodeExchange$Row.addNumber(II)V -/
def tk_74 : mK := [(0, 1, 2, 0, 2, 0, []), (1, 1, 0, 1, 0, 0, []), (2, 1, 9, 0, 0, 1, []), (3, 1, 5, 0, 3, 0, []), (4, 1, 2, 0, 3, 0, []), (5, 3, 20, 0, 55, 2, []), (8, 1, 3, 0, 0, 0, []), (9, 3, 30, 0, 7, 1, []), (12, 1, 3, 0, 0, 0, []), (13, 3, 30, 0, 7, 0, []), (16, 1, 39, 0, 0, 0, []), (17, 3, 21, 0, 55, 3, []), (20, 1, 3, 0, 0, 0, []), (21, 3, 30, 0, 7, 0, []), (24, 1, 3, 0, 0, 0, []), (25, 3, 30, 0, 7, 1, []), (28, 1, 2, 0, 1, 0, []), (29, 2, 0, 8, 0, 0, []), (31, 1, 2, 0, 3, 0, []), (32, 1, 9, 0, 0, 2, []), (33, 1, 9, 0, 0, 8, []), (34, 3, 0, 255, 0, 0, []), (37, 1, 9, 0, 0, 3, []), (38, 1, 36, 0, 0, 0, []), (39, 1, 3, 0, 0, 0, []), (40, 1, 17, 0, 0, 0, []), (41, 3, 30, 0, 7, 1, []), (44, 1, 0, 1, 0, 0, []), (45, 1, 9, 0, 0, 0, []), (46, 3, 31, 0, 7, 1, []), (49, 3, 8, (-1), 3, 0, []), (52, 3, 22, 0, 4, 0, []), (55, 1, 72, 0, 0, 0, [])]
/-- CodeExchange$Row.addPoint(I)V -/
def tk_75 : mK := [(0, 1, 2, 0, 1, 0, []), (1, 2, 0, 65536, 0, 0, []), (3, 3, 21, 0, 15, 3, []), (6, 1, 3, 0, 0, 0, []), (7, 1, 2, 0, 1, 0, []), (8, 3, 50, 0, 72, 1, [7, 0, 0]), (11, 1, 18, 0, 0, 0, []), (12, 3, 22, 0, 47, 0, []), (15, 1, 3, 0, 0, 0, []), (16, 2, 0, 55296, 0, 0, []), (18, 1, 2, 0, 1, 0, []), (19, 2, 0, 65536, 0, 0, []), (21, 1, 9, 0, 0, 1, []), (22, 3, 0, 1024, 0, 0, []), (25, 1, 10, 0, 0, 0, []), (26, 1, 9, 0, 0, 0, []), (27, 3, 50, 0, 72, 1, [7, 0, 0]), (30, 1, 18, 0, 0, 0, []), (31, 1, 3, 0, 0, 0, []), (32, 2, 0, 56320, 0, 0, []), (34, 1, 2, 0, 1, 0, []), (35, 2, 0, 65536, 0, 0, []), (37, 1, 9, 0, 0, 1, []), (38, 3, 0, 1024, 0, 0, []), (41, 1, 11, 0, 0, 0, []), (42, 1, 9, 0, 0, 0, []), (43, 3, 50, 0, 72, 1, [7, 0, 0]), (46, 1, 18, 0, 0, 0, []), (47, 1, 72, 0, 0, 0, [])]
/-- CodeExchange$Row.numberAt(II)I -/
def tk_76 : mK := [(0, 1, 2, 0, 1, 0, []), (1, 3, 20, 0, 26, 2, []), (4, 1, 2, 0, 2, 0, []), (5, 1, 3, 0, 0, 0, []), (6, 3, 30, 0, 7, 1, []), (9, 1, 2, 0, 1, 0, []), (10, 1, 9, 0, 0, 1, []), (11, 3, 21, 0, 26, 4, []), (14, 1, 3, 0, 0, 0, []), (15, 3, 30, 0, 7, 0, []), (18, 1, 2, 0, 1, 0, []), (19, 1, 2, 0, 2, 0, []), (20, 3, 51, 0, 77, 3, [7, 0, 0]), (23, 3, 22, 0, 27, 0, []), (26, 1, 0, (-1), 0, 0, []), (27, 1, 70, 0, 0, 0, [])]
/-- CodeExchange$Row.packed([III)I -/
def tk_77 : mK := [(0, 1, 0, 0, 0, 0, []), (1, 1, 5, 0, 3, 0, []), (2, 1, 2, 0, 1, 0, []), (3, 2, 5, 0, 4, 0, []), (5, 2, 2, 0, 4, 0, []), (7, 1, 2, 0, 1, 0, []), (8, 1, 2, 0, 2, 0, []), (9, 1, 9, 0, 0, 0, []), (10, 3, 21, 0, 36, 3, []), (13, 2, 2, 0, 4, 0, []), (15, 1, 3, 0, 0, 0, []), (16, 1, 39, 0, 0, 0, []), (17, 3, 21, 0, 36, 3, []), (20, 1, 2, 0, 3, 0, []), (21, 2, 0, 8, 0, 0, []), (23, 1, 9, 0, 0, 6, []), (24, 1, 3, 0, 0, 0, []), (25, 2, 2, 0, 4, 0, []), (27, 1, 33, 0, 0, 0, []), (28, 1, 9, 0, 0, 4, []), (29, 1, 5, 0, 3, 0, []), (30, 3, 8, 1, 4, 0, []), (33, 3, 22, 0, 5, 0, []), (36, 1, 2, 0, 3, 0, []), (37, 1, 70, 0, 0, 0, [])]
/-- CodeExchange$Row.pointAt(I)I -/
def tk_78 : mK := [(0, 1, 2, 0, 1, 0, []), (1, 3, 20, 0, 12, 2, []), (4, 1, 2, 0, 1, 0, []), (5, 1, 3, 0, 0, 0, []), (6, 3, 30, 0, 7, 1, []), (9, 3, 21, 0, 14, 2, []), (12, 1, 0, (-1), 0, 0, []), (13, 1, 70, 0, 0, 0, []), (14, 1, 3, 0, 0, 0, []), (15, 3, 30, 0, 7, 0, []), (18, 1, 2, 0, 1, 0, []), (19, 1, 33, 0, 0, 0, []), (20, 1, 5, 0, 2, 0, []), (21, 1, 2, 0, 2, 0, []), (22, 3, 51, 0, 140, 1, [11, 0, 0]), (25, 3, 20, 0, 30, 1, []), (28, 1, 2, 0, 2, 0, []), (29, 1, 70, 0, 0, 0, []), (30, 1, 2, 0, 2, 0, []), (31, 3, 51, 0, 141, 1, [11, 0, 0]), (34, 3, 20, 0, 65, 0, []), (37, 1, 2, 0, 1, 0, []), (38, 1, 0, 1, 0, 0, []), (39, 1, 9, 0, 0, 0, []), (40, 1, 3, 0, 0, 0, []), (41, 3, 30, 0, 7, 1, []), (44, 3, 21, 0, 65, 3, []), (47, 1, 3, 0, 0, 0, []), (48, 3, 30, 0, 7, 0, []), (51, 1, 2, 0, 1, 0, []), (52, 1, 0, 1, 0, 0, []), (53, 1, 9, 0, 0, 0, []), (54, 1, 33, 0, 0, 0, []), (55, 3, 51, 0, 142, 1, [11, 0, 0]), (58, 3, 20, 0, 65, 0, []), (61, 1, 0, 1, 0, 0, []), (62, 3, 22, 0, 66, 0, []), (65, 1, 0, 0, 0, 0, []), (66, 1, 5, 0, 3, 0, []), (67, 1, 2, 0, 3, 0, []), (68, 3, 20, 0, 86, 0, []), (71, 1, 2, 0, 2, 0, []), (72, 1, 3, 0, 0, 0, []), (73, 3, 30, 0, 7, 0, []), (76, 1, 2, 0, 1, 0, []), (77, 1, 0, 1, 0, 0, []), (78, 1, 9, 0, 0, 0, []), (79, 1, 33, 0, 0, 0, []), (80, 3, 51, 0, 143, 2, [11, 0, 0]), (83, 3, 22, 0, 87, 0, []), (86, 1, 0, (-1), 0, 0, []), (87, 1, 70, 0, 0, 0, [])]
/-- CodeExchange$Row.isSame(LCodeExchange$Row;)Z -/
def tk_79 : mK := [(0, 1, 3, 0, 0, 0, []), (1, 3, 30, 0, 7, 1, []), (4, 1, 3, 0, 1, 0, []), (5, 3, 30, 0, 7, 1, []), (8, 3, 21, 0, 13, 0, []), (11, 1, 0, 0, 0, 0, []), (12, 1, 70, 0, 1, 0, []), (13, 1, 0, 0, 0, 0, []), (14, 1, 5, 0, 2, 0, []), (15, 1, 2, 0, 2, 0, []), (16, 1, 3, 0, 0, 0, []), (17, 3, 30, 0, 7, 1, []), (20, 3, 21, 0, 46, 3, []), (23, 1, 3, 0, 0, 0, []), (24, 3, 30, 0, 7, 0, []), (27, 1, 2, 0, 2, 0, []), (28, 1, 33, 0, 0, 0, []), (29, 1, 3, 0, 1, 0, []), (30, 3, 30, 0, 7, 0, []), (33, 1, 2, 0, 2, 0, []), (34, 1, 33, 0, 0, 0, []), (35, 3, 21, 0, 40, 0, []), (38, 1, 0, 0, 0, 0, []), (39, 1, 70, 0, 1, 0, []), (40, 3, 8, 1, 2, 0, []), (43, 3, 22, 0, 15, 0, []), (46, 1, 0, 1, 0, 0, []), (47, 1, 70, 0, 1, 0, [])]
/-- CodeExchange$Rules.<init>()V -/
def tk_80 : mK := [(0, 1, 3, 0, 0, 0, []), (1, 3, 53, 0, 0, 0, []), (4, 1, 3, 0, 0, 0, []), (5, 2, 0, 65533, 0, 0, []), (7, 3, 31, 0, 8, 0, []), (10, 1, 3, 0, 0, 0, []), (11, 2, 0, 63, 0, 0, []), (13, 3, 31, 0, 8, 1, []), (16, 1, 3, 0, 0, 0, []), (17, 2, 0, 41, 0, 0, []), (19, 2, 40, 0, 0, 0, []), (21, 3, 31, 0, 8, 3, []), (24, 1, 3, 0, 0, 0, []), (25, 2, 0, 41, 0, 0, []), (27, 2, 40, 0, 0, 0, []), (29, 3, 31, 0, 8, 4, []), (32, 1, 3, 0, 0, 0, []), (33, 3, 0, 164, 0, 0, []), (36, 2, 40, 0, 0, 0, []), (38, 3, 31, 0, 8, 5, []), (41, 1, 3, 0, 0, 0, []), (42, 2, 0, 41, 0, 0, []), (44, 2, 40, 0, 0, 0, []), (46, 3, 31, 0, 8, 6, []), (49, 1, 72, 0, 0, 0, [])]
/-- CodeExchange$Rules.slotOf(I)I -/
def tk_81 : mK := [(0, 1, 0, 0, 0, 0, []), (1, 1, 5, 0, 2, 0, []), (2, 1, 2, 0, 2, 0, []), (3, 1, 3, 0, 0, 0, []), (4, 3, 30, 0, 8, 2, []), (7, 3, 21, 0, 28, 3, []), (10, 1, 3, 0, 0, 0, []), (11, 3, 30, 0, 8, 3, []), (14, 1, 2, 0, 2, 0, []), (15, 1, 33, 0, 0, 0, []), (16, 1, 2, 0, 1, 0, []), (17, 3, 21, 0, 22, 1, []), (20, 1, 2, 0, 2, 0, []), (21, 1, 70, 0, 0, 0, []), (22, 3, 8, 1, 2, 0, []), (25, 3, 22, 0, 2, 0, []), (28, 1, 0, (-1), 0, 0, []), (29, 1, 70, 0, 0, 0, [])]
/-- CodeExchange$Rules.replace(ILCodeExchange$Row;)I -/
def tk_82 : mK := [(0, 1, 3, 0, 0, 0, []), (1, 1, 2, 0, 1, 0, []), (2, 3, 50, 0, 81, 1, [8, 0, 0]), (5, 1, 5, 0, 3, 0, []), (6, 1, 3, 0, 2, 0, []), (7, 3, 30, 0, 7, 1, []), (10, 3, 20, 0, 20, 1, []), (13, 1, 3, 0, 0, 0, []), (14, 1, 2, 0, 3, 0, []), (15, 3, 50, 0, 83, 1, [8, 0, 0]), (18, 1, 0, 0, 0, 0, []), (19, 1, 70, 0, 0, 0, []), (20, 1, 2, 0, 3, 0, []), (21, 3, 20, 0, 36, 3, []), (24, 1, 3, 0, 0, 0, []), (25, 3, 30, 0, 8, 2, []), (28, 2, 0, 40, 0, 0, []), (30, 3, 21, 0, 36, 2, []), (33, 2, 0, (-6), 0, 0, []), (35, 1, 70, 0, 0, 0, []), (36, 1, 3, 0, 0, 0, []), (37, 1, 2, 0, 1, 0, []), (38, 1, 3, 0, 2, 0, []), (39, 3, 50, 0, 84, 2, [8, 0, 0]), (42, 1, 3, 0, 0, 0, []), (43, 1, 2, 0, 3, 0, []), (44, 3, 50, 0, 86, 1, [8, 0, 0]), (47, 2, 5, 0, 4, 0, []), (49, 2, 2, 0, 4, 0, []), (51, 3, 20, 0, 57, 0, []), (54, 2, 2, 0, 4, 0, []), (56, 1, 70, 0, 0, 0, []), (57, 1, 2, 0, 3, 0, []), (58, 3, 20, 0, 76, 3, []), (61, 1, 3, 0, 0, 0, []), (62, 3, 30, 0, 8, 2, []), (65, 1, 5, 0, 3, 0, []), (66, 1, 3, 0, 0, 0, []), (67, 1, 17, 0, 0, 0, []), (68, 3, 30, 0, 8, 2, []), (71, 1, 0, 1, 0, 0, []), (72, 1, 9, 0, 0, 0, []), (73, 3, 31, 0, 8, 2, []), (76, 1, 3, 0, 0, 0, []), (77, 2, 0, 40, 0, 0, []), (79, 1, 2, 0, 3, 0, []), (80, 3, 50, 0, 85, 2, [8, 0, 0]), (83, 1, 0, 0, 0, 0, []), (84, 1, 70, 0, 0, 0, [])]
/-- CodeExchange$Rules.remove(I)V -/
def tk_83 : mK := [(0, 1, 2, 0, 1, 0, []), (1, 3, 20, 0, 23, 2, []), (4, 1, 3, 0, 0, 0, []), (5, 1, 17, 0, 0, 0, []), (6, 3, 30, 0, 8, 2, []), (9, 1, 0, 1, 0, 0, []), (10, 1, 9, 0, 0, 1, []), (11, 3, 31, 0, 8, 2, []), (14, 1, 3, 0, 0, 0, []), (15, 1, 3, 0, 0, 0, []), (16, 3, 30, 0, 8, 2, []), (19, 1, 2, 0, 1, 0, []), (20, 3, 50, 0, 85, 2, [8, 0, 0]), (23, 1, 72, 0, 0, 0, [])]
/-- CodeExchange$Rules.stage(ILCodeExchange$Row;)V -/
def tk_84 : mK := [(0, 1, 3, 0, 0, 0, []), (1, 3, 30, 0, 8, 3, []), (4, 2, 0, 40, 0, 0, []), (6, 1, 2, 0, 1, 0, []), (7, 1, 36, 0, 0, 0, []), (8, 1, 3, 0, 0, 0, []), (9, 3, 30, 0, 8, 4, []), (12, 2, 0, 40, 0, 0, []), (14, 1, 3, 0, 2, 0, []), (15, 3, 30, 0, 7, 1, []), (18, 1, 0, 4, 0, 0, []), (19, 3, 55, 0, 0, 0, []), (22, 1, 36, 0, 0, 0, []), (23, 1, 0, 0, 0, 0, []), (24, 1, 5, 0, 3, 0, []), (25, 1, 2, 0, 3, 0, []), (26, 1, 3, 0, 0, 0, []), (27, 3, 30, 0, 8, 4, []), (30, 2, 0, 40, 0, 0, []), (32, 1, 33, 0, 0, 0, []), (33, 3, 21, 0, 58, 3, []), (36, 1, 3, 0, 0, 0, []), (37, 3, 30, 0, 8, 5, []), (40, 3, 0, 160, 0, 0, []), (43, 1, 2, 0, 3, 0, []), (44, 1, 9, 0, 0, 0, []), (45, 1, 3, 0, 2, 0, []), (46, 3, 30, 0, 7, 0, []), (49, 1, 2, 0, 3, 0, []), (50, 1, 33, 0, 0, 0, []), (51, 1, 36, 0, 0, 0, []), (52, 3, 8, 1, 3, 0, []), (55, 3, 22, 0, 25, 0, []), (58, 1, 72, 0, 0, 0, [])]
/-- CodeExchange$Rules.copy(II)V -/
def tk_85 : mK := [(0, 1, 3, 0, 0, 0, []), (1, 3, 30, 0, 8, 3, []), (4, 1, 2, 0, 2, 0, []), (5, 1, 3, 0, 0, 0, []), (6, 3, 30, 0, 8, 3, []), (9, 1, 2, 0, 1, 0, []), (10, 1, 33, 0, 0, 0, []), (11, 1, 36, 0, 0, 0, []), (12, 1, 3, 0, 0, 0, []), (13, 3, 30, 0, 8, 4, []), (16, 1, 2, 0, 2, 0, []), (17, 1, 3, 0, 0, 0, []), (18, 3, 30, 0, 8, 4, []), (21, 1, 2, 0, 1, 0, []), (22, 1, 33, 0, 0, 0, []), (23, 1, 36, 0, 0, 0, []), (24, 1, 3, 0, 0, 0, []), (25, 3, 30, 0, 8, 5, []), (28, 1, 2, 0, 1, 0, []), (29, 1, 0, 4, 0, 0, []), (30, 1, 9, 0, 0, 2, []), (31, 1, 3, 0, 0, 0, []), (32, 3, 30, 0, 8, 5, []), (35, 1, 2, 0, 2, 0, []), (36, 1, 0, 4, 0, 0, []), (37, 1, 9, 0, 0, 2, []), (38, 1, 0, 4, 0, 0, []), (39, 3, 56, 0, 0, 0, []), (42, 1, 72, 0, 0, 0, [])]
/-- CodeExchange$Rules.stagedFinding(I)I -/
def tk_86 : mK := [(0, 1, 3, 0, 0, 0, []), (1, 3, 30, 0, 8, 6, []), (4, 1, 0, 0, 0, 0, []), (5, 3, 51, 0, 261, 2, [14, 0, 0]), (8, 1, 0, 1, 0, 0, []), (9, 1, 5, 0, 2, 0, []), (10, 1, 0, 0, 0, 0, []), (11, 1, 5, 0, 3, 0, []), (12, 1, 2, 0, 2, 0, []), (13, 3, 20, 0, 99, 0, []), (16, 1, 2, 0, 3, 0, []), (17, 2, 0, 41, 0, 0, []), (19, 3, 21, 0, 99, 4, []), (22, 1, 0, 0, 0, 0, []), (23, 1, 5, 0, 2, 0, []), (24, 1, 0, 0, 0, 0, []), (25, 2, 5, 0, 4, 0, []), (27, 2, 2, 0, 4, 0, []), (29, 2, 0, 40, 0, 0, []), (31, 3, 21, 0, 93, 4, []), (34, 1, 3, 0, 0, 0, []), (35, 2, 2, 0, 4, 0, []), (37, 1, 2, 0, 1, 0, []), (38, 3, 50, 0, 87, 2, [8, 0, 0]), (41, 3, 20, 0, 87, 0, []), (44, 1, 3, 0, 0, 0, []), (45, 3, 30, 0, 8, 6, []), (48, 2, 2, 0, 4, 0, []), (50, 1, 33, 0, 0, 0, []), (51, 3, 20, 0, 87, 1, []), (54, 1, 3, 0, 0, 0, []), (55, 3, 30, 0, 8, 6, []), (58, 2, 2, 0, 4, 0, []), (60, 1, 3, 0, 0, 0, []), (61, 2, 2, 0, 4, 0, []), (63, 3, 50, 0, 88, 1, [8, 0, 0]), (66, 1, 36, 0, 0, 0, []), (67, 1, 2, 0, 2, 0, []), (68, 3, 20, 0, 81, 1, []), (71, 1, 3, 0, 0, 0, []), (72, 3, 30, 0, 8, 6, []), (75, 2, 2, 0, 4, 0, []), (77, 1, 33, 0, 0, 0, []), (78, 3, 20, 0, 85, 5, []), (81, 1, 0, 1, 0, 0, []), (82, 3, 22, 0, 86, 0, []), (85, 1, 0, 0, 0, 0, []), (86, 1, 5, 0, 2, 0, []), (87, 3, 8, 1, 4, 0, []), (90, 3, 22, 0, 27, 0, []), (93, 3, 8, 1, 3, 0, []), (96, 3, 22, 0, 12, 0, []), (99, 1, 0, 0, 0, 0, []), (100, 1, 5, 0, 3, 0, []), (101, 1, 0, 0, 0, 0, []), (102, 2, 5, 0, 4, 0, []), (104, 2, 2, 0, 4, 0, []), (106, 2, 0, 40, 0, 0, []), (108, 3, 21, 0, 165, 4, []), (111, 1, 3, 0, 0, 0, []), (112, 2, 2, 0, 4, 0, []), (114, 1, 2, 0, 1, 0, []), (115, 3, 50, 0, 87, 2, [8, 0, 0]), (118, 3, 20, 0, 134, 0, []), (121, 1, 3, 0, 0, 0, []), (122, 3, 30, 0, 8, 6, []), (125, 2, 2, 0, 4, 0, []), (127, 1, 33, 0, 0, 0, []), (128, 3, 20, 0, 134, 1, []), (131, 2, 0, (-11), 0, 0, []), (133, 1, 70, 0, 0, 0, []), (134, 1, 3, 0, 0, 0, []), (135, 2, 2, 0, 4, 0, []), (137, 1, 2, 0, 1, 0, []), (138, 3, 50, 0, 87, 2, [8, 0, 0]), (141, 3, 20, 0, 159, 0, []), (144, 1, 3, 0, 0, 0, []), (145, 3, 30, 0, 8, 6, []), (148, 2, 2, 0, 4, 0, []), (150, 1, 33, 0, 0, 0, []), (151, 2, 0, 16, 0, 0, []), (153, 3, 21, 0, 159, 5, []), (156, 2, 0, (-12), 0, 0, []), (158, 1, 5, 0, 3, 0, []), (159, 3, 8, 1, 4, 0, []), (162, 3, 22, 0, 104, 0, []), (165, 1, 2, 0, 3, 0, []), (166, 1, 70, 0, 0, 0, [])]
/-- CodeExchange$Rules.stands(II)Z -/
def tk_87 : mK := [(0, 1, 2, 0, 1, 0, []), (1, 2, 0, 40, 0, 0, []), (3, 3, 21, 0, 19, 0, []), (6, 1, 2, 0, 1, 0, []), (7, 1, 3, 0, 0, 0, []), (8, 3, 30, 0, 8, 2, []), (11, 3, 21, 0, 23, 3, []), (14, 1, 2, 0, 1, 0, []), (15, 1, 2, 0, 2, 0, []), (16, 3, 21, 0, 23, 0, []), (19, 1, 0, 1, 0, 0, []), (20, 3, 22, 0, 24, 0, []), (23, 1, 0, 0, 0, 0, []), (24, 1, 70, 0, 1, 0, [])]
/-- CodeExchange$Rules.wholeOf(I)I -/
def tk_88 : mK := [(0, 1, 0, 0, 0, 0, []), (1, 1, 5, 0, 2, 0, []), (2, 1, 0, 0, 0, 0, []), (3, 1, 5, 0, 3, 0, []), (4, 1, 2, 0, 3, 0, []), (5, 1, 3, 0, 0, 0, []), (6, 3, 30, 0, 8, 4, []), (9, 1, 2, 0, 1, 0, []), (10, 1, 33, 0, 0, 0, []), (11, 3, 21, 0, 93, 3, []), (14, 1, 3, 0, 0, 0, []), (15, 3, 30, 0, 8, 5, []), (18, 1, 2, 0, 1, 0, []), (19, 1, 0, 4, 0, 0, []), (20, 1, 9, 0, 0, 2, []), (21, 1, 2, 0, 3, 0, []), (22, 1, 9, 0, 0, 0, []), (23, 1, 33, 0, 0, 0, []), (24, 2, 5, 0, 4, 0, []), (26, 2, 2, 0, 4, 0, []), (28, 1, 3, 0, 0, 0, []), (29, 3, 30, 0, 8, 3, []), (32, 2, 0, 40, 0, 0, []), (34, 1, 33, 0, 0, 0, []), (35, 3, 21, 0, 43, 1, []), (38, 2, 0, 40, 0, 0, []), (40, 3, 22, 0, 49, 0, []), (43, 1, 3, 0, 0, 0, []), (44, 2, 2, 0, 4, 0, []), (46, 3, 50, 0, 81, 1, [8, 0, 0]), (49, 2, 5, 0, 5, 0, []), (51, 2, 2, 0, 5, 0, []), (53, 3, 20, 0, 68, 2, []), (56, 1, 3, 0, 0, 0, []), (57, 3, 30, 0, 8, 6, []), (60, 2, 2, 0, 5, 0, []), (62, 1, 33, 0, 0, 0, []), (63, 3, 20, 0, 68, 1, []), (66, 1, 0, 0, 0, 0, []), (67, 1, 70, 0, 0, 0, []), (68, 1, 2, 0, 2, 0, []), (69, 2, 2, 0, 5, 0, []), (71, 3, 20, 0, 84, 2, []), (74, 1, 3, 0, 0, 0, []), (75, 3, 30, 0, 8, 6, []), (78, 2, 2, 0, 5, 0, []), (80, 1, 33, 0, 0, 0, []), (81, 3, 22, 0, 85, 0, []), (84, 1, 0, 1, 0, 0, []), (85, 1, 9, 0, 0, 0, []), (86, 1, 5, 0, 2, 0, []), (87, 3, 8, 1, 3, 0, []), (90, 3, 22, 0, 4, 0, []), (93, 1, 2, 0, 2, 0, []), (94, 2, 0, 17, 0, 0, []), (96, 3, 55, 0, 0, 0, []), (99, 1, 70, 0, 0, 0, [])]
/-- CodeExchange$Rules.pushParts(ILCodeExchange$Row;)Z -/
def tk_89 : mK := [(0, 1, 3, 0, 0, 0, []), (1, 1, 2, 0, 1, 0, []), (2, 3, 50, 0, 81, 1, [8, 0, 0]), (5, 1, 5, 0, 3, 0, []), (6, 1, 2, 0, 3, 0, []), (7, 3, 20, 0, 12, 3, []), (10, 1, 0, 0, 0, 0, []), (11, 1, 70, 0, 1, 0, []), (12, 1, 0, 1, 0, 0, []), (13, 2, 5, 0, 4, 0, []), (15, 1, 3, 0, 0, 0, []), (16, 3, 30, 0, 8, 4, []), (19, 1, 2, 0, 3, 0, []), (20, 1, 33, 0, 0, 0, []), (21, 1, 0, 1, 0, 0, []), (22, 1, 9, 0, 0, 1, []), (23, 2, 5, 0, 5, 0, []), (25, 2, 2, 0, 5, 0, []), (27, 3, 20, 0, 66, 2, []), (30, 2, 2, 0, 4, 0, []), (32, 3, 20, 0, 57, 0, []), (35, 1, 3, 0, 2, 0, []), (36, 1, 3, 0, 0, 0, []), (37, 3, 30, 0, 8, 5, []), (40, 1, 2, 0, 3, 0, []), (41, 1, 0, 4, 0, 0, []), (42, 1, 9, 0, 0, 2, []), (43, 2, 2, 0, 5, 0, []), (45, 1, 9, 0, 0, 0, []), (46, 1, 33, 0, 0, 0, []), (47, 3, 50, 0, 72, 1, [7, 0, 0]), (50, 3, 20, 0, 57, 0, []), (53, 1, 0, 1, 0, 0, []), (54, 3, 22, 0, 58, 0, []), (57, 1, 0, 0, 0, 0, []), (58, 2, 5, 0, 4, 0, []), (60, 3, 8, (-1), 5, 0, []), (63, 3, 22, 0, 25, 0, []), (66, 2, 2, 0, 4, 0, []), (68, 1, 70, 0, 1, 0, [])]
/-- CodeExchange$Shifts.<init>(I)V -/
def tk_90 : mK := [(0, 1, 3, 0, 0, 0, []), (1, 3, 53, 0, 0, 0, []), (4, 1, 2, 0, 1, 0, []), (5, 1, 0, 0, 0, 0, []), (6, 3, 54, 0, 0, 0, []), (9, 1, 5, 0, 2, 0, []), (10, 1, 3, 0, 0, 0, []), (11, 1, 2, 0, 2, 0, []), (12, 2, 40, 0, 0, 0, []), (14, 3, 31, 0, 9, 0, []), (17, 1, 3, 0, 0, 0, []), (18, 1, 2, 0, 2, 0, []), (19, 2, 40, 0, 0, 0, []), (21, 3, 31, 0, 9, 1, []), (24, 1, 3, 0, 0, 0, []), (25, 1, 2, 0, 2, 0, []), (26, 2, 40, 0, 0, 0, []), (28, 3, 31, 0, 9, 2, []), (31, 1, 3, 0, 0, 0, []), (32, 1, 2, 0, 2, 0, []), (33, 2, 40, 0, 0, 1, []), (35, 3, 31, 0, 9, 3, []), (38, 1, 72, 0, 0, 0, [])]
/-- CodeExchange$Shifts.slotOf(II)I -/
def tk_91 : mK := [(0, 1, 0, 0, 0, 0, []), (1, 1, 5, 0, 3, 0, []), (2, 1, 2, 0, 3, 0, []), (3, 1, 3, 0, 0, 0, []), (4, 3, 30, 0, 9, 4, []), (7, 3, 21, 0, 38, 3, []), (10, 1, 3, 0, 0, 0, []), (11, 3, 30, 0, 9, 0, []), (14, 1, 2, 0, 3, 0, []), (15, 1, 33, 0, 0, 0, []), (16, 1, 2, 0, 1, 0, []), (17, 3, 21, 0, 32, 1, []), (20, 1, 3, 0, 0, 0, []), (21, 3, 30, 0, 9, 1, []), (24, 1, 2, 0, 3, 0, []), (25, 1, 33, 0, 0, 0, []), (26, 1, 2, 0, 2, 0, []), (27, 3, 21, 0, 32, 1, []), (30, 1, 2, 0, 3, 0, []), (31, 1, 70, 0, 0, 0, []), (32, 3, 8, 1, 3, 0, []), (35, 3, 22, 0, 2, 0, []), (38, 1, 0, (-1), 0, 0, []), (39, 1, 70, 0, 0, 0, [])]
/-- CodeExchange$Shifts.add(IIIZ)V -/
def tk_92 : mK := [(0, 1, 3, 0, 0, 0, []), (1, 3, 30, 0, 9, 4, []), (4, 1, 3, 0, 0, 0, []), (5, 3, 30, 0, 9, 0, []), (8, 1, 39, 0, 0, 0, []), (9, 3, 21, 0, 13, 2, []), (12, 1, 72, 0, 0, 0, []), (13, 1, 3, 0, 0, 0, []), (14, 3, 30, 0, 9, 0, []), (17, 1, 3, 0, 0, 0, []), (18, 3, 30, 0, 9, 4, []), (21, 1, 2, 0, 1, 0, []), (22, 1, 36, 0, 0, 0, []), (23, 1, 3, 0, 0, 0, []), (24, 3, 30, 0, 9, 1, []), (27, 1, 3, 0, 0, 0, []), (28, 3, 30, 0, 9, 4, []), (31, 1, 2, 0, 2, 0, []), (32, 1, 36, 0, 0, 0, []), (33, 1, 3, 0, 0, 0, []), (34, 3, 30, 0, 9, 2, []), (37, 1, 3, 0, 0, 0, []), (38, 3, 30, 0, 9, 4, []), (41, 1, 2, 0, 3, 0, []), (42, 1, 36, 0, 0, 0, []), (43, 1, 3, 0, 0, 0, []), (44, 3, 30, 0, 9, 3, []), (47, 1, 3, 0, 0, 0, []), (48, 3, 30, 0, 9, 4, []), (51, 2, 2, 0, 4, 0, []), (53, 1, 37, 0, 0, 0, []), (54, 1, 3, 0, 0, 0, []), (55, 1, 17, 0, 0, 0, []), (56, 3, 30, 0, 9, 4, []), (59, 1, 0, 1, 0, 0, []), (60, 1, 9, 0, 0, 0, []), (61, 3, 31, 0, 9, 4, []), (64, 1, 72, 0, 0, 0, [])]
/-- CodeExchange$Shifts.removeAt(I)V -/
def tk_93 : mK := [(0, 1, 2, 0, 1, 0, []), (1, 3, 20, 0, 12, 2, []), (4, 1, 2, 0, 1, 0, []), (5, 1, 3, 0, 0, 0, []), (6, 3, 30, 0, 9, 4, []), (9, 3, 21, 0, 13, 2, []), (12, 1, 72, 0, 0, 0, []), (13, 1, 2, 0, 1, 0, []), (14, 1, 5, 0, 2, 0, []), (15, 1, 2, 0, 2, 0, []), (16, 1, 0, 1, 0, 0, []), (17, 1, 9, 0, 0, 0, []), (18, 1, 3, 0, 0, 0, []), (19, 3, 30, 0, 9, 4, []), (22, 3, 21, 0, 87, 3, []), (25, 1, 3, 0, 0, 0, []), (26, 3, 30, 0, 9, 0, []), (29, 1, 2, 0, 2, 0, []), (30, 1, 3, 0, 0, 0, []), (31, 3, 30, 0, 9, 0, []), (34, 1, 2, 0, 2, 0, []), (35, 1, 0, 1, 0, 0, []), (36, 1, 9, 0, 0, 0, []), (37, 1, 33, 0, 0, 0, []), (38, 1, 36, 0, 0, 0, []), (39, 1, 3, 0, 0, 0, []), (40, 3, 30, 0, 9, 1, []), (43, 1, 2, 0, 2, 0, []), (44, 1, 3, 0, 0, 0, []), (45, 3, 30, 0, 9, 1, []), (48, 1, 2, 0, 2, 0, []), (49, 1, 0, 1, 0, 0, []), (50, 1, 9, 0, 0, 0, []), (51, 1, 33, 0, 0, 0, []), (52, 1, 36, 0, 0, 0, []), (53, 1, 3, 0, 0, 0, []), (54, 3, 30, 0, 9, 2, []), (57, 1, 2, 0, 2, 0, []), (58, 1, 3, 0, 0, 0, []), (59, 3, 30, 0, 9, 2, []), (62, 1, 2, 0, 2, 0, []), (63, 1, 0, 1, 0, 0, []), (64, 1, 9, 0, 0, 0, []), (65, 1, 33, 0, 0, 0, []), (66, 1, 36, 0, 0, 0, []), (67, 1, 3, 0, 0, 0, []), (68, 3, 30, 0, 9, 3, []), (71, 1, 2, 0, 2, 0, []), (72, 1, 3, 0, 0, 0, []), (73, 3, 30, 0, 9, 3, []), (76, 1, 2, 0, 2, 0, []), (77, 1, 0, 1, 0, 0, []), (78, 1, 9, 0, 0, 0, []), (79, 1, 34, 0, 0, 0, []), (80, 1, 37, 0, 0, 0, []), (81, 3, 8, 1, 2, 0, []), (84, 3, 22, 0, 15, 0, []), (87, 1, 3, 0, 0, 0, []), (88, 1, 17, 0, 0, 0, []), (89, 3, 30, 0, 9, 4, []), (92, 1, 0, 1, 0, 0, []), (93, 1, 9, 0, 0, 1, []), (94, 3, 31, 0, 9, 4, []), (97, 1, 72, 0, 0, 0, [])]
/-- CodeExchange$Shifts.copyFrom(LCodeExchange$Shifts;)V -/
def tk_94 : mK := [(0, 1, 3, 0, 0, 0, []), (1, 1, 0, 0, 0, 0, []), (2, 3, 31, 0, 9, 4, []), (5, 1, 0, 0, 0, 0, []), (6, 1, 5, 0, 2, 0, []), (7, 1, 2, 0, 2, 0, []), (8, 1, 3, 0, 1, 0, []), (9, 3, 30, 0, 9, 4, []), (12, 3, 21, 0, 49, 3, []), (15, 1, 3, 0, 0, 0, []), (16, 1, 3, 0, 1, 0, []), (17, 3, 30, 0, 9, 0, []), (20, 1, 2, 0, 2, 0, []), (21, 1, 33, 0, 0, 0, []), (22, 1, 3, 0, 1, 0, []), (23, 3, 30, 0, 9, 1, []), (26, 1, 2, 0, 2, 0, []), (27, 1, 33, 0, 0, 0, []), (28, 1, 3, 0, 1, 0, []), (29, 3, 30, 0, 9, 2, []), (32, 1, 2, 0, 2, 0, []), (33, 1, 33, 0, 0, 0, []), (34, 1, 3, 0, 1, 0, []), (35, 3, 30, 0, 9, 3, []), (38, 1, 2, 0, 2, 0, []), (39, 1, 34, 0, 0, 0, []), (40, 3, 50, 0, 92, 4, [9, 0, 0]), (43, 3, 8, 1, 2, 0, []), (46, 3, 22, 0, 7, 0, []), (49, 1, 72, 0, 0, 0, [])]
/-- CodeExchange$Shifts.reachedStates()I -/
def tk_95 : mK := [(0, 1, 0, 1, 0, 0, []), (1, 1, 5, 0, 1, 0, []), (2, 1, 0, 1, 0, 0, []), (3, 1, 5, 0, 2, 0, []), (4, 1, 2, 0, 2, 0, []), (5, 1, 0, 4, 0, 0, []), (6, 3, 21, 0, 65, 3, []), (9, 1, 0, 0, 0, 0, []), (10, 1, 5, 0, 3, 0, []), (11, 1, 2, 0, 3, 0, []), (12, 1, 3, 0, 0, 0, []), (13, 3, 30, 0, 9, 4, []), (16, 3, 21, 0, 59, 3, []), (19, 1, 3, 0, 0, 0, []), (20, 3, 30, 0, 9, 3, []), (23, 1, 2, 0, 3, 0, []), (24, 1, 34, 0, 0, 0, []), (25, 3, 20, 0, 53, 0, []), (28, 1, 2, 0, 1, 0, []), (29, 1, 3, 0, 0, 0, []), (30, 3, 30, 0, 9, 0, []), (33, 1, 2, 0, 3, 0, []), (34, 1, 33, 0, 0, 0, []), (35, 1, 9, 0, 0, 7, []), (36, 1, 0, 1, 0, 0, []), (37, 1, 9, 0, 0, 3, []), (38, 1, 0, 1, 0, 0, []), (39, 3, 21, 0, 53, 1, []), (42, 1, 2, 0, 1, 0, []), (43, 1, 0, 1, 0, 0, []), (44, 1, 3, 0, 0, 0, []), (45, 3, 30, 0, 9, 2, []), (48, 1, 2, 0, 3, 0, []), (49, 1, 33, 0, 0, 0, []), (50, 1, 9, 0, 0, 6, []), (51, 1, 9, 0, 0, 4, []), (52, 1, 5, 0, 1, 0, []), (53, 3, 8, 1, 3, 0, []), (56, 3, 22, 0, 11, 0, []), (59, 3, 8, 1, 2, 0, []), (62, 3, 22, 0, 4, 0, []), (65, 1, 2, 0, 1, 0, []), (66, 1, 70, 0, 0, 0, [])]
/-- CodeExchange$Shifts.homingStates()I -/
def tk_96 : mK := [(0, 1, 0, 1, 0, 0, []), (1, 1, 5, 0, 1, 0, []), (2, 1, 0, 1, 0, 0, []), (3, 1, 5, 0, 2, 0, []), (4, 1, 2, 0, 2, 0, []), (5, 1, 0, 4, 0, 0, []), (6, 3, 21, 0, 65, 3, []), (9, 1, 0, 0, 0, 0, []), (10, 1, 5, 0, 3, 0, []), (11, 1, 2, 0, 3, 0, []), (12, 1, 3, 0, 0, 0, []), (13, 3, 30, 0, 9, 4, []), (16, 3, 21, 0, 59, 3, []), (19, 1, 3, 0, 0, 0, []), (20, 3, 30, 0, 9, 3, []), (23, 1, 2, 0, 3, 0, []), (24, 1, 34, 0, 0, 0, []), (25, 3, 20, 0, 53, 0, []), (28, 1, 2, 0, 1, 0, []), (29, 1, 3, 0, 0, 0, []), (30, 3, 30, 0, 9, 2, []), (33, 1, 2, 0, 3, 0, []), (34, 1, 33, 0, 0, 0, []), (35, 1, 9, 0, 0, 7, []), (36, 1, 0, 1, 0, 0, []), (37, 1, 9, 0, 0, 3, []), (38, 1, 0, 1, 0, 0, []), (39, 3, 21, 0, 53, 1, []), (42, 1, 2, 0, 1, 0, []), (43, 1, 0, 1, 0, 0, []), (44, 1, 3, 0, 0, 0, []), (45, 3, 30, 0, 9, 0, []), (48, 1, 2, 0, 3, 0, []), (49, 1, 33, 0, 0, 0, []), (50, 1, 9, 0, 0, 6, []), (51, 1, 9, 0, 0, 4, []), (52, 1, 5, 0, 1, 0, []), (53, 3, 8, 1, 3, 0, []), (56, 3, 22, 0, 11, 0, []), (59, 3, 8, 1, 2, 0, []), (62, 3, 22, 0, 4, 0, []), (65, 1, 2, 0, 1, 0, []), (66, 1, 70, 0, 0, 0, [])]
/-- CodeExchange$Shifts.singleGoals(I)I -/
def tk_97 : mK := [(0, 1, 0, 0, 0, 0, []), (1, 1, 5, 0, 2, 0, []), (2, 1, 0, 0, 0, 0, []), (3, 1, 5, 0, 3, 0, []), (4, 1, 2, 0, 3, 0, []), (5, 1, 3, 0, 0, 0, []), (6, 3, 30, 0, 9, 4, []), (9, 3, 21, 0, 52, 3, []), (12, 1, 3, 0, 0, 0, []), (13, 3, 30, 0, 9, 3, []), (16, 1, 2, 0, 3, 0, []), (17, 1, 34, 0, 0, 0, []), (18, 3, 20, 0, 46, 1, []), (21, 1, 2, 0, 1, 0, []), (22, 1, 3, 0, 0, 0, []), (23, 3, 30, 0, 9, 0, []), (26, 1, 2, 0, 3, 0, []), (27, 1, 33, 0, 0, 0, []), (28, 1, 9, 0, 0, 7, []), (29, 1, 0, 1, 0, 0, []), (30, 1, 9, 0, 0, 3, []), (31, 1, 0, 1, 0, 0, []), (32, 3, 21, 0, 46, 1, []), (35, 1, 2, 0, 2, 0, []), (36, 1, 0, 1, 0, 0, []), (37, 1, 3, 0, 0, 0, []), (38, 3, 30, 0, 9, 2, []), (41, 1, 2, 0, 3, 0, []), (42, 1, 33, 0, 0, 0, []), (43, 1, 9, 0, 0, 6, []), (44, 1, 9, 0, 0, 4, []), (45, 1, 5, 0, 2, 0, []), (46, 3, 8, 1, 3, 0, []), (49, 3, 22, 0, 4, 0, []), (52, 1, 2, 0, 2, 0, []), (53, 1, 70, 0, 0, 0, [])]
/-- CodeExchange$Shifts.writeTo(LCodeExchange$Row;)V -/
def tk_98 : mK := [(0, 1, 3, 0, 1, 0, []), (1, 1, 3, 0, 0, 0, []), (2, 3, 30, 0, 9, 4, []), (5, 3, 50, 0, 72, 1, [7, 0, 0]), (8, 1, 18, 0, 0, 0, []), (9, 1, 0, 0, 0, 0, []), (10, 1, 5, 0, 2, 0, []), (11, 1, 2, 0, 2, 0, []), (12, 1, 3, 0, 0, 0, []), (13, 3, 30, 0, 9, 4, []), (16, 3, 21, 0, 77, 3, []), (19, 1, 3, 0, 1, 0, []), (20, 1, 3, 0, 0, 0, []), (21, 3, 30, 0, 9, 0, []), (24, 1, 2, 0, 2, 0, []), (25, 1, 33, 0, 0, 0, []), (26, 3, 50, 0, 72, 1, [7, 0, 0]), (29, 1, 18, 0, 0, 0, []), (30, 1, 3, 0, 1, 0, []), (31, 1, 3, 0, 0, 0, []), (32, 3, 30, 0, 9, 1, []), (35, 1, 2, 0, 2, 0, []), (36, 1, 33, 0, 0, 0, []), (37, 3, 50, 0, 72, 1, [7, 0, 0]), (40, 1, 18, 0, 0, 0, []), (41, 1, 3, 0, 1, 0, []), (42, 1, 3, 0, 0, 0, []), (43, 3, 30, 0, 9, 2, []), (46, 1, 2, 0, 2, 0, []), (47, 1, 33, 0, 0, 0, []), (48, 3, 50, 0, 72, 1, [7, 0, 0]), (51, 1, 18, 0, 0, 0, []), (52, 1, 3, 0, 1, 0, []), (53, 1, 3, 0, 0, 0, []), (54, 3, 30, 0, 9, 3, []), (57, 1, 2, 0, 2, 0, []), (58, 1, 34, 0, 0, 0, []), (59, 3, 20, 0, 66, 0, []), (62, 1, 0, 1, 0, 0, []), (63, 3, 22, 0, 67, 0, []), (66, 1, 0, 0, 0, 0, []), (67, 3, 50, 0, 72, 1, [7, 0, 0]), (70, 1, 18, 0, 0, 0, []), (71, 3, 8, 1, 2, 0, []), (74, 3, 22, 0, 11, 0, []), (77, 1, 72, 0, 0, 0, [])]
/-- CodeExchange$Shifts.readFrom(LCodeExchange$Row;II)I -/
def tk_99 : mK := [(0, 1, 3, 0, 0, 0, []), (1, 1, 0, 0, 0, 0, []), (2, 3, 31, 0, 9, 4, []), (5, 1, 2, 0, 2, 0, []), (6, 1, 2, 0, 3, 0, []), (7, 3, 21, 0, 21, 3, []), (10, 1, 3, 0, 1, 0, []), (11, 3, 30, 0, 7, 0, []), (14, 1, 2, 0, 2, 0, []), (15, 1, 33, 0, 0, 0, []), (16, 2, 0, 10, 0, 0, []), (18, 3, 21, 0, 23, 5, []), (21, 1, 0, (-1), 0, 0, []), (22, 1, 70, 0, 0, 0, []), (23, 1, 3, 0, 1, 0, []), (24, 3, 30, 0, 7, 0, []), (27, 1, 2, 0, 2, 0, []), (28, 1, 33, 0, 0, 0, []), (29, 2, 5, 0, 4, 0, []), (31, 1, 2, 0, 2, 0, []), (32, 1, 0, 1, 0, 0, []), (33, 1, 9, 0, 0, 0, []), (34, 2, 5, 0, 5, 0, []), (36, 2, 2, 0, 5, 0, []), (38, 1, 0, 4, 0, 0, []), (39, 2, 2, 0, 4, 0, []), (41, 1, 9, 0, 0, 2, []), (42, 1, 9, 0, 0, 0, []), (43, 1, 2, 0, 3, 0, []), (44, 3, 21, 0, 49, 5, []), (47, 1, 0, (-1), 0, 0, []), (48, 1, 70, 0, 0, 0, []), (49, 1, 0, 0, 0, 0, []), (50, 2, 5, 0, 6, 0, []), (52, 2, 2, 0, 6, 0, []), (54, 2, 2, 0, 4, 0, []), (56, 3, 21, 0, 173, 3, []), (59, 1, 3, 0, 1, 0, []), (60, 3, 30, 0, 7, 0, []), (63, 2, 2, 0, 5, 0, []), (65, 1, 33, 0, 0, 0, []), (66, 2, 5, 0, 7, 0, []), (68, 1, 3, 0, 1, 0, []), (69, 3, 30, 0, 7, 0, []), (72, 2, 2, 0, 5, 0, []), (74, 1, 0, 1, 0, 0, []), (75, 1, 9, 0, 0, 0, []), (76, 1, 33, 0, 0, 0, []), (77, 2, 5, 0, 8, 0, []), (79, 1, 3, 0, 1, 0, []), (80, 3, 30, 0, 7, 0, []), (83, 2, 2, 0, 5, 0, []), (85, 1, 0, 2, 0, 0, []), (86, 1, 9, 0, 0, 0, []), (87, 1, 33, 0, 0, 0, []), (88, 2, 5, 0, 9, 0, []), (90, 1, 3, 0, 1, 0, []), (91, 3, 30, 0, 7, 0, []), (94, 2, 2, 0, 5, 0, []), (96, 1, 0, 3, 0, 0, []), (97, 1, 9, 0, 0, 0, []), (98, 1, 33, 0, 0, 0, []), (99, 2, 5, 0, 10, 0, []), (101, 2, 2, 0, 7, 0, []), (103, 3, 51, 0, 147, 1, [11, 0, 0]), (106, 3, 20, 0, 141, 0, []), (109, 2, 2, 0, 9, 0, []), (111, 3, 51, 0, 147, 1, [11, 0, 0]), (114, 3, 20, 0, 141, 0, []), (117, 2, 2, 0, 7, 0, []), (119, 2, 2, 0, 9, 0, []), (121, 3, 21, 0, 141, 0, []), (124, 2, 2, 0, 10, 0, []), (126, 1, 0, 1, 0, 0, []), (127, 3, 21, 0, 141, 4, []), (130, 1, 3, 0, 0, 0, []), (131, 2, 2, 0, 7, 0, []), (133, 2, 2, 0, 8, 0, []), (135, 3, 50, 0, 91, 2, [9, 0, 0]), (138, 3, 20, 0, 143, 2, []), (141, 1, 0, (-1), 0, 0, []), (142, 1, 70, 0, 0, 0, []), (143, 1, 3, 0, 0, 0, []), (144, 2, 2, 0, 7, 0, []), (146, 2, 2, 0, 8, 0, []), (148, 2, 2, 0, 9, 0, []), (150, 2, 2, 0, 10, 0, []), (152, 1, 0, 1, 0, 0, []), (153, 3, 21, 0, 160, 1, []), (156, 1, 0, 1, 0, 0, []), (157, 3, 22, 0, 161, 0, []), (160, 1, 0, 0, 0, 0, []), (161, 3, 50, 0, 92, 4, [9, 0, 0]), (164, 3, 8, 4, 5, 0, []), (167, 3, 8, 1, 6, 0, []), (170, 3, 22, 0, 52, 0, []), (173, 2, 2, 0, 5, 0, []), (175, 1, 70, 0, 0, 0, [])]
/-- CodeExchange$Writer.<init>(LCodeExchange$Rules;LCodeExchange$Page;)V -/
def tk_100 : mK := [(0, 1, 3, 0, 0, 0, []), (1, 3, 53, 0, 0, 0, []), (4, 1, 3, 0, 0, 0, []), (5, 3, 42, 0, 7, 2, []), (8, 1, 17, 0, 0, 0, []), (9, 3, 0, 128, 0, 0, []), (12, 3, 52, 0, 70, 1, [7, 1, 6000]), (15, 3, 31, 0, 10, 1, []), (18, 1, 3, 0, 0, 0, []), (19, 3, 42, 0, 7, 2, []), (22, 1, 17, 0, 0, 0, []), (23, 2, 0, 20, 0, 0, []), (25, 3, 52, 0, 70, 1, [7, 1, 6000]), (28, 3, 31, 0, 10, 2, []), (31, 1, 3, 0, 0, 0, []), (32, 1, 3, 0, 1, 0, []), (33, 3, 31, 0, 10, 0, []), (36, 1, 3, 0, 0, 0, []), (37, 1, 3, 0, 2, 0, []), (38, 3, 31, 0, 10, 3, []), (41, 1, 72, 0, 0, 0, [])]
/-- CodeExchange$Writer.open(LCodeExchange$Page;II)V -/
def tk_101 : mK := [(0, 1, 3, 0, 0, 0, []), (1, 1, 3, 0, 1, 0, []), (2, 3, 31, 0, 10, 3, []), (5, 1, 3, 0, 0, 0, []), (6, 1, 2, 0, 2, 0, []), (7, 3, 31, 0, 10, 4, []), (10, 1, 3, 0, 0, 0, []), (11, 1, 2, 0, 3, 0, []), (12, 3, 31, 0, 10, 5, []), (15, 1, 3, 0, 0, 0, []), (16, 3, 30, 0, 10, 1, []), (19, 3, 50, 0, 71, 0, [7, 0, 0]), (22, 1, 72, 0, 0, 0, [])]
/-- CodeExchange$Writer.write(II)Z -/
def tk_102 : mK := [(0, 1, 3, 0, 0, 0, []), (1, 3, 30, 0, 10, 1, []), (4, 3, 50, 0, 71, 0, [7, 0, 0]), (7, 1, 2, 0, 1, 0, []), (8, 1, 0, (-1), 0, 0, []), (9, 3, 21, 0, 22, 0, []), (12, 1, 3, 0, 0, 0, []), (13, 1, 2, 0, 1, 0, []), (14, 3, 50, 0, 104, 1, [10, 0, 0]), (17, 3, 20, 0, 22, 0, []), (20, 1, 0, 1, 0, 0, []), (21, 1, 70, 0, 1, 0, []), (22, 1, 3, 0, 0, 0, []), (23, 3, 30, 0, 10, 4, []), (26, 30, 26, 1, 128, 0, [56, 70, 72, 109]), (56, 1, 3, 0, 0, 0, []), (57, 1, 3, 0, 0, 0, []), (58, 3, 30, 0, 10, 0, []), (61, 3, 30, 0, 8, 1, []), (64, 3, 50, 0, 104, 1, [10, 0, 0]), (67, 1, 18, 0, 0, 0, []), (68, 1, 0, 1, 0, 0, []), (69, 1, 70, 0, 1, 0, []), (70, 1, 0, 1, 0, 0, []), (71, 1, 70, 0, 1, 0, []), (72, 1, 2, 0, 1, 0, []), (73, 1, 0, (-1), 0, 0, []), (74, 3, 21, 0, 107, 1, []), (77, 1, 2, 0, 2, 0, []), (78, 2, 0, 56320, 0, 0, []), (80, 3, 21, 0, 107, 2, []), (83, 1, 2, 0, 2, 0, []), (84, 2, 0, 56575, 0, 0, []), (86, 3, 21, 0, 107, 4, []), (89, 1, 3, 0, 0, 0, []), (90, 3, 30, 0, 10, 1, []), (93, 1, 2, 0, 2, 0, []), (94, 2, 0, 56320, 0, 0, []), (96, 1, 9, 0, 0, 1, []), (97, 3, 50, 0, 72, 1, [7, 0, 0]), (100, 3, 20, 0, 107, 0, []), (103, 1, 0, 1, 0, 0, []), (104, 3, 22, 0, 108, 0, []), (107, 1, 0, 0, 0, 0, []), (108, 1, 70, 0, 1, 0, []), (109, 1, 2, 0, 1, 0, []), (110, 1, 0, (-1), 0, 0, []), (111, 3, 21, 0, 126, 0, []), (114, 1, 3, 0, 0, 0, []), (115, 1, 2, 0, 1, 0, []), (116, 3, 50, 0, 106, 1, [10, 0, 0]), (119, 3, 20, 0, 126, 0, []), (122, 1, 0, 1, 0, 0, []), (123, 3, 22, 0, 127, 0, []), (126, 1, 0, 0, 0, 0, []), (127, 1, 70, 0, 1, 0, []), (128, 1, 0, 0, 0, 0, []), (129, 1, 70, 0, 1, 0, [])]
/-- CodeExchange$Writer.finish()V -/
def tk_103 : mK := [(0, 1, 3, 0, 0, 0, []), (1, 3, 30, 0, 10, 1, []), (4, 3, 50, 0, 71, 0, [7, 0, 0]), (7, 1, 3, 0, 0, 0, []), (8, 1, 0, 4, 0, 0, []), (9, 3, 50, 0, 105, 1, [10, 0, 0]), (12, 1, 72, 0, 0, 0, [])]
/-- CodeExchange$Writer.put(I)Z -/
def tk_104 : mK := [(0, 1, 3, 0, 0, 0, []), (1, 3, 30, 0, 10, 3, []), (4, 1, 2, 0, 1, 0, []), (5, 3, 50, 0, 50, 1, [4, 0, 0]), (8, 1, 5, 0, 2, 0, []), (9, 1, 2, 0, 2, 0, []), (10, 3, 20, 0, 15, 3, []), (13, 1, 0, 0, 0, 0, []), (14, 1, 70, 0, 1, 0, []), (15, 1, 3, 0, 0, 0, []), (16, 1, 3, 0, 0, 0, []), (17, 3, 30, 0, 10, 3, []), (20, 1, 2, 0, 2, 0, []), (21, 3, 50, 0, 52, 1, [4, 0, 0]), (24, 3, 50, 0, 105, 1, [10, 0, 0]), (27, 1, 3, 0, 0, 0, []), (28, 3, 30, 0, 10, 3, []), (31, 3, 30, 0, 4, 0, []), (34, 3, 20, 0, 48, 1, []), (37, 1, 3, 0, 0, 0, []), (38, 3, 30, 0, 10, 3, []), (41, 1, 2, 0, 2, 0, []), (42, 3, 50, 0, 51, 1, [4, 0, 0]), (45, 3, 22, 0, 59, 0, []), (48, 1, 3, 0, 0, 0, []), (49, 3, 30, 0, 10, 3, []), (52, 3, 30, 0, 4, 0, []), (55, 1, 2, 0, 1, 0, []), (56, 3, 51, 0, 8, 2, [1, 0, 0]), (59, 1, 7, 0, 3, 0, []), (60, 1, 3, 0, 0, 0, []), (61, 3, 30, 0, 10, 1, []), (64, 1, 4, 0, 3, 0, []), (65, 1, 16, 0, 0, 0, []), (66, 1, 4, 0, 3, 0, []), (67, 2, 0, 32, 0, 0, []), (69, 1, 14, 0, 0, 1, []), (70, 1, 16, 0, 0, 0, []), (71, 3, 50, 0, 74, 2, [7, 0, 0]), (74, 1, 0, 1, 0, 0, []), (75, 1, 70, 0, 1, 0, [])]
/-- CodeExchange$Writer.shiftTo(I)V -/
def tk_105 : mK := [(0, 1, 2, 0, 1, 0, []), (1, 1, 3, 0, 0, 0, []), (2, 3, 30, 0, 10, 5, []), (5, 3, 51, 0, 63, 2, [6, 0, 0]), (8, 1, 5, 0, 2, 0, []), (9, 1, 3, 0, 0, 0, []), (10, 3, 30, 0, 10, 1, []), (13, 1, 3, 0, 0, 0, []), (14, 3, 30, 0, 10, 3, []), (17, 3, 30, 0, 4, 4, []), (20, 3, 30, 0, 6, 0, []), (23, 1, 2, 0, 2, 0, []), (24, 1, 33, 0, 0, 0, []), (25, 1, 3, 0, 0, 0, []), (26, 3, 30, 0, 10, 3, []), (29, 3, 30, 0, 4, 4, []), (32, 3, 30, 0, 6, 1, []), (35, 1, 2, 0, 2, 0, []), (36, 1, 33, 0, 0, 0, []), (37, 3, 50, 0, 74, 2, [7, 0, 0]), (40, 1, 3, 0, 0, 0, []), (41, 1, 3, 0, 0, 0, []), (42, 3, 30, 0, 10, 3, []), (45, 3, 30, 0, 4, 4, []), (48, 3, 30, 0, 6, 2, []), (51, 1, 2, 0, 2, 0, []), (52, 1, 33, 0, 0, 0, []), (53, 3, 31, 0, 10, 5, []), (56, 1, 72, 0, 0, 0, [])]
/-- CodeExchange$Writer.spell(I)Z -/
def tk_106 : mK := [(0, 1, 3, 0, 0, 0, []), (1, 3, 30, 0, 10, 5, []), (4, 1, 5, 0, 2, 0, []), (5, 1, 3, 0, 0, 0, []), (6, 3, 30, 0, 10, 2, []), (9, 3, 50, 0, 71, 0, [7, 0, 0]), (12, 1, 3, 0, 0, 0, []), (13, 3, 30, 0, 10, 0, []), (16, 1, 2, 0, 1, 0, []), (17, 1, 3, 0, 0, 0, []), (18, 3, 30, 0, 10, 2, []), (21, 3, 50, 0, 89, 2, [8, 0, 0]), (24, 1, 5, 0, 3, 0, []), (25, 1, 0, 0, 0, 0, []), (26, 2, 5, 0, 4, 0, []), (28, 1, 2, 0, 3, 0, []), (29, 3, 20, 0, 117, 0, []), (32, 1, 3, 0, 0, 0, []), (33, 3, 30, 0, 10, 2, []), (36, 3, 30, 0, 7, 1, []), (39, 3, 20, 0, 117, 5, []), (42, 2, 2, 0, 4, 0, []), (44, 3, 0, 1000, 0, 0, []), (47, 3, 21, 0, 117, 3, []), (50, 1, 3, 0, 0, 0, []), (51, 3, 30, 0, 10, 2, []), (54, 1, 17, 0, 0, 0, []), (55, 3, 30, 0, 7, 1, []), (58, 1, 0, 1, 0, 0, []), (59, 1, 9, 0, 0, 1, []), (60, 3, 31, 0, 7, 1, []), (63, 1, 3, 0, 0, 0, []), (64, 3, 30, 0, 10, 2, []), (67, 3, 30, 0, 7, 0, []), (70, 1, 3, 0, 0, 0, []), (71, 3, 30, 0, 10, 2, []), (74, 3, 30, 0, 7, 1, []), (77, 1, 33, 0, 0, 0, []), (78, 2, 5, 0, 5, 0, []), (80, 1, 3, 0, 0, 0, []), (81, 2, 2, 0, 5, 0, []), (83, 3, 50, 0, 104, 1, [10, 0, 0]), (86, 3, 20, 0, 105, 1, []), (89, 1, 3, 0, 0, 0, []), (90, 3, 30, 0, 10, 0, []), (93, 2, 2, 0, 5, 0, []), (95, 1, 3, 0, 0, 0, []), (96, 3, 30, 0, 10, 2, []), (99, 3, 50, 0, 89, 2, [8, 0, 0]), (102, 3, 20, 0, 109, 0, []), (105, 1, 0, 1, 0, 0, []), (106, 3, 22, 0, 110, 0, []), (109, 1, 0, 0, 0, 0, []), (110, 1, 5, 0, 3, 0, []), (111, 3, 8, 1, 4, 0, []), (114, 3, 22, 0, 28, 0, []), (117, 1, 2, 0, 3, 0, []), (118, 3, 20, 0, 133, 0, []), (121, 1, 3, 0, 0, 0, []), (122, 3, 30, 0, 10, 2, []), (125, 3, 30, 0, 7, 1, []), (128, 3, 20, 0, 133, 1, []), (131, 1, 0, 1, 0, 0, []), (132, 1, 70, 0, 1, 0, []), (133, 1, 3, 0, 0, 0, []), (134, 3, 30, 0, 10, 1, []), (137, 3, 50, 0, 71, 0, [7, 0, 0]), (140, 1, 3, 0, 0, 0, []), (141, 1, 2, 0, 2, 0, []), (142, 3, 31, 0, 10, 5, []), (145, 1, 0, 0, 0, 0, []), (146, 1, 70, 0, 1, 0, [])]
/-- CodeExchange.<init>()V -/
def tk_107 : mK := [(0, 1, 3, 0, 0, 0, []), (1, 3, 53, 0, 0, 0, []), (4, 1, 3, 0, 0, 0, []), (5, 2, 0, 10, 0, 0, []), (7, 3, 41, 0, 0, 2, []), (10, 3, 31, 0, 11, 0, []), (13, 1, 3, 0, 0, 0, []), (14, 3, 42, 0, 7, 2, []), (17, 1, 17, 0, 0, 0, []), (18, 3, 0, 1000, 0, 0, []), (21, 3, 52, 0, 70, 1, [7, 1, 6000]), (24, 3, 31, 0, 11, 3, []), (27, 1, 3, 0, 0, 0, []), (28, 3, 42, 0, 7, 2, []), (31, 1, 17, 0, 0, 0, []), (32, 3, 0, 1000, 0, 0, []), (35, 3, 52, 0, 70, 1, [7, 1, 6000]), (38, 3, 31, 0, 11, 4, []), (41, 1, 3, 0, 0, 0, []), (42, 3, 42, 0, 7, 2, []), (45, 1, 17, 0, 0, 0, []), (46, 3, 0, 6000, 0, 0, []), (49, 3, 52, 0, 70, 1, [7, 1, 6000]), (52, 3, 31, 0, 11, 5, []), (55, 1, 3, 0, 0, 0, []), (56, 1, 0, 0, 0, 0, []), (57, 3, 31, 0, 11, 6, []), (60, 1, 3, 0, 0, 0, []), (61, 3, 42, 0, 7, 2, []), (64, 1, 17, 0, 0, 0, []), (65, 3, 0, 6000, 0, 0, []), (68, 3, 52, 0, 70, 1, [7, 1, 6000]), (71, 3, 31, 0, 11, 7, []), (74, 1, 3, 0, 0, 0, []), (75, 3, 42, 0, 7, 2, []), (78, 1, 17, 0, 0, 0, []), (79, 3, 0, 2000, 0, 0, []), (82, 3, 52, 0, 70, 1, [7, 1, 6000]), (85, 3, 31, 0, 11, 8, []), (88, 1, 3, 0, 0, 0, []), (89, 1, 0, 4, 0, 0, []), (90, 3, 41, 0, 0, 3, []), (93, 3, 31, 0, 11, 12, []), (96, 1, 3, 0, 0, 0, []), (97, 1, 0, 3, 0, 0, []), (98, 2, 40, 0, 0, 0, []), (100, 3, 31, 0, 11, 14, []), (103, 1, 3, 0, 0, 0, []), (104, 1, 0, 3, 0, 0, []), (105, 2, 40, 0, 0, 0, []), (107, 3, 31, 0, 11, 15, []), (110, 3, 42, 0, 8, 7, []), (113, 1, 17, 0, 0, 0, []), (114, 3, 52, 0, 80, 0, [8, 4, 287]), (117, 1, 6, 0, 1, 0, []), (118, 3, 42, 0, 4, 10, []), (121, 1, 17, 0, 0, 0, []), (122, 1, 0, 3, 0, 0, []), (123, 3, 52, 0, 33, 1, [4, 19, 1853]), (126, 1, 6, 0, 2, 0, []), (127, 1, 3, 0, 0, 0, []), (128, 1, 3, 0, 1, 0, []), (129, 3, 31, 0, 11, 9, []), (132, 1, 3, 0, 0, 0, []), (133, 3, 42, 0, 5, 7, []), (136, 1, 17, 0, 0, 0, []), (137, 1, 3, 0, 1, 0, []), (138, 1, 3, 0, 2, 0, []), (139, 3, 52, 0, 58, 2, [5, 1, 5]), (142, 3, 31, 0, 11, 10, []), (145, 1, 3, 0, 0, 0, []), (146, 3, 42, 0, 10, 6, []), (149, 1, 17, 0, 0, 0, []), (150, 1, 3, 0, 1, 0, []), (151, 1, 3, 0, 2, 0, []), (152, 3, 52, 0, 100, 2, [10, 4, 12004]), (155, 3, 31, 0, 11, 11, []), (158, 1, 0, 0, 0, 0, []), (159, 1, 5, 0, 3, 0, []), (160, 1, 2, 0, 3, 0, []), (161, 1, 0, 4, 0, 0, []), (162, 3, 21, 0, 186, 3, []), (165, 1, 3, 0, 0, 0, []), (166, 3, 30, 0, 11, 12, []), (169, 1, 2, 0, 3, 0, []), (170, 3, 42, 0, 3, 12, []), (173, 1, 17, 0, 0, 0, []), (174, 1, 3, 0, 1, 0, []), (175, 1, 3, 0, 2, 0, []), (176, 3, 52, 0, 22, 2, [3, 11, 18457]), (179, 1, 38, 0, 0, 0, []), (180, 3, 8, 1, 3, 0, []), (183, 3, 22, 0, 160, 0, []), (186, 1, 72, 0, 0, 0, [])]
/-- CodeExchange.page(I)I -/
def tk_108 : mK := [(0, 1, 2, 0, 1, 0, []), (1, 3, 20, 0, 9, 2, []), (4, 1, 2, 0, 1, 0, []), (5, 1, 0, 3, 0, 0, []), (6, 3, 21, 0, 15, 5, []), (9, 1, 3, 0, 0, 0, []), (10, 1, 0, (-1), 0, 0, []), (11, 3, 50, 0, 139, 1, [11, 0, 0]), (14, 1, 70, 0, 0, 0, []), (15, 1, 3, 0, 0, 0, []), (16, 3, 30, 0, 11, 1, []), (19, 2, 0, 10, 0, 0, []), (21, 3, 21, 0, 31, 2, []), (24, 1, 3, 0, 0, 0, []), (25, 2, 0, (-6), 0, 0, []), (27, 3, 50, 0, 139, 1, [11, 0, 0]), (30, 1, 70, 0, 0, 0, []), (31, 1, 3, 0, 0, 0, []), (32, 3, 42, 0, 4, 10, []), (35, 1, 17, 0, 0, 0, []), (36, 1, 2, 0, 1, 0, []), (37, 3, 52, 0, 33, 1, [4, 19, 1853]), (40, 3, 50, 0, 153, 1, [11, 0, 0]), (43, 1, 70, 0, 0, 0, [])]
/-- CodeExchange.derive(I)I -/
def tk_109 : mK := [(0, 1, 3, 0, 0, 0, []), (1, 1, 2, 0, 1, 0, []), (2, 3, 50, 0, 154, 1, [11, 0, 0]), (5, 1, 5, 0, 2, 0, []), (6, 1, 2, 0, 2, 0, []), (7, 3, 20, 0, 25, 1, []), (10, 1, 3, 0, 0, 0, []), (11, 3, 30, 0, 11, 0, []), (14, 1, 2, 0, 1, 0, []), (15, 1, 35, 0, 0, 0, []), (16, 3, 30, 0, 4, 1, []), (19, 3, 20, 0, 25, 1, []), (22, 2, 0, (-5), 0, 0, []), (24, 1, 5, 0, 2, 0, []), (25, 1, 2, 0, 2, 0, []), (26, 3, 20, 0, 41, 1, []), (29, 1, 3, 0, 0, 0, []), (30, 3, 30, 0, 11, 1, []), (33, 2, 0, 10, 0, 0, []), (35, 3, 21, 0, 41, 2, []), (38, 2, 0, (-6), 0, 0, []), (40, 1, 5, 0, 2, 0, []), (41, 1, 2, 0, 2, 0, []), (42, 3, 20, 0, 51, 0, []), (45, 1, 3, 0, 0, 0, []), (46, 1, 2, 0, 2, 0, []), (47, 3, 50, 0, 139, 1, [11, 0, 0]), (50, 1, 70, 0, 0, 0, []), (51, 3, 42, 0, 4, 10, []), (54, 1, 17, 0, 0, 0, []), (55, 1, 0, 0, 0, 0, []), (56, 3, 52, 0, 33, 1, [4, 19, 1853]), (59, 1, 6, 0, 3, 0, []), (60, 1, 3, 0, 3, 0, []), (61, 3, 30, 0, 4, 2, []), (64, 1, 3, 0, 0, 0, []), (65, 3, 30, 0, 11, 0, []), (68, 1, 2, 0, 1, 0, []), (69, 1, 35, 0, 0, 0, []), (70, 3, 30, 0, 4, 2, []), (73, 3, 50, 0, 4, 1, [0, 0, 0]), (76, 1, 3, 0, 3, 0, []), (77, 3, 30, 0, 4, 3, []), (80, 1, 3, 0, 0, 0, []), (81, 3, 30, 0, 11, 0, []), (84, 1, 2, 0, 1, 0, []), (85, 1, 35, 0, 0, 0, []), (86, 3, 30, 0, 4, 3, []), (89, 3, 50, 0, 94, 1, [9, 0, 0]), (92, 1, 3, 0, 0, 0, []), (93, 1, 3, 0, 3, 0, []), (94, 3, 50, 0, 153, 1, [11, 0, 0]), (97, 1, 70, 0, 0, 0, [])]
/-- CodeExchange.entry(IIIII)I -/
def tk_110 : mK := [(0, 1, 3, 0, 0, 0, []), (1, 1, 2, 0, 1, 0, []), (2, 3, 50, 0, 155, 1, [11, 0, 0]), (5, 2, 5, 0, 6, 0, []), (7, 2, 2, 0, 6, 0, []), (9, 3, 20, 0, 19, 0, []), (12, 1, 3, 0, 0, 0, []), (13, 2, 2, 0, 6, 0, []), (15, 3, 50, 0, 139, 1, [11, 0, 0]), (18, 1, 70, 0, 0, 0, []), (19, 2, 2, 0, 5, 0, []), (21, 3, 20, 0, 28, 2, []), (24, 1, 0, 1, 0, 0, []), (25, 3, 22, 0, 29, 0, []), (28, 1, 0, 0, 0, 0, []), (29, 2, 5, 0, 7, 0, []), (31, 2, 2, 0, 7, 0, []), (33, 3, 20, 0, 41, 0, []), (36, 2, 2, 0, 5, 0, []), (38, 3, 22, 0, 45, 0, []), (41, 1, 0, (-1), 0, 0, []), (42, 2, 2, 0, 5, 0, []), (44, 1, 9, 0, 0, 1, []), (45, 2, 5, 0, 8, 0, []), (47, 1, 2, 0, 2, 0, []), (48, 1, 2, 0, 3, 0, []), (49, 2, 2, 0, 4, 0, []), (51, 3, 51, 0, 148, 3, [11, 0, 0]), (54, 3, 20, 0, 65, 0, []), (57, 2, 2, 0, 8, 0, []), (59, 3, 51, 0, 145, 1, [11, 0, 0]), (62, 3, 20, 0, 71, 1, []), (65, 1, 3, 0, 0, 0, []), (66, 1, 0, (-1), 0, 0, []), (67, 3, 50, 0, 139, 1, [11, 0, 0]), (70, 1, 70, 0, 0, 0, []), (71, 1, 3, 0, 0, 0, []), (72, 3, 30, 0, 11, 0, []), (75, 1, 2, 0, 1, 0, []), (76, 1, 35, 0, 0, 0, []), (77, 3, 30, 0, 4, 2, []), (80, 2, 6, 0, 9, 0, []), (82, 2, 3, 0, 9, 0, []), (84, 1, 2, 0, 2, 0, []), (85, 1, 2, 0, 3, 0, []), (86, 2, 2, 0, 4, 0, []), (88, 3, 50, 0, 1, 3, [0, 0, 0]), (91, 2, 5, 0, 10, 0, []), (93, 2, 2, 0, 10, 0, []), (95, 3, 20, 0, 115, 2, []), (98, 2, 3, 0, 9, 0, []), (100, 2, 2, 0, 10, 0, []), (102, 1, 2, 0, 2, 0, []), (103, 1, 2, 0, 3, 0, []), (104, 2, 2, 0, 4, 0, []), (106, 2, 2, 0, 8, 0, []), (108, 2, 2, 0, 7, 0, []), (110, 3, 50, 0, 2, 6, [0, 0, 0]), (113, 1, 0, 1, 0, 0, []), (114, 1, 70, 0, 0, 0, []), (115, 2, 3, 0, 9, 0, []), (117, 3, 30, 0, 0, 5, []), (120, 2, 0, 100, 0, 0, []), (122, 3, 21, 0, 132, 2, []), (125, 1, 3, 0, 0, 0, []), (126, 2, 0, (-6), 0, 0, []), (128, 3, 50, 0, 139, 1, [11, 0, 0]), (131, 1, 70, 0, 0, 0, []), (132, 2, 3, 0, 9, 0, []), (134, 2, 3, 0, 9, 0, []), (136, 3, 30, 0, 0, 5, []), (139, 1, 2, 0, 2, 0, []), (140, 1, 2, 0, 3, 0, []), (141, 2, 2, 0, 4, 0, []), (143, 2, 2, 0, 8, 0, []), (145, 2, 2, 0, 7, 0, []), (147, 3, 50, 0, 2, 6, [0, 0, 0]), (150, 1, 0, 0, 0, 0, []), (151, 1, 70, 0, 0, 0, [])]
/-- CodeExchange.shift(IIIIZ)I -/
def tk_111 : mK := [(0, 1, 3, 0, 0, 0, []), (1, 1, 2, 0, 1, 0, []), (2, 3, 50, 0, 155, 1, [11, 0, 0]), (5, 2, 5, 0, 6, 0, []), (7, 2, 2, 0, 6, 0, []), (9, 3, 20, 0, 19, 0, []), (12, 1, 3, 0, 0, 0, []), (13, 2, 2, 0, 6, 0, []), (15, 3, 50, 0, 139, 1, [11, 0, 0]), (18, 1, 70, 0, 0, 0, []), (19, 1, 2, 0, 2, 0, []), (20, 3, 51, 0, 147, 1, [11, 0, 0]), (23, 3, 20, 0, 47, 0, []), (26, 2, 2, 0, 4, 0, []), (28, 3, 51, 0, 147, 1, [11, 0, 0]), (31, 3, 20, 0, 47, 0, []), (34, 1, 2, 0, 2, 0, []), (35, 2, 2, 0, 4, 0, []), (37, 3, 21, 0, 47, 0, []), (40, 1, 2, 0, 3, 0, []), (41, 3, 51, 0, 146, 1, [11, 0, 0]), (44, 3, 20, 0, 53, 1, []), (47, 1, 3, 0, 0, 0, []), (48, 1, 0, (-1), 0, 0, []), (49, 3, 50, 0, 139, 1, [11, 0, 0]), (52, 1, 70, 0, 0, 0, []), (53, 1, 3, 0, 0, 0, []), (54, 3, 30, 0, 11, 0, []), (57, 1, 2, 0, 1, 0, []), (58, 1, 35, 0, 0, 0, []), (59, 3, 30, 0, 4, 3, []), (62, 2, 6, 0, 7, 0, []), (64, 2, 3, 0, 7, 0, []), (66, 1, 2, 0, 2, 0, []), (67, 1, 2, 0, 3, 0, []), (68, 3, 50, 0, 91, 2, [9, 0, 0]), (71, 3, 20, 0, 81, 2, []), (74, 1, 3, 0, 0, 0, []), (75, 2, 0, (-7), 0, 0, []), (77, 3, 50, 0, 139, 1, [11, 0, 0]), (80, 1, 70, 0, 0, 0, []), (81, 2, 3, 0, 7, 0, []), (83, 3, 30, 0, 9, 4, []), (86, 2, 0, 10, 0, 0, []), (88, 3, 21, 0, 98, 2, []), (91, 1, 3, 0, 0, 0, []), (92, 2, 0, (-6), 0, 0, []), (94, 3, 50, 0, 139, 1, [11, 0, 0]), (97, 1, 70, 0, 0, 0, []), (98, 2, 3, 0, 7, 0, []), (100, 1, 2, 0, 2, 0, []), (101, 1, 2, 0, 3, 0, []), (102, 2, 2, 0, 4, 0, []), (104, 2, 2, 0, 5, 0, []), (106, 3, 50, 0, 92, 4, [9, 0, 0]), (109, 1, 0, 0, 0, 0, []), (110, 1, 70, 0, 0, 0, [])]
/-- CodeExchange.drop(IIII)I -/
def tk_112 : mK := [(0, 1, 3, 0, 0, 0, []), (1, 1, 2, 0, 1, 0, []), (2, 3, 50, 0, 155, 1, [11, 0, 0]), (5, 2, 5, 0, 5, 0, []), (7, 2, 2, 0, 5, 0, []), (9, 3, 20, 0, 19, 0, []), (12, 1, 3, 0, 0, 0, []), (13, 2, 2, 0, 5, 0, []), (15, 3, 50, 0, 139, 1, [11, 0, 0]), (18, 1, 70, 0, 0, 0, []), (19, 1, 2, 0, 2, 0, []), (20, 1, 2, 0, 3, 0, []), (21, 2, 2, 0, 4, 0, []), (23, 3, 51, 0, 148, 3, [11, 0, 0]), (26, 3, 20, 0, 35, 1, []), (29, 1, 3, 0, 0, 0, []), (30, 1, 0, (-1), 0, 0, []), (31, 3, 50, 0, 139, 1, [11, 0, 0]), (34, 1, 70, 0, 0, 0, []), (35, 1, 3, 0, 0, 0, []), (36, 3, 30, 0, 11, 0, []), (39, 1, 2, 0, 1, 0, []), (40, 1, 35, 0, 0, 0, []), (41, 2, 6, 0, 6, 0, []), (43, 2, 3, 0, 6, 0, []), (45, 3, 30, 0, 4, 2, []), (48, 1, 2, 0, 2, 0, []), (49, 1, 2, 0, 3, 0, []), (50, 2, 2, 0, 4, 0, []), (52, 3, 50, 0, 1, 3, [0, 0, 0]), (55, 2, 5, 0, 7, 0, []), (57, 2, 2, 0, 7, 0, []), (59, 3, 20, 0, 74, 2, []), (62, 2, 3, 0, 6, 0, []), (64, 3, 30, 0, 4, 2, []), (67, 2, 2, 0, 7, 0, []), (69, 3, 50, 0, 3, 1, [0, 0, 0]), (72, 1, 0, 0, 0, 0, []), (73, 1, 70, 0, 0, 0, []), (74, 2, 2, 0, 4, 0, []), (76, 1, 0, 1, 0, 0, []), (77, 3, 21, 0, 93, 1, []), (80, 2, 3, 0, 6, 0, []), (82, 3, 30, 0, 4, 3, []), (85, 1, 2, 0, 2, 0, []), (86, 1, 2, 0, 3, 0, []), (87, 3, 50, 0, 91, 2, [9, 0, 0]), (90, 3, 22, 0, 94, 0, []), (93, 1, 0, (-1), 0, 0, []), (94, 2, 5, 0, 7, 0, []), (96, 2, 2, 0, 7, 0, []), (98, 3, 20, 0, 108, 3, []), (101, 1, 3, 0, 0, 0, []), (102, 2, 0, (-2), 0, 0, []), (104, 3, 50, 0, 139, 1, [11, 0, 0]), (107, 1, 70, 0, 0, 0, []), (108, 2, 3, 0, 6, 0, []), (110, 3, 30, 0, 4, 3, []), (113, 2, 2, 0, 7, 0, []), (115, 3, 50, 0, 93, 1, [9, 0, 0]), (118, 1, 0, 1, 0, 0, []), (119, 1, 70, 0, 0, 0, [])]
/-- CodeExchange.close(I)I -/
def tk_113 : mK := [(0, 1, 3, 0, 0, 0, []), (1, 1, 2, 0, 1, 0, []), (2, 3, 50, 0, 155, 1, [11, 0, 0]), (5, 1, 5, 0, 2, 0, []), (6, 1, 2, 0, 2, 0, []), (7, 3, 20, 0, 16, 0, []), (10, 1, 3, 0, 0, 0, []), (11, 1, 2, 0, 2, 0, []), (12, 3, 50, 0, 139, 1, [11, 0, 0]), (15, 1, 70, 0, 0, 0, []), (16, 1, 3, 0, 0, 0, []), (17, 3, 30, 0, 11, 0, []), (20, 1, 2, 0, 1, 0, []), (21, 1, 35, 0, 0, 0, []), (22, 1, 3, 0, 0, 0, []), (23, 3, 30, 0, 11, 14, []), (26, 3, 50, 0, 34, 1, [4, 0, 0]), (29, 3, 20, 0, 39, 1, []), (32, 1, 3, 0, 0, 0, []), (33, 2, 0, (-8), 0, 0, []), (35, 3, 50, 0, 139, 1, [11, 0, 0]), (38, 1, 70, 0, 0, 0, []), (39, 1, 3, 0, 0, 0, []), (40, 3, 30, 0, 11, 0, []), (43, 1, 2, 0, 1, 0, []), (44, 1, 35, 0, 0, 0, []), (45, 3, 50, 0, 45, 0, [4, 0, 0]), (48, 1, 0, 0, 0, 0, []), (49, 1, 70, 0, 0, 0, [])]
/-- CodeExchange.size(II)I -/
def tk_114 : mK := [(0, 1, 3, 0, 0, 0, []), (1, 1, 2, 0, 1, 0, []), (2, 3, 50, 0, 152, 1, [11, 0, 0]), (5, 3, 20, 0, 14, 1, []), (8, 1, 3, 0, 0, 0, []), (9, 1, 0, (-1), 0, 0, []), (10, 3, 50, 0, 139, 1, [11, 0, 0]), (13, 1, 70, 0, 0, 0, []), (14, 1, 3, 0, 0, 0, []), (15, 3, 30, 0, 11, 0, []), (18, 1, 2, 0, 1, 0, []), (19, 1, 35, 0, 0, 0, []), (20, 1, 6, 0, 3, 0, []), (21, 1, 2, 0, 2, 0, []), (22, 30, 26, 0, 86, 0, [52, 57, 70, 78]), (52, 1, 3, 0, 3, 0, []), (53, 3, 30, 0, 4, 0, []), (56, 1, 70, 0, 0, 0, []), (57, 1, 3, 0, 3, 0, []), (58, 3, 30, 0, 4, 1, []), (61, 3, 20, 0, 68, 0, []), (64, 1, 0, 1, 0, 0, []), (65, 3, 22, 0, 69, 0, []), (68, 1, 0, 0, 0, 0, []), (69, 1, 70, 0, 0, 0, []), (70, 1, 3, 0, 3, 0, []), (71, 3, 30, 0, 4, 2, []), (74, 3, 30, 0, 0, 5, []), (77, 1, 70, 0, 0, 0, []), (78, 1, 3, 0, 3, 0, []), (79, 3, 30, 0, 4, 3, []), (82, 3, 30, 0, 9, 4, []), (85, 1, 70, 0, 0, 0, []), (86, 1, 3, 0, 0, 0, []), (87, 1, 0, (-1), 0, 0, []), (88, 3, 50, 0, 139, 1, [11, 0, 0]), (91, 1, 70, 0, 0, 0, [])]
/-- CodeExchange.code(II)J -/
def tk_115 : mK := [(0, 1, 3, 0, 0, 0, []), (1, 1, 2, 0, 1, 0, []), (2, 3, 50, 0, 156, 1, [11, 0, 0]), (5, 1, 5, 0, 3, 0, []), (6, 1, 2, 0, 3, 0, []), (7, 3, 20, 0, 17, 0, []), (10, 1, 3, 0, 0, 0, []), (11, 1, 2, 0, 3, 0, []), (12, 3, 50, 0, 139, 1, [11, 0, 0]), (15, 1, 15, 0, 0, 0, []), (16, 1, 71, 0, 0, 0, []), (17, 1, 2, 0, 2, 0, []), (18, 3, 51, 0, 145, 1, [11, 0, 0]), (21, 3, 20, 0, 31, 1, []), (24, 1, 3, 0, 0, 0, []), (25, 1, 0, (-1), 0, 0, []), (26, 3, 50, 0, 139, 1, [11, 0, 0]), (29, 1, 15, 0, 0, 0, []), (30, 1, 71, 0, 0, 0, []), (31, 1, 3, 0, 0, 0, []), (32, 3, 30, 0, 11, 0, []), (35, 1, 2, 0, 1, 0, []), (36, 1, 35, 0, 0, 0, []), (37, 2, 6, 0, 4, 0, []), (39, 2, 3, 0, 4, 0, []), (41, 3, 30, 0, 4, 0, []), (44, 3, 20, 0, 57, 0, []), (47, 2, 3, 0, 4, 0, []), (49, 3, 30, 0, 4, 0, []), (52, 1, 2, 0, 2, 0, []), (53, 3, 51, 0, 8, 2, [1, 0, 0]), (56, 1, 71, 0, 0, 0, []), (57, 2, 3, 0, 4, 0, []), (59, 1, 2, 0, 2, 0, []), (60, 3, 50, 0, 50, 1, [4, 0, 0]), (63, 2, 5, 0, 5, 0, []), (65, 2, 2, 0, 5, 0, []), (67, 3, 20, 0, 80, 3, []), (70, 1, 3, 0, 0, 0, []), (71, 2, 0, (-2), 0, 0, []), (73, 3, 50, 0, 139, 1, [11, 0, 0]), (76, 1, 15, 0, 0, 0, []), (77, 3, 22, 0, 87, 0, []), (80, 2, 3, 0, 4, 0, []), (82, 2, 2, 0, 5, 0, []), (84, 3, 50, 0, 51, 1, [4, 0, 0]), (87, 1, 71, 0, 0, 0, [])]
/-- CodeExchange.bytesIn(JI)I -/
def tk_116 : mK := [(0, 1, 2, 0, 3, 0, []), (1, 1, 0, 1, 0, 0, []), (2, 3, 21, 0, 11, 2, []), (5, 1, 2, 0, 3, 0, []), (6, 2, 0, 8, 0, 0, []), (8, 3, 21, 0, 17, 5, []), (11, 1, 3, 0, 0, 0, []), (12, 1, 0, (-1), 0, 0, []), (13, 3, 50, 0, 139, 1, [11, 0, 0]), (16, 1, 70, 0, 0, 0, []), (17, 1, 3, 0, 0, 0, []), (18, 3, 30, 0, 11, 3, []), (21, 3, 30, 0, 7, 1, []), (24, 1, 2, 0, 3, 0, []), (25, 1, 9, 0, 0, 0, []), (26, 3, 0, 1000, 0, 0, []), (29, 3, 21, 0, 39, 5, []), (32, 1, 3, 0, 0, 0, []), (33, 2, 0, (-6), 0, 0, []), (35, 3, 50, 0, 139, 1, [11, 0, 0]), (38, 1, 70, 0, 0, 0, []), (39, 1, 2, 0, 3, 0, []), (40, 1, 0, 1, 0, 0, []), (41, 1, 9, 0, 0, 1, []), (42, 2, 5, 0, 4, 0, []), (44, 2, 2, 0, 4, 0, []), (46, 3, 20, 0, 75, 2, []), (49, 1, 3, 0, 0, 0, []), (50, 3, 30, 0, 11, 3, []), (53, 1, 4, 0, 1, 0, []), (54, 2, 0, 8, 0, 0, []), (56, 2, 2, 0, 4, 0, []), (58, 1, 9, 0, 0, 2, []), (59, 1, 14, 0, 0, 2, []), (60, 1, 16, 0, 0, 0, []), (61, 3, 0, 255, 0, 0, []), (64, 1, 9, 0, 0, 3, []), (65, 3, 50, 0, 72, 1, [7, 0, 0]), (68, 1, 18, 0, 0, 0, []), (69, 3, 8, (-1), 4, 0, []), (72, 3, 22, 0, 44, 0, []), (75, 1, 3, 0, 0, 0, []), (76, 3, 30, 0, 11, 3, []), (79, 3, 30, 0, 7, 1, []), (82, 1, 70, 0, 0, 0, [])]
/-- CodeExchange.unitsIn(JI)I -/
def tk_117 : mK := [(0, 1, 2, 0, 3, 0, []), (1, 1, 0, 1, 0, 0, []), (2, 3, 21, 0, 10, 2, []), (5, 1, 2, 0, 3, 0, []), (6, 1, 0, 4, 0, 0, []), (7, 3, 21, 0, 16, 5, []), (10, 1, 3, 0, 0, 0, []), (11, 1, 0, (-1), 0, 0, []), (12, 3, 50, 0, 139, 1, [11, 0, 0]), (15, 1, 70, 0, 0, 0, []), (16, 1, 3, 0, 0, 0, []), (17, 3, 30, 0, 11, 4, []), (20, 3, 30, 0, 7, 1, []), (23, 1, 2, 0, 3, 0, []), (24, 1, 9, 0, 0, 0, []), (25, 3, 0, 1000, 0, 0, []), (28, 3, 21, 0, 38, 5, []), (31, 1, 3, 0, 0, 0, []), (32, 2, 0, (-6), 0, 0, []), (34, 3, 50, 0, 139, 1, [11, 0, 0]), (37, 1, 70, 0, 0, 0, []), (38, 1, 2, 0, 3, 0, []), (39, 1, 0, 1, 0, 0, []), (40, 1, 9, 0, 0, 1, []), (41, 2, 5, 0, 4, 0, []), (43, 2, 2, 0, 4, 0, []), (45, 3, 20, 0, 73, 2, []), (48, 1, 3, 0, 0, 0, []), (49, 3, 30, 0, 11, 4, []), (52, 1, 4, 0, 1, 0, []), (53, 2, 0, 16, 0, 0, []), (55, 2, 2, 0, 4, 0, []), (57, 1, 9, 0, 0, 2, []), (58, 1, 14, 0, 0, 2, []), (59, 1, 16, 0, 0, 0, []), (60, 2, 0, 65535, 0, 0, []), (62, 1, 9, 0, 0, 3, []), (63, 3, 50, 0, 72, 1, [7, 0, 0]), (66, 1, 18, 0, 0, 0, []), (67, 3, 8, (-1), 4, 0, []), (70, 3, 22, 0, 43, 0, []), (73, 1, 3, 0, 0, 0, []), (74, 3, 30, 0, 11, 4, []), (77, 3, 30, 0, 7, 1, []), (80, 1, 70, 0, 0, 0, [])]
/-- CodeExchange.fill(I)I -/
def tk_118 : mK := [(0, 1, 2, 0, 1, 0, []), (1, 31, 26, 0, 76, 0, [32, 40, 48, 62]), (32, 1, 3, 0, 0, 0, []), (33, 3, 30, 0, 11, 3, []), (36, 3, 51, 0, 159, 1, [11, 0, 0]), (39, 1, 70, 0, 0, 0, []), (40, 1, 3, 0, 0, 0, []), (41, 3, 30, 0, 11, 4, []), (44, 3, 51, 0, 159, 1, [11, 0, 0]), (47, 1, 70, 0, 0, 0, []), (48, 1, 3, 0, 0, 0, []), (49, 1, 3, 0, 0, 0, []), (50, 1, 3, 0, 0, 0, []), (51, 3, 30, 0, 11, 3, []), (54, 1, 0, 2, 0, 0, []), (55, 3, 50, 0, 160, 2, [11, 0, 0]), (58, 3, 50, 0, 139, 1, [11, 0, 0]), (61, 1, 70, 0, 0, 0, []), (62, 1, 3, 0, 0, 0, []), (63, 1, 3, 0, 0, 0, []), (64, 1, 3, 0, 0, 0, []), (65, 3, 30, 0, 11, 4, []), (68, 1, 0, 1, 0, 0, []), (69, 3, 50, 0, 160, 2, [11, 0, 0]), (72, 3, 50, 0, 139, 1, [11, 0, 0]), (75, 1, 70, 0, 0, 0, []), (76, 1, 3, 0, 0, 0, []), (77, 1, 0, (-1), 0, 0, []), (78, 3, 50, 0, 139, 1, [11, 0, 0]), (81, 1, 70, 0, 0, 0, [])]
/-- CodeExchange.decode(II)I -/
def tk_119 : mK := [(0, 1, 3, 0, 0, 0, []), (1, 1, 2, 0, 1, 0, []), (2, 3, 50, 0, 156, 1, [11, 0, 0]), (5, 1, 5, 0, 3, 0, []), (6, 1, 2, 0, 3, 0, []), (7, 3, 20, 0, 19, 1, []), (10, 1, 2, 0, 2, 0, []), (11, 3, 51, 0, 149, 1, [11, 0, 0]), (14, 3, 20, 0, 19, 1, []), (17, 1, 0, (-1), 0, 0, []), (18, 1, 5, 0, 3, 0, []), (19, 1, 2, 0, 3, 0, []), (20, 3, 20, 0, 29, 0, []), (23, 1, 3, 0, 0, 0, []), (24, 1, 2, 0, 3, 0, []), (25, 3, 50, 0, 139, 1, [11, 0, 0]), (28, 1, 70, 0, 0, 0, []), (29, 1, 3, 0, 0, 0, []), (30, 1, 3, 0, 0, 0, []), (31, 1, 3, 0, 0, 0, []), (32, 1, 3, 0, 0, 0, []), (33, 3, 30, 0, 11, 0, []), (36, 1, 2, 0, 1, 0, []), (37, 1, 35, 0, 0, 0, []), (38, 1, 2, 0, 2, 0, []), (39, 1, 3, 0, 0, 0, []), (40, 3, 30, 0, 11, 7, []), (43, 3, 50, 0, 162, 3, [11, 0, 0]), (46, 1, 0, 1, 0, 0, []), (47, 3, 50, 0, 161, 2, [11, 0, 0]), (50, 3, 50, 0, 139, 1, [11, 0, 0]), (53, 1, 70, 0, 0, 0, [])]
/-- CodeExchange.encode(II)I -/
def tk_120 : mK := [(0, 1, 3, 0, 0, 0, []), (1, 1, 2, 0, 1, 0, []), (2, 3, 50, 0, 156, 1, [11, 0, 0]), (5, 1, 5, 0, 3, 0, []), (6, 1, 2, 0, 3, 0, []), (7, 3, 20, 0, 19, 1, []), (10, 1, 2, 0, 2, 0, []), (11, 3, 51, 0, 150, 1, [11, 0, 0]), (14, 3, 20, 0, 19, 1, []), (17, 1, 0, (-1), 0, 0, []), (18, 1, 5, 0, 3, 0, []), (19, 1, 2, 0, 3, 0, []), (20, 3, 20, 0, 29, 0, []), (23, 1, 3, 0, 0, 0, []), (24, 1, 2, 0, 3, 0, []), (25, 3, 50, 0, 139, 1, [11, 0, 0]), (28, 1, 70, 0, 0, 0, []), (29, 1, 3, 0, 0, 0, []), (30, 3, 30, 0, 11, 11, []), (33, 1, 3, 0, 0, 0, []), (34, 3, 30, 0, 11, 0, []), (37, 1, 2, 0, 1, 0, []), (38, 1, 35, 0, 0, 0, []), (39, 1, 2, 0, 2, 0, []), (40, 1, 0, 0, 0, 0, []), (41, 3, 50, 0, 101, 3, [10, 0, 0]), (44, 1, 3, 0, 0, 0, []), (45, 1, 3, 0, 0, 0, []), (46, 1, 3, 0, 0, 0, []), (47, 1, 3, 0, 0, 0, []), (48, 3, 30, 0, 11, 4, []), (51, 3, 50, 0, 164, 1, [11, 0, 0]), (54, 1, 0, 2, 0, 0, []), (55, 3, 50, 0, 161, 2, [11, 0, 0]), (58, 3, 50, 0, 139, 1, [11, 0, 0]), (61, 1, 70, 0, 0, 0, [])]
/-- CodeExchange.transcode(IIII)I -/
def tk_121 : mK := [(0, 1, 3, 0, 0, 0, []), (1, 1, 2, 0, 1, 0, []), (2, 1, 2, 0, 3, 0, []), (3, 3, 50, 0, 157, 2, [11, 0, 0]), (6, 2, 5, 0, 5, 0, []), (8, 2, 2, 0, 5, 0, []), (10, 3, 20, 0, 31, 1, []), (13, 1, 2, 0, 2, 0, []), (14, 3, 51, 0, 149, 1, [11, 0, 0]), (17, 3, 20, 0, 28, 0, []), (20, 2, 2, 0, 4, 0, []), (22, 3, 51, 0, 150, 1, [11, 0, 0]), (25, 3, 20, 0, 31, 1, []), (28, 1, 0, (-1), 0, 0, []), (29, 2, 5, 0, 5, 0, []), (31, 2, 2, 0, 5, 0, []), (33, 3, 20, 0, 57, 1, []), (36, 1, 3, 0, 0, 0, []), (37, 1, 3, 0, 0, 0, []), (38, 3, 30, 0, 11, 0, []), (41, 1, 2, 0, 1, 0, []), (42, 1, 35, 0, 0, 0, []), (43, 1, 2, 0, 2, 0, []), (44, 1, 3, 0, 0, 0, []), (45, 3, 30, 0, 11, 8, []), (48, 3, 50, 0, 162, 3, [11, 0, 0]), (51, 1, 0, 0, 0, 0, []), (52, 3, 55, 0, 0, 0, []), (55, 2, 5, 0, 5, 0, []), (57, 2, 2, 0, 5, 0, []), (59, 3, 20, 0, 69, 0, []), (62, 1, 3, 0, 0, 0, []), (63, 2, 2, 0, 5, 0, []), (65, 3, 50, 0, 139, 1, [11, 0, 0]), (68, 1, 70, 0, 0, 0, []), (69, 1, 3, 0, 0, 0, []), (70, 3, 30, 0, 11, 11, []), (73, 1, 3, 0, 0, 0, []), (74, 3, 30, 0, 11, 0, []), (77, 1, 2, 0, 3, 0, []), (78, 1, 35, 0, 0, 0, []), (79, 2, 2, 0, 4, 0, []), (81, 1, 0, 0, 0, 0, []), (82, 3, 50, 0, 101, 3, [10, 0, 0]), (85, 1, 3, 0, 0, 0, []), (86, 1, 3, 0, 0, 0, []), (87, 1, 3, 0, 0, 0, []), (88, 1, 3, 0, 0, 0, []), (89, 3, 30, 0, 11, 8, []), (92, 3, 50, 0, 164, 1, [11, 0, 0]), (95, 1, 0, 2, 0, 0, []), (96, 3, 50, 0, 161, 2, [11, 0, 0]), (99, 3, 50, 0, 139, 1, [11, 0, 0]), (102, 1, 70, 0, 0, 0, [])]
/-- CodeExchange.result(I)I -/
def tk_122 : mK := [(0, 1, 2, 0, 1, 0, []), (1, 3, 20, 0, 15, 2, []), (4, 1, 2, 0, 1, 0, []), (5, 1, 3, 0, 0, 0, []), (6, 3, 30, 0, 11, 5, []), (9, 3, 30, 0, 7, 1, []), (12, 3, 21, 0, 22, 2, []), (15, 1, 3, 0, 0, 0, []), (16, 2, 0, (-2), 0, 0, []), (18, 3, 50, 0, 139, 1, [11, 0, 0]), (21, 1, 70, 0, 0, 0, []), (22, 1, 3, 0, 0, 0, []), (23, 3, 30, 0, 11, 5, []), (26, 3, 30, 0, 7, 0, []), (29, 1, 2, 0, 1, 0, []), (30, 1, 33, 0, 0, 0, []), (31, 1, 70, 0, 0, 0, [])]
/-- CodeExchange.sign(II)I -/
def tk_123 : mK := [(0, 1, 2, 0, 1, 0, []), (1, 3, 20, 0, 16, 2, []), (4, 1, 2, 0, 1, 0, []), (5, 1, 0, 1, 0, 0, []), (6, 3, 21, 0, 16, 4, []), (9, 1, 2, 0, 2, 0, []), (10, 3, 51, 0, 145, 1, [11, 0, 0]), (13, 3, 20, 0, 22, 1, []), (16, 1, 3, 0, 0, 0, []), (17, 1, 0, (-1), 0, 0, []), (18, 3, 50, 0, 139, 1, [11, 0, 0]), (21, 1, 70, 0, 0, 0, []), (22, 1, 2, 0, 1, 0, []), (23, 3, 20, 0, 36, 1, []), (26, 1, 3, 0, 0, 0, []), (27, 3, 30, 0, 11, 9, []), (30, 3, 30, 0, 8, 0, []), (33, 3, 22, 0, 43, 0, []), (36, 1, 3, 0, 0, 0, []), (37, 3, 30, 0, 11, 9, []), (40, 3, 30, 0, 8, 1, []), (43, 1, 5, 0, 3, 0, []), (44, 1, 2, 0, 1, 0, []), (45, 3, 20, 0, 59, 1, []), (48, 1, 3, 0, 0, 0, []), (49, 3, 30, 0, 11, 9, []), (52, 1, 2, 0, 2, 0, []), (53, 3, 31, 0, 8, 0, []), (56, 3, 22, 0, 67, 0, []), (59, 1, 3, 0, 0, 0, []), (60, 3, 30, 0, 11, 9, []), (63, 1, 2, 0, 2, 0, []), (64, 3, 31, 0, 8, 1, []), (67, 1, 2, 0, 3, 0, []), (68, 1, 70, 0, 0, 0, [])]
/-- CodeExchange.fallback(I)I -/
def tk_124 : mK := [(0, 1, 2, 0, 1, 0, []), (1, 3, 51, 0, 145, 1, [11, 0, 0]), (4, 3, 20, 0, 13, 1, []), (7, 1, 3, 0, 0, 0, []), (8, 1, 0, (-1), 0, 0, []), (9, 3, 50, 0, 139, 1, [11, 0, 0]), (12, 1, 70, 0, 0, 0, []), (13, 1, 3, 0, 0, 0, []), (14, 3, 50, 0, 169, 0, [11, 0, 0]), (17, 3, 20, 0, 27, 1, []), (20, 1, 3, 0, 0, 0, []), (21, 2, 0, (-8), 0, 0, []), (23, 3, 50, 0, 139, 1, [11, 0, 0]), (26, 1, 70, 0, 0, 0, []), (27, 1, 3, 0, 0, 0, []), (28, 3, 30, 0, 11, 9, []), (31, 1, 2, 0, 1, 0, []), (32, 1, 3, 0, 0, 0, []), (33, 3, 30, 0, 11, 8, []), (36, 3, 50, 0, 82, 2, [8, 0, 0]), (39, 1, 5, 0, 2, 0, []), (40, 1, 2, 0, 2, 0, []), (41, 3, 20, 0, 50, 0, []), (44, 1, 3, 0, 0, 0, []), (45, 1, 2, 0, 2, 0, []), (46, 3, 50, 0, 139, 1, [11, 0, 0]), (49, 1, 70, 0, 0, 0, []), (50, 1, 3, 0, 0, 0, []), (51, 3, 30, 0, 11, 4, []), (54, 3, 50, 0, 71, 0, [7, 0, 0]), (57, 1, 3, 0, 0, 0, []), (58, 3, 30, 0, 11, 9, []), (61, 3, 30, 0, 8, 2, []), (64, 1, 70, 0, 0, 0, [])]
/-- CodeExchange.begin(IIZI)I -/
def tk_125 : mK := [(0, 1, 2, 0, 1, 0, []), (1, 3, 51, 0, 151, 1, [11, 0, 0]), (4, 3, 20, 0, 13, 1, []), (7, 1, 3, 0, 0, 0, []), (8, 1, 0, (-1), 0, 0, []), (9, 3, 50, 0, 139, 1, [11, 0, 0]), (12, 1, 70, 0, 0, 0, []), (13, 1, 3, 0, 0, 0, []), (14, 1, 2, 0, 2, 0, []), (15, 3, 50, 0, 156, 1, [11, 0, 0]), (18, 2, 5, 0, 5, 0, []), (20, 2, 2, 0, 5, 0, []), (22, 3, 20, 0, 51, 1, []), (25, 1, 2, 0, 3, 0, []), (26, 3, 20, 0, 40, 0, []), (29, 2, 2, 0, 4, 0, []), (31, 3, 51, 0, 150, 1, [11, 0, 0]), (34, 3, 20, 0, 48, 0, []), (37, 3, 22, 0, 51, 0, []), (40, 2, 2, 0, 4, 0, []), (42, 3, 51, 0, 149, 1, [11, 0, 0]), (45, 3, 20, 0, 51, 1, []), (48, 1, 0, (-1), 0, 0, []), (49, 2, 5, 0, 5, 0, []), (51, 2, 2, 0, 5, 0, []), (53, 3, 20, 0, 63, 0, []), (56, 1, 3, 0, 0, 0, []), (57, 2, 2, 0, 5, 0, []), (59, 3, 50, 0, 139, 1, [11, 0, 0]), (62, 1, 70, 0, 0, 0, []), (63, 1, 3, 0, 0, 0, []), (64, 3, 30, 0, 11, 12, []), (67, 1, 2, 0, 1, 0, []), (68, 1, 35, 0, 0, 0, []), (69, 1, 3, 0, 0, 0, []), (70, 3, 30, 0, 11, 0, []), (73, 1, 2, 0, 2, 0, []), (74, 1, 35, 0, 0, 0, []), (75, 1, 2, 0, 3, 0, []), (76, 2, 2, 0, 4, 0, []), (78, 3, 50, 0, 23, 3, [3, 0, 0]), (81, 1, 0, 0, 0, 0, []), (82, 1, 70, 0, 0, 0, [])]
/-- CodeExchange.feed(II)I -/
def tk_126 : mK := [(0, 1, 3, 0, 0, 0, []), (1, 1, 2, 0, 1, 0, []), (2, 3, 50, 0, 158, 1, [11, 0, 0]), (5, 1, 5, 0, 3, 0, []), (6, 1, 2, 0, 3, 0, []), (7, 3, 20, 0, 16, 0, []), (10, 1, 3, 0, 0, 0, []), (11, 1, 2, 0, 3, 0, []), (12, 3, 50, 0, 139, 1, [11, 0, 0]), (15, 1, 70, 0, 0, 0, []), (16, 1, 3, 0, 0, 0, []), (17, 3, 30, 0, 11, 12, []), (20, 1, 2, 0, 1, 0, []), (21, 1, 35, 0, 0, 0, []), (22, 2, 6, 0, 4, 0, []), (24, 1, 2, 0, 2, 0, []), (25, 3, 20, 0, 48, 2, []), (28, 1, 2, 0, 2, 0, []), (29, 2, 3, 0, 4, 0, []), (31, 3, 30, 0, 3, 2, []), (34, 3, 20, 0, 42, 0, []), (37, 2, 0, 65535, 0, 0, []), (39, 3, 22, 0, 45, 0, []), (42, 3, 0, 255, 0, 0, []), (45, 3, 21, 0, 54, 5, []), (48, 1, 3, 0, 0, 0, []), (49, 1, 0, (-1), 0, 0, []), (50, 3, 50, 0, 139, 1, [11, 0, 0]), (53, 1, 70, 0, 0, 0, []), (54, 2, 3, 0, 4, 0, []), (56, 3, 30, 0, 3, 11, []), (59, 3, 0, 300, 0, 0, []), (62, 3, 21, 0, 72, 5, []), (65, 1, 3, 0, 0, 0, []), (66, 2, 0, (-6), 0, 0, []), (68, 3, 50, 0, 139, 1, [11, 0, 0]), (71, 1, 70, 0, 0, 0, []), (72, 1, 3, 0, 0, 0, []), (73, 2, 3, 0, 4, 0, []), (75, 2, 3, 0, 4, 0, []), (77, 3, 30, 0, 3, 2, []), (80, 3, 20, 0, 92, 0, []), (83, 2, 3, 0, 4, 0, []), (85, 1, 2, 0, 2, 0, []), (86, 3, 50, 0, 30, 1, [3, 0, 0]), (89, 3, 22, 0, 98, 0, []), (92, 2, 3, 0, 4, 0, []), (94, 1, 2, 0, 2, 0, []), (95, 3, 50, 0, 27, 1, [3, 0, 0]), (98, 3, 50, 0, 168, 2, [11, 0, 0]), (101, 1, 70, 0, 0, 0, [])]
/-- CodeExchange.end(I)I -/
def tk_127 : mK := [(0, 1, 3, 0, 0, 0, []), (1, 1, 2, 0, 1, 0, []), (2, 3, 50, 0, 158, 1, [11, 0, 0]), (5, 1, 5, 0, 2, 0, []), (6, 1, 2, 0, 2, 0, []), (7, 3, 20, 0, 16, 0, []), (10, 1, 3, 0, 0, 0, []), (11, 1, 2, 0, 2, 0, []), (12, 3, 50, 0, 139, 1, [11, 0, 0]), (15, 1, 70, 0, 0, 0, []), (16, 1, 3, 0, 0, 0, []), (17, 3, 30, 0, 11, 12, []), (20, 1, 2, 0, 1, 0, []), (21, 1, 35, 0, 0, 0, []), (22, 1, 6, 0, 3, 0, []), (23, 1, 3, 0, 3, 0, []), (24, 3, 30, 0, 3, 11, []), (27, 3, 0, 300, 0, 0, []), (30, 3, 21, 0, 40, 5, []), (33, 1, 3, 0, 0, 0, []), (34, 2, 0, (-6), 0, 0, []), (36, 3, 50, 0, 139, 1, [11, 0, 0]), (39, 1, 70, 0, 0, 0, []), (40, 1, 3, 0, 0, 0, []), (41, 1, 3, 0, 3, 0, []), (42, 1, 3, 0, 3, 0, []), (43, 3, 30, 0, 3, 2, []), (46, 3, 20, 0, 56, 0, []), (49, 1, 3, 0, 3, 0, []), (50, 3, 50, 0, 31, 0, [3, 0, 0]), (53, 3, 22, 0, 60, 0, []), (56, 1, 3, 0, 3, 0, []), (57, 3, 50, 0, 28, 0, [3, 0, 0]), (60, 3, 50, 0, 168, 2, [11, 0, 0]), (63, 1, 70, 0, 0, 0, [])]
/-- CodeExchange.take(I)I -/
def tk_128 : mK := [(0, 1, 2, 0, 1, 0, []), (1, 3, 51, 0, 151, 1, [11, 0, 0]), (4, 3, 20, 0, 13, 1, []), (7, 1, 3, 0, 0, 0, []), (8, 1, 0, (-1), 0, 0, []), (9, 3, 50, 0, 139, 1, [11, 0, 0]), (12, 1, 70, 0, 0, 0, []), (13, 1, 3, 0, 0, 0, []), (14, 3, 30, 0, 11, 12, []), (17, 1, 2, 0, 1, 0, []), (18, 1, 35, 0, 0, 0, []), (19, 3, 30, 0, 3, 11, []), (22, 1, 0, 1, 0, 0, []), (23, 3, 21, 0, 33, 3, []), (26, 1, 3, 0, 0, 0, []), (27, 2, 0, (-2), 0, 0, []), (29, 3, 50, 0, 139, 1, [11, 0, 0]), (32, 1, 70, 0, 0, 0, []), (33, 1, 3, 0, 0, 0, []), (34, 3, 30, 0, 11, 12, []), (37, 1, 2, 0, 1, 0, []), (38, 1, 35, 0, 0, 0, []), (39, 3, 50, 0, 24, 0, [3, 0, 0]), (42, 1, 70, 0, 0, 0, [])]
/-- CodeExchange.machine(II)I -/
def tk_129 : mK := [(0, 1, 2, 0, 1, 0, []), (1, 3, 51, 0, 151, 1, [11, 0, 0]), (4, 3, 20, 0, 13, 1, []), (7, 1, 3, 0, 0, 0, []), (8, 1, 0, (-1), 0, 0, []), (9, 3, 50, 0, 139, 1, [11, 0, 0]), (12, 1, 70, 0, 0, 0, []), (13, 1, 3, 0, 0, 0, []), (14, 3, 30, 0, 11, 12, []), (17, 1, 2, 0, 1, 0, []), (18, 1, 35, 0, 0, 0, []), (19, 1, 6, 0, 3, 0, []), (20, 1, 3, 0, 3, 0, []), (21, 3, 30, 0, 3, 3, []), (24, 1, 0, (-1), 0, 0, []), (25, 3, 21, 0, 35, 1, []), (28, 1, 3, 0, 0, 0, []), (29, 2, 0, (-2), 0, 0, []), (31, 3, 50, 0, 139, 1, [11, 0, 0]), (34, 1, 70, 0, 0, 0, []), (35, 1, 2, 0, 2, 0, []), (36, 36, 26, 0, 120, 0, [72, 77, 102, 110, 115]), (72, 1, 3, 0, 3, 0, []), (73, 3, 30, 0, 3, 11, []), (76, 1, 70, 0, 0, 0, []), (77, 1, 3, 0, 3, 0, []), (78, 3, 30, 0, 3, 2, []), (81, 3, 20, 0, 94, 0, []), (84, 1, 3, 0, 3, 0, []), (85, 3, 30, 0, 3, 1, []), (88, 3, 30, 0, 10, 5, []), (91, 3, 22, 0, 101, 0, []), (94, 1, 3, 0, 3, 0, []), (95, 3, 30, 0, 3, 0, []), (98, 3, 30, 0, 5, 4, []), (101, 1, 70, 0, 0, 0, []), (102, 1, 3, 0, 3, 0, []), (103, 3, 30, 0, 3, 0, []), (106, 3, 30, 0, 5, 5, []), (109, 1, 70, 0, 0, 0, []), (110, 1, 3, 0, 3, 0, []), (111, 3, 30, 0, 3, 5, []), (114, 1, 70, 0, 0, 0, []), (115, 1, 3, 0, 3, 0, []), (116, 3, 30, 0, 3, 3, []), (119, 1, 70, 0, 0, 0, []), (120, 1, 3, 0, 0, 0, []), (121, 1, 0, (-1), 0, 0, []), (122, 3, 50, 0, 139, 1, [11, 0, 0]), (125, 1, 70, 0, 0, 0, [])]
/-- CodeExchange.coverage(III)I -/
def tk_130 : mK := [(0, 1, 3, 0, 0, 0, []), (1, 1, 2, 0, 1, 0, []), (2, 3, 50, 0, 156, 1, [11, 0, 0]), (5, 2, 5, 0, 4, 0, []), (7, 2, 2, 0, 4, 0, []), (9, 3, 20, 0, 19, 0, []), (12, 1, 3, 0, 0, 0, []), (13, 2, 2, 0, 4, 0, []), (15, 3, 50, 0, 139, 1, [11, 0, 0]), (18, 1, 70, 0, 0, 0, []), (19, 1, 2, 0, 2, 0, []), (20, 3, 20, 0, 44, 2, []), (23, 1, 2, 0, 3, 0, []), (24, 3, 0, 1114111, 0, 0, []), (27, 3, 21, 0, 44, 4, []), (30, 1, 2, 0, 3, 0, []), (31, 1, 2, 0, 2, 0, []), (32, 3, 21, 0, 44, 2, []), (35, 1, 2, 0, 3, 0, []), (36, 1, 2, 0, 2, 0, []), (37, 1, 9, 0, 0, 1, []), (38, 3, 0, 65536, 0, 0, []), (41, 3, 21, 0, 50, 2, []), (44, 1, 3, 0, 0, 0, []), (45, 1, 0, (-1), 0, 0, []), (46, 3, 50, 0, 139, 1, [11, 0, 0]), (49, 1, 70, 0, 0, 0, []), (50, 1, 3, 0, 0, 0, []), (51, 3, 30, 0, 11, 0, []), (54, 1, 2, 0, 1, 0, []), (55, 1, 35, 0, 0, 0, []), (56, 1, 2, 0, 2, 0, []), (57, 1, 2, 0, 3, 0, []), (58, 3, 50, 0, 54, 2, [4, 0, 0]), (61, 1, 70, 0, 0, 0, [])]
/-- CodeExchange.differ(III)I -/
def tk_131 : mK := [(0, 1, 3, 0, 0, 0, []), (1, 1, 2, 0, 1, 0, []), (2, 1, 2, 0, 2, 0, []), (3, 3, 50, 0, 157, 2, [11, 0, 0]), (6, 2, 5, 0, 4, 0, []), (8, 2, 2, 0, 4, 0, []), (10, 3, 20, 0, 20, 0, []), (13, 1, 3, 0, 0, 0, []), (14, 2, 2, 0, 4, 0, []), (16, 3, 50, 0, 139, 1, [11, 0, 0]), (19, 1, 70, 0, 0, 0, []), (20, 1, 2, 0, 3, 0, []), (21, 3, 20, 0, 31, 2, []), (24, 1, 2, 0, 3, 0, []), (25, 3, 0, 1114111, 0, 0, []), (28, 3, 21, 0, 37, 5, []), (31, 1, 3, 0, 0, 0, []), (32, 1, 0, (-1), 0, 0, []), (33, 3, 50, 0, 139, 1, [11, 0, 0]), (36, 1, 70, 0, 0, 0, []), (37, 1, 3, 0, 0, 0, []), (38, 3, 30, 0, 11, 0, []), (41, 1, 2, 0, 1, 0, []), (42, 1, 35, 0, 0, 0, []), (43, 2, 6, 0, 5, 0, []), (45, 1, 3, 0, 0, 0, []), (46, 3, 30, 0, 11, 0, []), (49, 1, 2, 0, 2, 0, []), (50, 1, 35, 0, 0, 0, []), (51, 2, 6, 0, 6, 0, []), (53, 1, 2, 0, 1, 0, []), (54, 1, 2, 0, 2, 0, []), (55, 3, 21, 0, 79, 0, []), (58, 2, 3, 0, 5, 0, []), (60, 3, 30, 0, 4, 0, []), (63, 2, 3, 0, 6, 0, []), (65, 3, 30, 0, 4, 0, []), (68, 3, 21, 0, 86, 1, []), (71, 2, 3, 0, 5, 0, []), (73, 3, 30, 0, 4, 0, []), (76, 3, 20, 0, 86, 0, []), (79, 1, 3, 0, 0, 0, []), (80, 2, 0, (-2), 0, 0, []), (82, 3, 50, 0, 139, 1, [11, 0, 0]), (85, 1, 70, 0, 0, 0, []), (86, 1, 2, 0, 3, 0, []), (87, 3, 0, 4096, 0, 0, []), (90, 1, 9, 0, 0, 0, []), (91, 3, 0, 1114112, 0, 0, []), (94, 3, 55, 0, 0, 0, []), (97, 2, 5, 0, 7, 0, []), (99, 1, 2, 0, 3, 0, []), (100, 2, 5, 0, 8, 0, []), (102, 2, 2, 0, 8, 0, []), (104, 2, 2, 0, 7, 0, []), (106, 3, 21, 0, 157, 3, []), (109, 2, 3, 0, 5, 0, []), (111, 2, 2, 0, 8, 0, []), (113, 3, 50, 0, 53, 1, [4, 0, 0]), (116, 2, 3, 0, 6, 0, []), (118, 2, 2, 0, 8, 0, []), (120, 3, 50, 0, 53, 1, [4, 0, 0]), (123, 3, 55, 0, 0, 0, []), (126, 2, 5, 0, 8, 0, []), (128, 2, 2, 0, 8, 0, []), (130, 2, 2, 0, 7, 0, []), (132, 3, 21, 0, 151, 3, []), (135, 1, 3, 0, 0, 0, []), (136, 2, 3, 0, 5, 0, []), (138, 2, 3, 0, 6, 0, []), (140, 2, 2, 0, 8, 0, []), (142, 3, 50, 0, 166, 3, [11, 0, 0]), (145, 3, 20, 0, 151, 0, []), (148, 2, 2, 0, 8, 0, []), (150, 1, 70, 0, 0, 0, []), (151, 3, 8, 1, 8, 0, []), (154, 3, 22, 0, 102, 0, []), (157, 1, 3, 0, 0, 0, []), (158, 2, 0, (-2), 0, 0, []), (160, 3, 50, 0, 139, 1, [11, 0, 0]), (163, 1, 70, 0, 0, 0, [])]
/-- CodeExchange.misread(II)I -/
def tk_132 : mK := [(0, 1, 3, 0, 0, 0, []), (1, 1, 2, 0, 1, 0, []), (2, 1, 2, 0, 2, 0, []), (3, 3, 50, 0, 157, 2, [11, 0, 0]), (6, 1, 5, 0, 3, 0, []), (7, 1, 2, 0, 3, 0, []), (8, 3, 20, 0, 17, 0, []), (11, 1, 3, 0, 0, 0, []), (12, 1, 2, 0, 3, 0, []), (13, 3, 50, 0, 139, 1, [11, 0, 0]), (16, 1, 70, 0, 0, 0, []), (17, 1, 3, 0, 0, 0, []), (18, 1, 3, 0, 0, 0, []), (19, 3, 30, 0, 11, 0, []), (22, 1, 2, 0, 1, 0, []), (23, 1, 35, 0, 0, 0, []), (24, 1, 0, 3, 0, 0, []), (25, 1, 3, 0, 0, 0, []), (26, 3, 30, 0, 11, 8, []), (29, 3, 50, 0, 162, 3, [11, 0, 0]), (32, 2, 5, 0, 4, 0, []), (34, 1, 3, 0, 0, 0, []), (35, 1, 3, 0, 0, 0, []), (36, 3, 30, 0, 11, 0, []), (39, 1, 2, 0, 2, 0, []), (40, 1, 35, 0, 0, 0, []), (41, 1, 0, 3, 0, 0, []), (42, 1, 3, 0, 0, 0, []), (43, 3, 30, 0, 11, 7, []), (46, 3, 50, 0, 162, 3, [11, 0, 0]), (49, 2, 5, 0, 5, 0, []), (51, 2, 2, 0, 4, 0, []), (53, 2, 2, 0, 5, 0, []), (55, 3, 55, 0, 0, 0, []), (58, 2, 5, 0, 6, 0, []), (60, 2, 2, 0, 4, 0, []), (62, 2, 2, 0, 5, 0, []), (64, 3, 54, 0, 0, 0, []), (67, 2, 2, 0, 6, 0, []), (69, 1, 9, 0, 0, 1, []), (70, 2, 5, 0, 7, 0, []), (72, 1, 0, 0, 0, 0, []), (73, 2, 5, 0, 8, 0, []), (75, 2, 2, 0, 8, 0, []), (77, 2, 2, 0, 6, 0, []), (79, 3, 21, 0, 114, 3, []), (82, 1, 3, 0, 0, 0, []), (83, 3, 30, 0, 11, 8, []), (86, 3, 30, 0, 7, 0, []), (89, 2, 2, 0, 8, 0, []), (91, 1, 33, 0, 0, 0, []), (92, 1, 3, 0, 0, 0, []), (93, 3, 30, 0, 11, 7, []), (96, 3, 30, 0, 7, 0, []), (99, 2, 2, 0, 8, 0, []), (101, 1, 33, 0, 0, 0, []), (102, 3, 21, 0, 108, 0, []), (105, 3, 8, 1, 7, 0, []), (108, 3, 8, 1, 8, 0, []), (111, 3, 22, 0, 75, 0, []), (114, 2, 2, 0, 7, 0, []), (116, 1, 70, 0, 0, 0, [])]
/-- CodeExchange.faults(I)I -/
def tk_133 : mK := [(0, 1, 3, 0, 0, 0, []), (1, 1, 2, 0, 1, 0, []), (2, 3, 50, 0, 156, 1, [11, 0, 0]), (5, 1, 5, 0, 2, 0, []), (6, 1, 2, 0, 2, 0, []), (7, 3, 20, 0, 16, 0, []), (10, 1, 3, 0, 0, 0, []), (11, 1, 2, 0, 2, 0, []), (12, 3, 50, 0, 139, 1, [11, 0, 0]), (15, 1, 70, 0, 0, 0, []), (16, 1, 3, 0, 0, 0, []), (17, 1, 3, 0, 0, 0, []), (18, 3, 30, 0, 11, 0, []), (21, 1, 2, 0, 1, 0, []), (22, 1, 35, 0, 0, 0, []), (23, 3, 50, 0, 163, 1, [11, 0, 0]), (26, 1, 70, 0, 0, 0, [])]
/-- CodeExchange.detect()I -/
def tk_134 : mK := [(0, 2, 0, (-2), 0, 0, []), (2, 1, 5, 0, 1, 0, []), (3, 3, 0, 1001, 0, 0, []), (6, 1, 5, 0, 2, 0, []), (7, 1, 0, 0, 0, 0, []), (8, 1, 5, 0, 3, 0, []), (9, 1, 2, 0, 3, 0, []), (10, 1, 3, 0, 0, 0, []), (11, 3, 30, 0, 11, 1, []), (14, 3, 21, 0, 62, 3, []), (17, 1, 3, 0, 0, 0, []), (18, 3, 30, 0, 11, 0, []), (21, 1, 2, 0, 3, 0, []), (22, 1, 35, 0, 0, 0, []), (23, 3, 30, 0, 4, 1, []), (26, 3, 20, 0, 42, 0, []), (29, 1, 3, 0, 0, 0, []), (30, 1, 3, 0, 0, 0, []), (31, 3, 30, 0, 11, 0, []), (34, 1, 2, 0, 3, 0, []), (35, 1, 35, 0, 0, 0, []), (36, 3, 50, 0, 163, 1, [11, 0, 0]), (39, 3, 22, 0, 43, 0, []), (42, 1, 2, 0, 2, 0, []), (43, 2, 5, 0, 4, 0, []), (45, 2, 2, 0, 4, 0, []), (47, 1, 2, 0, 2, 0, []), (48, 3, 21, 0, 56, 3, []), (51, 1, 2, 0, 3, 0, []), (52, 1, 5, 0, 1, 0, []), (53, 2, 2, 0, 4, 0, []), (55, 1, 5, 0, 2, 0, []), (56, 3, 8, 1, 3, 0, []), (59, 3, 22, 0, 9, 0, []), (62, 1, 3, 0, 0, 0, []), (63, 1, 2, 0, 1, 0, []), (64, 3, 50, 0, 139, 1, [11, 0, 0]), (67, 1, 70, 0, 0, 0, [])]
/-- CodeExchange.lengths(II)I -/
def tk_135 : mK := [(0, 1, 3, 0, 0, 0, []), (1, 1, 2, 0, 1, 0, []), (2, 3, 50, 0, 156, 1, [11, 0, 0]), (5, 1, 5, 0, 3, 0, []), (6, 1, 2, 0, 3, 0, []), (7, 3, 20, 0, 21, 1, []), (10, 1, 2, 0, 2, 0, []), (11, 3, 20, 0, 19, 2, []), (14, 1, 2, 0, 2, 0, []), (15, 1, 0, 1, 0, 0, []), (16, 3, 21, 0, 21, 5, []), (19, 1, 0, (-1), 0, 0, []), (20, 1, 5, 0, 3, 0, []), (21, 1, 2, 0, 3, 0, []), (22, 3, 20, 0, 31, 0, []), (25, 1, 3, 0, 0, 0, []), (26, 1, 2, 0, 3, 0, []), (27, 3, 50, 0, 139, 1, [11, 0, 0]), (30, 1, 70, 0, 0, 0, []), (31, 1, 3, 0, 0, 0, []), (32, 1, 3, 0, 0, 0, []), (33, 3, 30, 0, 11, 0, []), (36, 1, 2, 0, 1, 0, []), (37, 1, 35, 0, 0, 0, []), (38, 1, 0, 0, 0, 0, []), (39, 3, 50, 0, 165, 2, [11, 0, 0]), (42, 2, 5, 0, 4, 0, []), (44, 1, 0, 1, 0, 0, []), (45, 2, 5, 0, 5, 0, []), (47, 2, 2, 0, 4, 0, []), (49, 3, 20, 0, 115, 2, []), (52, 2, 2, 0, 5, 0, []), (54, 1, 0, 4, 0, 0, []), (55, 3, 21, 0, 115, 3, []), (58, 1, 3, 0, 0, 0, []), (59, 3, 30, 0, 11, 0, []), (62, 1, 2, 0, 1, 0, []), (63, 1, 35, 0, 0, 0, []), (64, 2, 2, 0, 5, 0, []), (66, 3, 50, 0, 48, 1, [4, 0, 0]), (69, 3, 20, 0, 109, 0, []), (72, 1, 3, 0, 0, 0, []), (73, 1, 3, 0, 0, 0, []), (74, 3, 30, 0, 11, 0, []), (77, 1, 2, 0, 1, 0, []), (78, 1, 35, 0, 0, 0, []), (79, 2, 2, 0, 5, 0, []), (81, 3, 50, 0, 165, 2, [11, 0, 0]), (84, 2, 5, 0, 6, 0, []), (86, 1, 2, 0, 2, 0, []), (87, 3, 20, 0, 100, 1, []), (90, 2, 2, 0, 4, 0, []), (92, 2, 2, 0, 6, 0, []), (94, 3, 55, 0, 0, 0, []), (97, 3, 22, 0, 107, 0, []), (100, 2, 2, 0, 4, 0, []), (102, 2, 2, 0, 6, 0, []), (104, 3, 54, 0, 0, 0, []), (107, 2, 5, 0, 4, 0, []), (109, 3, 8, 1, 5, 0, []), (112, 3, 22, 0, 47, 0, []), (115, 1, 3, 0, 0, 0, []), (116, 2, 2, 0, 4, 0, []), (118, 3, 50, 0, 139, 1, [11, 0, 0]), (121, 1, 70, 0, 0, 0, [])]
/-- CodeExchange.send(I)I -/
def tk_136 : mK := [(0, 1, 3, 0, 0, 0, []), (1, 1, 2, 0, 1, 0, []), (2, 3, 50, 0, 154, 1, [11, 0, 0]), (5, 1, 5, 0, 2, 0, []), (6, 1, 2, 0, 2, 0, []), (7, 3, 20, 0, 25, 1, []), (10, 1, 3, 0, 0, 0, []), (11, 3, 30, 0, 11, 0, []), (14, 1, 2, 0, 1, 0, []), (15, 1, 35, 0, 0, 0, []), (16, 3, 30, 0, 4, 1, []), (19, 3, 20, 0, 25, 1, []), (22, 2, 0, (-5), 0, 0, []), (24, 1, 5, 0, 2, 0, []), (25, 1, 2, 0, 2, 0, []), (26, 3, 20, 0, 35, 0, []), (29, 1, 3, 0, 0, 0, []), (30, 1, 2, 0, 2, 0, []), (31, 3, 50, 0, 139, 1, [11, 0, 0]), (34, 1, 70, 0, 0, 0, []), (35, 1, 3, 0, 0, 0, []), (36, 3, 30, 0, 11, 7, []), (39, 3, 50, 0, 71, 0, [7, 0, 0]), (42, 1, 3, 0, 0, 0, []), (43, 3, 30, 0, 11, 0, []), (46, 1, 2, 0, 1, 0, []), (47, 1, 35, 0, 0, 0, []), (48, 3, 30, 0, 4, 2, []), (51, 1, 3, 0, 0, 0, []), (52, 3, 30, 0, 11, 7, []), (55, 3, 50, 0, 6, 1, [0, 0, 0]), (58, 1, 3, 0, 0, 0, []), (59, 3, 30, 0, 11, 0, []), (62, 1, 2, 0, 1, 0, []), (63, 1, 35, 0, 0, 0, []), (64, 3, 30, 0, 4, 3, []), (67, 1, 3, 0, 0, 0, []), (68, 3, 30, 0, 11, 7, []), (71, 3, 50, 0, 98, 1, [9, 0, 0]), (74, 1, 3, 0, 0, 0, []), (75, 3, 30, 0, 11, 7, []), (78, 1, 3, 0, 0, 0, []), (79, 3, 30, 0, 11, 7, []), (82, 1, 3, 0, 0, 0, []), (83, 3, 30, 0, 11, 7, []), (86, 3, 30, 0, 7, 1, []), (89, 3, 51, 0, 170, 2, [11, 0, 0]), (92, 1, 0, 2, 0, 0, []), (93, 3, 50, 0, 74, 2, [7, 0, 0]), (96, 1, 3, 0, 0, 0, []), (97, 1, 3, 0, 0, 0, []), (98, 3, 30, 0, 11, 7, []), (101, 3, 30, 0, 7, 1, []), (104, 1, 0, 2, 0, 0, []), (105, 3, 50, 0, 161, 2, [11, 0, 0]), (108, 1, 70, 0, 0, 0, [])]
/-- CodeExchange.receive()I -/
def tk_137 : mK := [(0, 1, 3, 0, 0, 0, []), (1, 3, 30, 0, 11, 1, []), (4, 2, 0, 10, 0, 0, []), (6, 3, 21, 0, 16, 2, []), (9, 1, 3, 0, 0, 0, []), (10, 2, 0, (-6), 0, 0, []), (12, 3, 50, 0, 139, 1, [11, 0, 0]), (15, 1, 70, 0, 0, 0, []), (16, 1, 3, 0, 0, 0, []), (17, 3, 30, 0, 11, 3, []), (20, 3, 30, 0, 7, 1, []), (23, 1, 0, 2, 0, 0, []), (24, 1, 9, 0, 0, 1, []), (25, 1, 5, 0, 1, 0, []), (26, 1, 2, 0, 1, 0, []), (27, 1, 0, 2, 0, 0, []), (28, 3, 21, 0, 51, 2, []), (31, 1, 3, 0, 0, 0, []), (32, 3, 30, 0, 11, 3, []), (35, 1, 2, 0, 1, 0, []), (36, 1, 0, 2, 0, 0, []), (37, 3, 50, 0, 76, 2, [7, 0, 0]), (40, 1, 3, 0, 0, 0, []), (41, 3, 30, 0, 11, 3, []), (44, 1, 2, 0, 1, 0, []), (45, 3, 51, 0, 170, 2, [11, 0, 0]), (48, 3, 21, 0, 58, 0, []), (51, 1, 3, 0, 0, 0, []), (52, 2, 0, (-13), 0, 0, []), (54, 3, 50, 0, 139, 1, [11, 0, 0]), (57, 1, 70, 0, 0, 0, []), (58, 1, 3, 0, 0, 0, []), (59, 3, 30, 0, 11, 2, []), (62, 3, 23, 0, 77, 0, []), (65, 1, 3, 0, 0, 0, []), (66, 3, 42, 0, 4, 10, []), (69, 1, 17, 0, 0, 0, []), (70, 1, 0, 0, 0, 0, []), (71, 3, 52, 0, 33, 1, [4, 19, 1853]), (74, 3, 31, 0, 11, 2, []), (77, 1, 3, 0, 0, 0, []), (78, 3, 30, 0, 11, 2, []), (81, 1, 6, 0, 2, 0, []), (82, 1, 3, 0, 2, 0, []), (83, 3, 30, 0, 4, 2, []), (86, 1, 3, 0, 0, 0, []), (87, 3, 30, 0, 11, 3, []), (90, 1, 0, 0, 0, 0, []), (91, 1, 2, 0, 1, 0, []), (92, 3, 50, 0, 7, 3, [0, 0, 0]), (95, 1, 5, 0, 3, 0, []), (96, 1, 2, 0, 3, 0, []), (97, 3, 20, 0, 114, 2, []), (100, 1, 3, 0, 2, 0, []), (101, 3, 30, 0, 4, 3, []), (104, 1, 3, 0, 0, 0, []), (105, 3, 30, 0, 11, 3, []), (108, 1, 2, 0, 3, 0, []), (109, 1, 2, 0, 1, 0, []), (110, 3, 50, 0, 99, 3, [9, 0, 0]), (113, 1, 5, 0, 3, 0, []), (114, 1, 2, 0, 3, 0, []), (115, 1, 2, 0, 1, 0, []), (116, 3, 21, 0, 130, 1, []), (119, 1, 3, 0, 2, 0, []), (120, 1, 3, 0, 0, 0, []), (121, 3, 30, 0, 11, 15, []), (124, 3, 50, 0, 34, 1, [4, 0, 0]), (127, 3, 20, 0, 137, 1, []), (130, 1, 3, 0, 0, 0, []), (131, 2, 0, (-8), 0, 0, []), (133, 3, 50, 0, 139, 1, [11, 0, 0]), (136, 1, 70, 0, 0, 0, []), (137, 1, 3, 0, 2, 0, []), (138, 3, 50, 0, 45, 0, [4, 0, 0]), (141, 1, 3, 0, 0, 0, []), (142, 1, 25, 0, 0, 0, []), (143, 3, 31, 0, 11, 2, []), (146, 1, 3, 0, 0, 0, []), (147, 1, 3, 0, 2, 0, []), (148, 3, 50, 0, 153, 1, [11, 0, 0]), (151, 1, 70, 0, 0, 0, [])]
/-- CodeExchange.told(I)I -/
def tk_138 : mK := [(0, 1, 2, 0, 1, 0, []), (1, 59, 26, 0, 121, 0, [60, 65, 65, 65, 74, 79, 87, 95, 103, 108, 116]), (60, 1, 3, 0, 0, 0, []), (61, 3, 30, 0, 11, 13, []), (64, 1, 70, 0, 0, 0, []), (65, 1, 3, 0, 0, 0, []), (66, 3, 30, 0, 11, 14, []), (69, 1, 2, 0, 1, 0, []), (70, 1, 0, 1, 0, 0, []), (71, 1, 9, 0, 0, 1, []), (72, 1, 33, 0, 0, 0, []), (73, 1, 70, 0, 0, 0, []), (74, 1, 3, 0, 0, 0, []), (75, 3, 30, 0, 11, 1, []), (78, 1, 70, 0, 0, 0, []), (79, 1, 3, 0, 0, 0, []), (80, 3, 30, 0, 11, 3, []), (83, 3, 30, 0, 7, 1, []), (86, 1, 70, 0, 0, 0, []), (87, 1, 3, 0, 0, 0, []), (88, 3, 30, 0, 11, 4, []), (91, 3, 30, 0, 7, 1, []), (94, 1, 70, 0, 0, 0, []), (95, 1, 3, 0, 0, 0, []), (96, 3, 30, 0, 11, 5, []), (99, 3, 30, 0, 7, 1, []), (102, 1, 70, 0, 0, 0, []), (103, 1, 3, 0, 0, 0, []), (104, 3, 30, 0, 11, 6, []), (107, 1, 70, 0, 0, 0, []), (108, 1, 3, 0, 0, 0, []), (109, 3, 30, 0, 11, 9, []), (112, 3, 30, 0, 8, 2, []), (115, 1, 70, 0, 0, 0, []), (116, 1, 3, 0, 0, 0, []), (117, 3, 30, 0, 11, 16, []), (120, 1, 70, 0, 0, 0, []), (121, 1, 3, 0, 0, 0, []), (122, 1, 0, (-1), 0, 0, []), (123, 3, 50, 0, 139, 1, [11, 0, 0]), (126, 1, 70, 0, 0, 0, [])]
/-- CodeExchange.answer(I)I -/
def tk_139 : mK := [(0, 1, 2, 0, 1, 0, []), (1, 3, 20, 0, 14, 3, []), (4, 1, 3, 0, 0, 0, []), (5, 1, 17, 0, 0, 0, []), (6, 3, 30, 0, 11, 16, []), (9, 1, 0, 1, 0, 0, []), (10, 1, 9, 0, 0, 0, []), (11, 3, 31, 0, 11, 16, []), (14, 1, 2, 0, 1, 0, []), (15, 1, 70, 0, 0, 0, [])]
/-- CodeExchange.isHalf(I)Z -/
def tk_140 : mK := [(0, 1, 2, 0, 0, 0, []), (1, 3, 0, 55296, 0, 0, []), (4, 3, 21, 0, 18, 2, []), (7, 1, 2, 0, 0, 0, []), (8, 3, 0, 57343, 0, 0, []), (11, 3, 21, 0, 18, 4, []), (14, 1, 0, 1, 0, 0, []), (15, 3, 22, 0, 19, 0, []), (18, 1, 0, 0, 0, 0, []), (19, 1, 70, 0, 1, 0, [])]
/-- CodeExchange.isHighHalf(I)Z -/
def tk_141 : mK := [(0, 1, 2, 0, 0, 0, []), (1, 3, 0, 55296, 0, 0, []), (4, 3, 21, 0, 18, 2, []), (7, 1, 2, 0, 0, 0, []), (8, 3, 0, 56320, 0, 0, []), (11, 3, 21, 0, 18, 3, []), (14, 1, 0, 1, 0, 0, []), (15, 3, 22, 0, 19, 0, []), (18, 1, 0, 0, 0, 0, []), (19, 1, 70, 0, 1, 0, [])]
/-- CodeExchange.isLowHalf(I)Z -/
def tk_142 : mK := [(0, 1, 2, 0, 0, 0, []), (1, 3, 0, 56320, 0, 0, []), (4, 3, 21, 0, 18, 2, []), (7, 1, 2, 0, 0, 0, []), (8, 3, 0, 57343, 0, 0, []), (11, 3, 21, 0, 18, 4, []), (14, 1, 0, 1, 0, 0, []), (15, 3, 22, 0, 19, 0, []), (18, 1, 0, 0, 0, 0, []), (19, 1, 70, 0, 1, 0, [])]
/-- CodeExchange.joined(II)I -/
def tk_143 : mK := [(0, 3, 0, 65536, 0, 0, []), (3, 1, 2, 0, 0, 0, []), (4, 3, 0, 55296, 0, 0, []), (7, 1, 9, 0, 0, 1, []), (8, 3, 0, 1024, 0, 0, []), (11, 1, 9, 0, 0, 2, []), (12, 1, 9, 0, 0, 0, []), (13, 1, 2, 0, 1, 0, []), (14, 3, 0, 56320, 0, 0, []), (17, 1, 9, 0, 0, 1, []), (18, 1, 9, 0, 0, 0, []), (19, 1, 70, 0, 0, 0, [])]
/-- CodeExchange.lowHalvesOf(I)I -/
def tk_144 : mK := [(0, 1, 2, 0, 0, 0, []), (1, 3, 0, 65536, 0, 0, []), (4, 3, 21, 0, 11, 3, []), (7, 1, 0, 0, 0, 0, []), (8, 3, 22, 0, 12, 0, []), (11, 1, 0, 1, 0, 0, []), (12, 1, 70, 0, 0, 0, [])]
/-- CodeExchange.isPoint(I)Z -/
def tk_145 : mK := [(0, 1, 2, 0, 0, 0, []), (1, 3, 20, 0, 22, 2, []), (4, 1, 2, 0, 0, 0, []), (5, 3, 0, 1114111, 0, 0, []), (8, 3, 21, 0, 22, 4, []), (11, 1, 2, 0, 0, 0, []), (12, 3, 51, 0, 140, 1, [11, 0, 0]), (15, 3, 20, 0, 22, 1, []), (18, 1, 0, 1, 0, 0, []), (19, 3, 22, 0, 23, 0, []), (22, 1, 0, 0, 0, 0, []), (23, 1, 70, 0, 1, 0, [])]
/-- CodeExchange.isByte(I)Z -/
def tk_146 : mK := [(0, 1, 2, 0, 0, 0, []), (1, 3, 20, 0, 15, 2, []), (4, 1, 2, 0, 0, 0, []), (5, 3, 0, 255, 0, 0, []), (8, 3, 21, 0, 15, 4, []), (11, 1, 0, 1, 0, 0, []), (12, 3, 22, 0, 16, 0, []), (15, 1, 0, 0, 0, 0, []), (16, 1, 70, 0, 1, 0, [])]
/-- CodeExchange.isState(I)Z -/
def tk_147 : mK := [(0, 1, 2, 0, 0, 0, []), (1, 3, 20, 0, 13, 2, []), (4, 1, 2, 0, 0, 0, []), (5, 1, 0, 4, 0, 0, []), (6, 3, 21, 0, 13, 3, []), (9, 1, 0, 1, 0, 0, []), (10, 3, 22, 0, 14, 0, []), (13, 1, 0, 0, 0, 0, []), (14, 1, 70, 0, 1, 0, [])]
/-- CodeExchange.isText(III)Z -/
def tk_148 : mK := [(0, 1, 2, 0, 0, 0, []), (1, 3, 51, 0, 147, 1, [11, 0, 0]), (4, 3, 20, 0, 35, 0, []), (7, 1, 2, 0, 2, 0, []), (8, 1, 0, 1, 0, 0, []), (9, 3, 21, 0, 35, 2, []), (12, 1, 2, 0, 2, 0, []), (13, 1, 0, 3, 0, 0, []), (14, 3, 21, 0, 35, 4, []), (17, 1, 2, 0, 1, 0, []), (18, 3, 20, 0, 35, 2, []), (21, 1, 2, 0, 1, 0, []), (22, 1, 0, 1, 0, 0, []), (23, 2, 0, 8, 0, 0, []), (25, 1, 2, 0, 2, 0, []), (26, 1, 9, 0, 0, 2, []), (27, 1, 9, 0, 0, 6, []), (28, 3, 21, 0, 35, 3, []), (31, 1, 0, 1, 0, 0, []), (32, 3, 22, 0, 36, 0, []), (35, 1, 0, 0, 0, 0, []), (36, 1, 70, 0, 1, 0, [])]
/-- CodeExchange.isReadRule(I)Z -/
def tk_149 : mK := [(0, 1, 2, 0, 0, 0, []), (1, 3, 20, 0, 13, 2, []), (4, 1, 2, 0, 0, 0, []), (5, 1, 0, 3, 0, 0, []), (6, 3, 21, 0, 13, 4, []), (9, 1, 0, 1, 0, 0, []), (10, 3, 22, 0, 14, 0, []), (13, 1, 0, 0, 0, 0, []), (14, 1, 70, 0, 1, 0, [])]
/-- CodeExchange.isWriteRule(I)Z -/
def tk_150 : mK := [(0, 1, 2, 0, 0, 0, []), (1, 3, 20, 0, 13, 2, []), (4, 1, 2, 0, 0, 0, []), (5, 1, 0, 4, 0, 0, []), (6, 3, 21, 0, 13, 4, []), (9, 1, 0, 1, 0, 0, []), (10, 3, 22, 0, 14, 0, []), (13, 1, 0, 0, 0, 0, []), (14, 1, 70, 0, 1, 0, [])]
/-- CodeExchange.isMachine(I)Z -/
def tk_151 : mK := [(0, 1, 2, 0, 0, 0, []), (1, 3, 20, 0, 13, 2, []), (4, 1, 2, 0, 0, 0, []), (5, 1, 0, 4, 0, 0, []), (6, 3, 21, 0, 13, 3, []), (9, 1, 0, 1, 0, 0, []), (10, 3, 22, 0, 14, 0, []), (13, 1, 0, 0, 0, 0, []), (14, 1, 70, 0, 1, 0, [])]
/-- CodeExchange.isPage(I)Z -/
def tk_152 : mK := [(0, 1, 2, 0, 1, 0, []), (1, 3, 20, 0, 16, 2, []), (4, 1, 2, 0, 1, 0, []), (5, 1, 3, 0, 0, 0, []), (6, 3, 30, 0, 11, 1, []), (9, 3, 21, 0, 16, 3, []), (12, 1, 0, 1, 0, 0, []), (13, 3, 22, 0, 17, 0, []), (16, 1, 0, 0, 0, 0, []), (17, 1, 70, 0, 1, 0, [])]
/-- CodeExchange.addPage(LCodeExchange$Page;)I -/
def tk_153 : mK := [(0, 1, 3, 0, 0, 0, []), (1, 3, 30, 0, 11, 1, []), (4, 1, 5, 0, 2, 0, []), (5, 1, 3, 0, 0, 0, []), (6, 3, 30, 0, 11, 0, []), (9, 1, 2, 0, 2, 0, []), (10, 1, 3, 0, 1, 0, []), (11, 1, 38, 0, 0, 0, []), (12, 1, 3, 0, 0, 0, []), (13, 1, 17, 0, 0, 0, []), (14, 3, 30, 0, 11, 1, []), (17, 1, 0, 1, 0, 0, []), (18, 1, 9, 0, 0, 0, []), (19, 3, 31, 0, 11, 1, []), (22, 1, 2, 0, 2, 0, []), (23, 1, 70, 0, 0, 0, [])]
/-- CodeExchange.tableFinding(I)I -/
def tk_154 : mK := [(0, 1, 3, 0, 0, 0, []), (1, 1, 2, 0, 1, 0, []), (2, 3, 50, 0, 152, 1, [11, 0, 0]), (5, 3, 20, 0, 10, 1, []), (8, 1, 0, (-1), 0, 0, []), (9, 1, 70, 0, 0, 0, []), (10, 1, 3, 0, 0, 0, []), (11, 3, 30, 0, 11, 0, []), (14, 1, 2, 0, 1, 0, []), (15, 1, 35, 0, 0, 0, []), (16, 3, 30, 0, 4, 0, []), (19, 3, 20, 0, 26, 1, []), (22, 1, 0, 0, 0, 0, []), (23, 3, 22, 0, 28, 0, []), (26, 2, 0, (-3), 0, 0, []), (28, 1, 70, 0, 0, 0, [])]
/-- CodeExchange.openTableFinding(I)I -/
def tk_155 : mK := [(0, 1, 3, 0, 0, 0, []), (1, 1, 2, 0, 1, 0, []), (2, 3, 50, 0, 154, 1, [11, 0, 0]), (5, 1, 5, 0, 2, 0, []), (6, 1, 2, 0, 2, 0, []), (7, 3, 20, 0, 25, 1, []), (10, 1, 3, 0, 0, 0, []), (11, 3, 30, 0, 11, 0, []), (14, 1, 2, 0, 1, 0, []), (15, 1, 35, 0, 0, 0, []), (16, 3, 30, 0, 4, 1, []), (19, 3, 20, 0, 25, 0, []), (22, 2, 0, (-4), 0, 0, []), (24, 1, 70, 0, 0, 0, []), (25, 1, 2, 0, 2, 0, []), (26, 1, 70, 0, 0, 0, [])]
/-- CodeExchange.closedFinding(I)I -/
def tk_156 : mK := [(0, 1, 3, 0, 0, 0, []), (1, 1, 2, 0, 1, 0, []), (2, 3, 50, 0, 152, 1, [11, 0, 0]), (5, 3, 20, 0, 10, 1, []), (8, 1, 0, (-1), 0, 0, []), (9, 1, 70, 0, 0, 0, []), (10, 1, 3, 0, 0, 0, []), (11, 3, 30, 0, 11, 0, []), (14, 1, 2, 0, 1, 0, []), (15, 1, 35, 0, 0, 0, []), (16, 3, 30, 0, 4, 1, []), (19, 3, 20, 0, 26, 0, []), (22, 1, 0, 0, 0, 0, []), (23, 3, 22, 0, 28, 0, []), (26, 2, 0, (-5), 0, 0, []), (28, 1, 70, 0, 0, 0, [])]
/-- CodeExchange.bothClosedFinding(II)I -/
def tk_157 : mK := [(0, 1, 3, 0, 0, 0, []), (1, 1, 2, 0, 1, 0, []), (2, 3, 50, 0, 152, 1, [11, 0, 0]), (5, 3, 20, 0, 16, 0, []), (8, 1, 3, 0, 0, 0, []), (9, 1, 2, 0, 2, 0, []), (10, 3, 50, 0, 152, 1, [11, 0, 0]), (13, 3, 20, 0, 18, 1, []), (16, 1, 0, (-1), 0, 0, []), (17, 1, 70, 0, 0, 0, []), (18, 1, 3, 0, 0, 0, []), (19, 3, 30, 0, 11, 0, []), (22, 1, 2, 0, 1, 0, []), (23, 1, 35, 0, 0, 0, []), (24, 3, 30, 0, 4, 1, []), (27, 3, 20, 0, 46, 0, []), (30, 1, 3, 0, 0, 0, []), (31, 3, 30, 0, 11, 0, []), (34, 1, 2, 0, 2, 0, []), (35, 1, 35, 0, 0, 0, []), (36, 3, 30, 0, 4, 1, []), (39, 3, 20, 0, 46, 0, []), (42, 1, 0, 0, 0, 0, []), (43, 3, 22, 0, 48, 0, []), (46, 2, 0, (-5), 0, 0, []), (48, 1, 70, 0, 0, 0, [])]
/-- CodeExchange.goingFinding(I)I -/
def tk_158 : mK := [(0, 1, 2, 0, 1, 0, []), (1, 3, 51, 0, 151, 1, [11, 0, 0]), (4, 3, 20, 0, 9, 1, []), (7, 1, 0, (-1), 0, 0, []), (8, 1, 70, 0, 0, 0, []), (9, 1, 3, 0, 0, 0, []), (10, 3, 30, 0, 11, 12, []), (13, 1, 2, 0, 1, 0, []), (14, 1, 35, 0, 0, 0, []), (15, 3, 30, 0, 3, 3, []), (18, 3, 20, 0, 25, 1, []), (21, 1, 0, 0, 0, 0, []), (22, 3, 22, 0, 27, 0, []), (25, 2, 0, (-2), 0, 0, []), (27, 1, 70, 0, 0, 0, [])]
/-- CodeExchange.emptied(LCodeExchange$Row;)I -/
def tk_159 : mK := [(0, 1, 3, 0, 0, 0, []), (1, 3, 30, 0, 7, 1, []), (4, 1, 5, 0, 1, 0, []), (5, 1, 3, 0, 0, 0, []), (6, 3, 50, 0, 71, 0, [7, 0, 0]), (9, 1, 2, 0, 1, 0, []), (10, 1, 70, 0, 0, 0, [])]
/-- CodeExchange.resultTo(LCodeExchange$Row;I)I -/
def tk_160 : mK := [(0, 1, 3, 0, 0, 0, []), (1, 3, 30, 0, 11, 6, []), (4, 1, 2, 0, 2, 0, []), (5, 3, 21, 0, 11, 0, []), (8, 2, 0, (-2), 0, 0, []), (10, 1, 70, 0, 0, 0, []), (11, 1, 3, 0, 0, 0, []), (12, 3, 30, 0, 11, 5, []), (15, 3, 30, 0, 7, 1, []), (18, 3, 0, 1000, 0, 0, []), (21, 3, 21, 0, 27, 5, []), (24, 2, 0, (-6), 0, 0, []), (26, 1, 70, 0, 0, 0, []), (27, 1, 3, 0, 1, 0, []), (28, 3, 50, 0, 71, 0, [7, 0, 0]), (31, 1, 3, 0, 1, 0, []), (32, 1, 3, 0, 0, 0, []), (33, 3, 30, 0, 11, 5, []), (36, 3, 50, 0, 73, 1, [7, 0, 0]), (39, 1, 18, 0, 0, 0, []), (40, 1, 3, 0, 1, 0, []), (41, 3, 30, 0, 7, 1, []), (44, 1, 70, 0, 0, 0, [])]
/-- CodeExchange.keepWork(II)I -/
def tk_161 : mK := [(0, 1, 2, 0, 1, 0, []), (1, 3, 20, 0, 27, 2, []), (4, 1, 3, 0, 0, 0, []), (5, 3, 30, 0, 11, 5, []), (8, 1, 6, 0, 3, 0, []), (9, 1, 3, 0, 0, 0, []), (10, 1, 3, 0, 0, 0, []), (11, 3, 30, 0, 11, 7, []), (14, 3, 31, 0, 11, 5, []), (17, 1, 3, 0, 0, 0, []), (18, 1, 3, 0, 3, 0, []), (19, 3, 31, 0, 11, 7, []), (22, 1, 3, 0, 0, 0, []), (23, 1, 2, 0, 2, 0, []), (24, 3, 31, 0, 11, 6, []), (27, 1, 2, 0, 1, 0, []), (28, 1, 70, 0, 0, 0, [])]
/-- CodeExchange.readAll(LCodeExchange$Page;ILCodeExchange$Row;)I -/
def tk_162 : mK := [(0, 1, 3, 0, 3, 0, []), (1, 3, 50, 0, 71, 0, [7, 0, 0]), (4, 1, 3, 0, 0, 0, []), (5, 3, 30, 0, 11, 10, []), (8, 1, 3, 0, 1, 0, []), (9, 1, 2, 0, 2, 0, []), (10, 3, 50, 0, 59, 2, [5, 0, 0]), (13, 1, 0, 0, 0, 0, []), (14, 2, 5, 0, 4, 0, []), (16, 2, 2, 0, 4, 0, []), (18, 1, 3, 0, 0, 0, []), (19, 3, 30, 0, 11, 3, []), (22, 3, 30, 0, 7, 1, []), (25, 3, 21, 0, 80, 3, []), (28, 1, 3, 0, 0, 0, []), (29, 3, 30, 0, 11, 10, []), (32, 1, 3, 0, 0, 0, []), (33, 3, 30, 0, 11, 3, []), (36, 3, 30, 0, 7, 0, []), (39, 2, 2, 0, 4, 0, []), (41, 1, 3, 0, 0, 0, []), (42, 3, 30, 0, 11, 3, []), (45, 3, 30, 0, 7, 1, []), (48, 1, 0, 1, 0, 0, []), (49, 1, 3, 0, 3, 0, []), (50, 3, 50, 0, 60, 5, [5, 0, 0]), (53, 2, 5, 0, 5, 0, []), (55, 2, 2, 0, 5, 0, []), (57, 1, 0, 1, 0, 0, []), (58, 3, 21, 0, 70, 3, []), (61, 1, 3, 0, 0, 0, []), (62, 2, 2, 0, 4, 0, []), (64, 3, 31, 0, 11, 13, []), (67, 2, 0, (-9), 0, 0, []), (69, 1, 70, 0, 0, 0, []), (70, 2, 2, 0, 4, 0, []), (72, 2, 2, 0, 5, 0, []), (74, 1, 9, 0, 0, 0, []), (75, 2, 5, 0, 4, 0, []), (77, 3, 22, 0, 16, 0, []), (80, 1, 3, 0, 3, 0, []), (81, 3, 30, 0, 7, 1, []), (84, 1, 70, 0, 0, 0, [])]
/-- CodeExchange.malformedBytes(LCodeExchange$Page;)I -/
def tk_163 : mK := [(0, 1, 3, 0, 0, 0, []), (1, 1, 3, 0, 1, 0, []), (2, 1, 0, 2, 0, 0, []), (3, 1, 3, 0, 0, 0, []), (4, 3, 30, 0, 11, 7, []), (7, 3, 50, 0, 162, 3, [11, 0, 0]), (10, 1, 18, 0, 0, 0, []), (11, 1, 3, 0, 0, 0, []), (12, 3, 30, 0, 11, 10, []), (15, 3, 30, 0, 5, 6, []), (18, 1, 70, 0, 0, 0, [])]
/-- CodeExchange.writeAll(LCodeExchange$Row;)I -/
def tk_164 : mK := [(0, 1, 3, 0, 0, 0, []), (1, 3, 30, 0, 11, 7, []), (4, 3, 50, 0, 71, 0, [7, 0, 0]), (7, 1, 0, 0, 0, 0, []), (8, 1, 5, 0, 2, 0, []), (9, 1, 2, 0, 2, 0, []), (10, 1, 3, 0, 1, 0, []), (11, 3, 30, 0, 7, 1, []), (14, 3, 21, 0, 81, 3, []), (17, 1, 3, 0, 1, 0, []), (18, 1, 2, 0, 2, 0, []), (19, 3, 50, 0, 78, 1, [7, 0, 0]), (22, 1, 5, 0, 3, 0, []), (23, 1, 3, 0, 0, 0, []), (24, 3, 30, 0, 11, 11, []), (27, 1, 2, 0, 3, 0, []), (28, 1, 3, 0, 1, 0, []), (29, 3, 30, 0, 7, 0, []), (32, 1, 2, 0, 2, 0, []), (33, 1, 33, 0, 0, 0, []), (34, 3, 50, 0, 102, 2, [10, 0, 0]), (37, 3, 20, 0, 48, 1, []), (40, 1, 3, 0, 0, 0, []), (41, 1, 2, 0, 2, 0, []), (42, 3, 31, 0, 11, 13, []), (45, 2, 0, (-10), 0, 0, []), (47, 1, 70, 0, 0, 0, []), (48, 1, 3, 0, 0, 0, []), (49, 3, 30, 0, 11, 7, []), (52, 1, 3, 0, 0, 0, []), (53, 3, 30, 0, 11, 11, []), (56, 3, 30, 0, 10, 1, []), (59, 3, 50, 0, 73, 1, [7, 0, 0]), (62, 3, 20, 0, 68, 1, []), (65, 2, 0, (-6), 0, 0, []), (67, 1, 70, 0, 0, 0, []), (68, 1, 2, 0, 2, 0, []), (69, 1, 2, 0, 3, 0, []), (70, 3, 51, 0, 144, 1, [11, 0, 0]), (73, 1, 9, 0, 0, 0, []), (74, 1, 5, 0, 2, 0, []), (75, 3, 8, 1, 2, 0, []), (78, 3, 22, 0, 9, 0, []), (81, 1, 3, 0, 0, 0, []), (82, 3, 30, 0, 11, 11, []), (85, 3, 50, 0, 103, 0, [10, 0, 0]), (88, 1, 3, 0, 0, 0, []), (89, 3, 30, 0, 11, 7, []), (92, 1, 3, 0, 0, 0, []), (93, 3, 30, 0, 11, 11, []), (96, 3, 30, 0, 10, 1, []), (99, 3, 50, 0, 73, 1, [7, 0, 0]), (102, 3, 20, 0, 115, 0, []), (105, 1, 3, 0, 0, 0, []), (106, 3, 30, 0, 11, 7, []), (109, 3, 30, 0, 7, 1, []), (112, 3, 22, 0, 117, 0, []), (115, 2, 0, (-6), 0, 0, []), (117, 1, 70, 0, 0, 0, [])]
/-- CodeExchange.writtenLength(LCodeExchange$Page;I)I -/
def tk_165 : mK := [(0, 1, 3, 0, 0, 0, []), (1, 3, 30, 0, 11, 11, []), (4, 1, 3, 0, 1, 0, []), (5, 1, 0, 0, 0, 0, []), (6, 1, 2, 0, 2, 0, []), (7, 3, 50, 0, 101, 3, [10, 0, 0]), (10, 1, 0, 0, 0, 0, []), (11, 1, 5, 0, 3, 0, []), (12, 1, 0, 0, 0, 0, []), (13, 2, 5, 0, 4, 0, []), (15, 2, 2, 0, 4, 0, []), (17, 1, 3, 0, 0, 0, []), (18, 3, 30, 0, 11, 4, []), (21, 3, 30, 0, 7, 1, []), (24, 3, 21, 0, 98, 3, []), (27, 1, 3, 0, 0, 0, []), (28, 3, 30, 0, 11, 4, []), (31, 2, 2, 0, 4, 0, []), (33, 3, 50, 0, 78, 1, [7, 0, 0]), (36, 2, 5, 0, 5, 0, []), (38, 1, 3, 0, 0, 0, []), (39, 3, 30, 0, 11, 11, []), (42, 2, 2, 0, 5, 0, []), (44, 1, 3, 0, 0, 0, []), (45, 3, 30, 0, 11, 4, []), (48, 3, 30, 0, 7, 0, []), (51, 2, 2, 0, 4, 0, []), (53, 1, 33, 0, 0, 0, []), (54, 3, 50, 0, 102, 2, [10, 0, 0]), (57, 3, 20, 0, 69, 1, []), (60, 1, 3, 0, 0, 0, []), (61, 2, 2, 0, 4, 0, []), (63, 3, 31, 0, 11, 13, []), (66, 2, 0, (-10), 0, 0, []), (68, 1, 70, 0, 0, 0, []), (69, 1, 2, 0, 3, 0, []), (70, 1, 3, 0, 0, 0, []), (71, 3, 30, 0, 11, 11, []), (74, 3, 30, 0, 10, 1, []), (77, 3, 30, 0, 7, 1, []), (80, 1, 9, 0, 0, 0, []), (81, 1, 5, 0, 3, 0, []), (82, 2, 2, 0, 4, 0, []), (84, 2, 2, 0, 5, 0, []), (86, 3, 51, 0, 144, 1, [11, 0, 0]), (89, 1, 9, 0, 0, 0, []), (90, 2, 5, 0, 4, 0, []), (92, 3, 8, 1, 4, 0, []), (95, 3, 22, 0, 15, 0, []), (98, 1, 3, 0, 0, 0, []), (99, 3, 30, 0, 11, 11, []), (102, 3, 50, 0, 103, 0, [10, 0, 0]), (105, 1, 2, 0, 3, 0, []), (106, 1, 3, 0, 0, 0, []), (107, 3, 30, 0, 11, 11, []), (110, 3, 30, 0, 10, 1, []), (113, 3, 30, 0, 7, 1, []), (116, 1, 9, 0, 0, 0, []), (117, 1, 70, 0, 0, 0, [])]
/-- CodeExchange.writtenApart(LCodeExchange$Page;LCodeExchange$Page;I)Z -/
def tk_166 : mK := [(0, 1, 3, 0, 0, 0, []), (1, 1, 3, 0, 1, 0, []), (2, 1, 2, 0, 3, 0, []), (3, 1, 3, 0, 0, 0, []), (4, 3, 30, 0, 11, 8, []), (7, 3, 50, 0, 167, 3, [11, 0, 0]), (10, 2, 5, 0, 4, 0, []), (12, 1, 3, 0, 0, 0, []), (13, 1, 3, 0, 2, 0, []), (14, 1, 2, 0, 3, 0, []), (15, 1, 3, 0, 0, 0, []), (16, 3, 30, 0, 11, 7, []), (19, 3, 50, 0, 167, 3, [11, 0, 0]), (22, 2, 5, 0, 5, 0, []), (24, 2, 2, 0, 4, 0, []), (26, 2, 2, 0, 5, 0, []), (28, 3, 21, 0, 45, 1, []), (31, 1, 3, 0, 0, 0, []), (32, 3, 30, 0, 11, 8, []), (35, 1, 3, 0, 0, 0, []), (36, 3, 30, 0, 11, 7, []), (39, 3, 50, 0, 79, 1, [7, 0, 0]), (42, 3, 20, 0, 49, 1, []), (45, 1, 0, 1, 0, 0, []), (46, 3, 22, 0, 50, 0, []), (49, 1, 0, 0, 0, 0, []), (50, 1, 70, 0, 1, 0, [])]
/-- CodeExchange.writeAlone(LCodeExchange$Page;ILCodeExchange$Row;)Z -/
def tk_167 : mK := [(0, 1, 3, 0, 3, 0, []), (1, 3, 50, 0, 71, 0, [7, 0, 0]), (4, 1, 3, 0, 0, 0, []), (5, 3, 30, 0, 11, 11, []), (8, 1, 3, 0, 1, 0, []), (9, 1, 0, 0, 0, 0, []), (10, 1, 0, 0, 0, 0, []), (11, 3, 50, 0, 101, 3, [10, 0, 0]), (14, 1, 3, 0, 0, 0, []), (15, 3, 30, 0, 11, 11, []), (18, 1, 2, 0, 2, 0, []), (19, 1, 2, 0, 2, 0, []), (20, 3, 50, 0, 102, 2, [10, 0, 0]), (23, 3, 20, 0, 28, 1, []), (26, 1, 0, 0, 0, 0, []), (27, 1, 70, 0, 1, 0, []), (28, 1, 3, 0, 3, 0, []), (29, 1, 3, 0, 0, 0, []), (30, 3, 30, 0, 11, 11, []), (33, 3, 30, 0, 10, 1, []), (36, 3, 50, 0, 73, 1, [7, 0, 0]), (39, 1, 18, 0, 0, 0, []), (40, 1, 3, 0, 0, 0, []), (41, 3, 30, 0, 11, 11, []), (44, 3, 50, 0, 103, 0, [10, 0, 0]), (47, 1, 3, 0, 3, 0, []), (48, 1, 3, 0, 0, 0, []), (49, 3, 30, 0, 11, 11, []), (52, 3, 30, 0, 10, 1, []), (55, 3, 50, 0, 73, 1, [7, 0, 0]), (58, 1, 18, 0, 0, 0, []), (59, 1, 0, 1, 0, 0, []), (60, 1, 70, 0, 1, 0, [])]
/-- CodeExchange.fedAnswer(LCodeExchange$Machine;I)I -/
def tk_168 : mK := [(0, 1, 2, 0, 2, 0, []), (1, 3, 20, 0, 12, 3, []), (4, 1, 3, 0, 0, 0, []), (5, 1, 3, 0, 1, 0, []), (6, 3, 30, 0, 3, 7, []), (9, 3, 31, 0, 11, 13, []), (12, 1, 3, 0, 0, 0, []), (13, 1, 2, 0, 2, 0, []), (14, 3, 50, 0, 139, 1, [11, 0, 0]), (17, 1, 70, 0, 0, 0, [])]
/-- CodeExchange.unitsAreParts()Z -/
def tk_169 : mK := [(0, 1, 3, 0, 0, 0, []), (1, 3, 30, 0, 11, 8, []), (4, 3, 50, 0, 71, 0, [7, 0, 0]), (7, 1, 0, 0, 0, 0, []), (8, 1, 5, 0, 1, 0, []), (9, 1, 2, 0, 1, 0, []), (10, 1, 3, 0, 0, 0, []), (11, 3, 30, 0, 11, 4, []), (14, 3, 30, 0, 7, 1, []), (17, 3, 21, 0, 69, 3, []), (20, 1, 3, 0, 0, 0, []), (21, 3, 30, 0, 11, 4, []), (24, 1, 2, 0, 1, 0, []), (25, 3, 50, 0, 78, 1, [7, 0, 0]), (28, 1, 5, 0, 2, 0, []), (29, 1, 2, 0, 2, 0, []), (30, 1, 0, (-1), 0, 0, []), (31, 3, 21, 0, 45, 0, []), (34, 1, 3, 0, 0, 0, []), (35, 3, 30, 0, 11, 8, []), (38, 3, 30, 0, 7, 1, []), (41, 1, 0, 4, 0, 0, []), (42, 3, 21, 0, 47, 2, []), (45, 1, 0, 0, 0, 0, []), (46, 1, 70, 0, 1, 0, []), (47, 1, 3, 0, 0, 0, []), (48, 3, 30, 0, 11, 8, []), (51, 1, 2, 0, 2, 0, []), (52, 3, 50, 0, 72, 1, [7, 0, 0]), (55, 1, 18, 0, 0, 0, []), (56, 1, 2, 0, 1, 0, []), (57, 1, 2, 0, 2, 0, []), (58, 3, 51, 0, 144, 1, [11, 0, 0]), (61, 1, 9, 0, 0, 0, []), (62, 1, 5, 0, 1, 0, []), (63, 3, 8, 1, 1, 0, []), (66, 3, 22, 0, 9, 0, []), (69, 1, 0, 1, 0, 0, []), (70, 1, 70, 0, 1, 0, [])]
/-- CodeExchange.checkSum(LCodeExchange$Row;I)I -/
def tk_170 : mK := [(0, 1, 0, 0, 0, 0, []), (1, 1, 5, 0, 2, 0, []), (2, 1, 0, 0, 0, 0, []), (3, 1, 5, 0, 3, 0, []), (4, 1, 2, 0, 3, 0, []), (5, 1, 2, 0, 1, 0, []), (6, 3, 21, 0, 40, 3, []), (9, 1, 2, 0, 3, 0, []), (10, 1, 3, 0, 0, 0, []), (11, 3, 30, 0, 7, 1, []), (14, 3, 21, 0, 40, 3, []), (17, 1, 2, 0, 2, 0, []), (18, 1, 2, 0, 3, 0, []), (19, 1, 0, 1, 0, 0, []), (20, 1, 9, 0, 0, 0, []), (21, 1, 3, 0, 0, 0, []), (22, 3, 30, 0, 7, 0, []), (25, 1, 2, 0, 3, 0, []), (26, 1, 33, 0, 0, 0, []), (27, 1, 9, 0, 0, 2, []), (28, 1, 9, 0, 0, 0, []), (29, 3, 0, 65521, 0, 0, []), (32, 1, 11, 0, 0, 0, []), (33, 1, 5, 0, 2, 0, []), (34, 3, 8, 1, 3, 0, []), (37, 3, 22, 0, 4, 0, []), (40, 1, 2, 0, 2, 0, []), (41, 1, 70, 0, 0, 0, [])]
/-- CodeExchangeModel.<init>()V -/
def tk_171_0 : mK := [(0, 1, 3, 0, 0, 0, []), (1, 3, 53, 0, 0, 0, []), (4, 1, 3, 0, 0, 0, []), (5, 2, 0, 11, 0, 0, []), (7, 2, 40, 0, 0, 0, []), (9, 3, 31, 0, 12, 1, []), (12, 1, 3, 0, 0, 0, []), (13, 2, 0, 11, 0, 0, []), (15, 2, 40, 0, 0, 1, []), (17, 3, 31, 0, 12, 2, []), (20, 1, 3, 0, 0, 0, []), (21, 2, 0, 11, 0, 0, []), (23, 2, 40, 0, 0, 0, []), (25, 3, 31, 0, 12, 3, []), (28, 1, 3, 0, 0, 0, []), (29, 2, 0, 11, 0, 0, []), (31, 2, 40, 0, 0, 0, []), (33, 3, 31, 0, 12, 4, []), (36, 1, 3, 0, 0, 0, []), (37, 3, 0, 1100, 0, 0, []), (40, 2, 40, 0, 0, 0, []), (42, 3, 31, 0, 12, 5, []), (45, 1, 3, 0, 0, 0, []), (46, 3, 0, 1100, 0, 0, []), (49, 2, 40, 0, 0, 0, []), (51, 3, 31, 0, 12, 6, []), (54, 1, 3, 0, 0, 0, []), (55, 3, 0, 1100, 0, 0, []), (58, 2, 40, 0, 0, 0, []), (60, 3, 31, 0, 12, 7, []), (63, 1, 3, 0, 0, 0, []), (64, 3, 0, 1100, 0, 0, []), (67, 2, 40, 0, 0, 0, []), (69, 3, 31, 0, 12, 8, []), (72, 1, 3, 0, 0, 0, []), (73, 3, 0, 1100, 0, 0, []), (76, 2, 40, 0, 0, 1, []), (78, 3, 31, 0, 12, 9, []), (81, 1, 3, 0, 0, 0, []), (82, 2, 0, 110, 0, 0, []), (84, 2, 40, 0, 0, 0, []), (86, 3, 31, 0, 12, 10, []), (89, 1, 3, 0, 0, 0, []), (90, 2, 0, 110, 0, 0, []), (92, 2, 40, 0, 0, 0, []), (94, 3, 31, 0, 12, 11, []), (97, 1, 3, 0, 0, 0, []), (98, 2, 0, 110, 0, 0, []), (100, 2, 40, 0, 0, 0, []), (102, 3, 31, 0, 12, 12, []), (105, 1, 3, 0, 0, 0, []), (106, 2, 0, 110, 0, 0, []), (108, 2, 40, 0, 0, 1, []), (110, 3, 31, 0, 12, 13, []), (113, 1, 3, 0, 0, 0, []), (114, 3, 0, 1000, 0, 0, []), (117, 2, 40, 0, 0, 0, []), (119, 3, 31, 0, 12, 15, []), (122, 1, 3, 0, 0, 0, []), (123, 3, 0, 1000, 0, 0, []), (126, 2, 40, 0, 0, 0, []), (128, 3, 31, 0, 12, 17, []), (131, 1, 3, 0, 0, 0, []), (132, 3, 0, 6000, 0, 0, []), (135, 2, 40, 0, 0, 0, []), (137, 3, 31, 0, 12, 20, []), (140, 1, 3, 0, 0, 0, []), (141, 1, 0, 2, 0, 0, []), (142, 2, 40, 0, 0, 0, []), (144, 1, 17, 0, 0, 0, []), (145, 1, 0, 0, 0, 0, []), (146, 2, 0, 65533, 0, 0, []), (148, 1, 36, 0, 0, 0, []), (149, 1, 17, 0, 0, 0, []), (150, 1, 0, 1, 0, 0, []), (151, 2, 0, 63, 0, 0, []), (153, 1, 36, 0, 0, 0, []), (154, 3, 31, 0, 12, 21, []), (157, 1, 3, 0, 0, 0, []), (158, 1, 0, 3, 0, 0, []), (159, 2, 40, 0, 0, 0, []), (161, 3, 31, 0, 12, 23, []), (164, 1, 3, 0, 0, 0, []), (165, 2, 0, 40, 0, 0, []), (167, 2, 40, 0, 0, 0, []), (169, 3, 31, 0, 12, 26, []), (172, 1, 3, 0, 0, 0, []), (173, 2, 0, 40, 0, 0, []), (175, 2, 40, 0, 0, 0, []), (177, 3, 31, 0, 12, 27, []), (180, 1, 3, 0, 0, 0, []), (181, 3, 0, 160, 0, 0, []), (184, 2, 40, 0, 0, 0, []), (186, 3, 31, 0, 12, 28, []), (189, 1, 3, 0, 0, 0, []), (190, 1, 0, 4, 0, 0, []), (191, 2, 40, 0, 0, 1, []), (193, 3, 31, 0, 12, 29, []), (196, 1, 3, 0, 0, 0, []), (197, 1, 0, 3, 0, 0, [])]
def tk_171_1 : mK := [(198, 2, 40, 0, 0, 0, []), (200, 3, 31, 0, 12, 30, []), (203, 1, 3, 0, 0, 0, []), (204, 1, 0, 4, 0, 0, []), (205, 2, 40, 0, 0, 0, []), (207, 3, 31, 0, 12, 33, []), (210, 1, 3, 0, 0, 0, []), (211, 3, 0, 4000, 0, 0, []), (214, 2, 40, 0, 0, 0, []), (216, 3, 31, 0, 12, 43, []), (219, 1, 3, 0, 0, 0, []), (220, 3, 0, 4000, 0, 0, []), (223, 2, 40, 0, 0, 0, []), (225, 3, 31, 0, 12, 44, []), (228, 1, 3, 0, 0, 0, []), (229, 3, 0, 6400, 0, 0, []), (232, 2, 40, 0, 0, 0, []), (234, 3, 31, 0, 12, 45, []), (237, 1, 3, 0, 0, 0, []), (238, 2, 0, 8, 0, 0, []), (240, 2, 40, 0, 0, 0, []), (242, 3, 31, 0, 12, 46, []), (245, 1, 3, 0, 0, 0, []), (246, 3, 0, 1000, 0, 0, []), (249, 2, 40, 0, 0, 0, []), (251, 3, 31, 0, 12, 49, []), (254, 1, 3, 0, 0, 0, []), (255, 2, 0, 40, 0, 0, []), (257, 2, 40, 0, 0, 0, []), (259, 3, 31, 0, 12, 50, []), (262, 1, 3, 0, 0, 0, []), (263, 2, 0, 40, 0, 0, []), (265, 2, 40, 0, 0, 0, []), (267, 3, 31, 0, 12, 51, []), (270, 1, 3, 0, 0, 0, []), (271, 1, 0, 4, 0, 0, []), (272, 2, 40, 0, 0, 1, []), (274, 3, 31, 0, 12, 52, []), (277, 1, 3, 0, 0, 0, []), (278, 1, 0, 4, 0, 0, []), (279, 2, 40, 0, 0, 0, []), (281, 3, 31, 0, 12, 53, []), (284, 1, 3, 0, 0, 0, []), (285, 1, 0, 4, 0, 0, []), (286, 2, 40, 0, 0, 1, []), (288, 3, 31, 0, 12, 54, []), (291, 1, 3, 0, 0, 0, []), (292, 1, 0, 4, 0, 0, []), (293, 2, 40, 0, 0, 0, []), (295, 3, 31, 0, 12, 55, []), (298, 1, 3, 0, 0, 0, []), (299, 1, 0, 4, 0, 0, []), (300, 2, 40, 0, 0, 0, []), (302, 3, 31, 0, 12, 56, []), (305, 1, 3, 0, 0, 0, []), (306, 1, 0, 4, 0, 0, []), (307, 2, 40, 0, 0, 0, []), (309, 3, 31, 0, 12, 57, []), (312, 1, 3, 0, 0, 0, []), (313, 1, 0, 4, 0, 0, []), (314, 2, 40, 0, 0, 0, []), (316, 3, 31, 0, 12, 58, []), (319, 1, 3, 0, 0, 0, []), (320, 2, 0, 32, 0, 0, []), (322, 2, 40, 0, 0, 0, []), (324, 3, 31, 0, 12, 59, []), (327, 1, 3, 0, 0, 0, []), (328, 1, 0, 4, 0, 0, []), (329, 2, 40, 0, 0, 0, []), (331, 3, 31, 0, 12, 60, []), (334, 1, 3, 0, 0, 0, []), (335, 1, 0, 4, 0, 0, []), (336, 2, 40, 0, 0, 0, []), (338, 3, 31, 0, 12, 61, []), (341, 1, 3, 0, 0, 0, []), (342, 1, 0, 4, 0, 0, []), (343, 2, 40, 0, 0, 0, []), (345, 3, 31, 0, 12, 62, []), (348, 1, 3, 0, 0, 0, []), (349, 3, 0, 4800, 0, 0, []), (352, 2, 40, 0, 0, 0, []), (354, 3, 31, 0, 12, 63, []), (357, 1, 3, 0, 0, 0, []), (358, 2, 0, 8, 0, 0, []), (360, 2, 40, 0, 0, 0, []), (362, 3, 31, 0, 12, 64, []), (365, 1, 3, 0, 0, 0, []), (366, 3, 0, 1200, 0, 0, []), (369, 2, 40, 0, 0, 0, []), (371, 3, 31, 0, 12, 65, []), (374, 1, 3, 0, 0, 0, []), (375, 2, 0, 64, 0, 0, []), (377, 2, 40, 0, 0, 0, []), (379, 3, 31, 0, 12, 66, []), (382, 1, 72, 0, 0, 0, [])]
def tk_171 : mK := tk_171_0 ++ (tk_171_1)
/-- CodeExchangeModel.tell(I)I -/
def tk_172 : mK := [(0, 1, 2, 0, 1, 0, []), (1, 3, 20, 0, 14, 3, []), (4, 1, 3, 0, 0, 0, []), (5, 1, 17, 0, 0, 0, []), (6, 3, 30, 0, 12, 24, []), (9, 1, 0, 1, 0, 0, []), (10, 1, 9, 0, 0, 0, []), (11, 3, 31, 0, 12, 24, []), (14, 1, 2, 0, 1, 0, []), (15, 1, 70, 0, 0, 0, [])]
/-- CodeExchangeModel.in(III)Z -/
def tk_173 : mK := [(0, 1, 2, 0, 0, 0, []), (1, 1, 2, 0, 1, 0, []), (2, 3, 21, 0, 14, 2, []), (5, 1, 2, 0, 0, 0, []), (6, 1, 2, 0, 2, 0, []), (7, 3, 21, 0, 14, 4, []), (10, 1, 0, 1, 0, 0, []), (11, 3, 22, 0, 15, 0, []), (14, 1, 0, 0, 0, 0, []), (15, 1, 70, 0, 1, 0, [])]
/-- CodeExchangeModel.isHigh(I)Z -/
def tk_174 : mK := [(0, 1, 2, 0, 0, 0, []), (1, 2, 0, 55296, 0, 0, []), (3, 2, 0, 56319, 0, 0, []), (5, 3, 51, 0, 173, 3, [12, 0, 0]), (8, 1, 70, 0, 1, 0, [])]
/-- CodeExchangeModel.isLow(I)Z -/
def tk_175 : mK := [(0, 1, 2, 0, 0, 0, []), (1, 2, 0, 56320, 0, 0, []), (3, 2, 0, 57343, 0, 0, []), (5, 3, 51, 0, 173, 3, [12, 0, 0]), (8, 1, 70, 0, 1, 0, [])]
/-- CodeExchangeModel.isPoint(I)Z -/
def tk_176 : mK := [(0, 1, 2, 0, 0, 0, []), (1, 1, 0, 0, 0, 0, []), (2, 2, 0, 1114111, 0, 0, []), (4, 3, 51, 0, 173, 3, [12, 0, 0]), (7, 3, 20, 0, 25, 0, []), (10, 1, 2, 0, 0, 0, []), (11, 2, 0, 55296, 0, 0, []), (13, 2, 0, 57343, 0, 0, []), (15, 3, 51, 0, 173, 3, [12, 0, 0]), (18, 3, 20, 0, 25, 1, []), (21, 1, 0, 1, 0, 0, []), (22, 3, 22, 0, 26, 0, []), (25, 1, 0, 0, 0, 0, []), (26, 1, 70, 0, 1, 0, [])]
/-- CodeExchangeModel.isPage(I)Z -/
def tk_177 : mK := [(0, 1, 2, 0, 1, 0, []), (1, 1, 0, 0, 0, 0, []), (2, 1, 3, 0, 0, 0, []), (3, 3, 30, 0, 12, 0, []), (6, 1, 0, 1, 0, 0, []), (7, 1, 9, 0, 0, 1, []), (8, 3, 51, 0, 173, 3, [12, 0, 0]), (11, 1, 70, 0, 1, 0, [])]
/-- CodeExchangeModel.page(I)I -/
def tk_178 : mK := [(0, 1, 2, 0, 1, 0, []), (1, 1, 0, 0, 0, 0, []), (2, 1, 0, 3, 0, 0, []), (3, 3, 51, 0, 173, 3, [12, 0, 0]), (6, 3, 20, 0, 15, 1, []), (9, 1, 3, 0, 0, 0, []), (10, 1, 0, (-1), 0, 0, []), (11, 3, 50, 0, 172, 1, [12, 0, 0]), (14, 1, 70, 0, 0, 0, []), (15, 1, 3, 0, 0, 0, []), (16, 3, 30, 0, 12, 0, []), (19, 2, 0, 10, 0, 0, []), (21, 3, 21, 0, 31, 1, []), (24, 1, 3, 0, 0, 0, []), (25, 2, 0, (-6), 0, 0, []), (27, 3, 50, 0, 172, 1, [12, 0, 0]), (30, 1, 70, 0, 0, 0, []), (31, 1, 3, 0, 0, 0, []), (32, 3, 30, 0, 12, 1, []), (35, 1, 3, 0, 0, 0, []), (36, 3, 30, 0, 12, 0, []), (39, 1, 2, 0, 1, 0, []), (40, 1, 36, 0, 0, 0, []), (41, 1, 3, 0, 0, 0, []), (42, 3, 30, 0, 12, 2, []), (45, 1, 3, 0, 0, 0, []), (46, 3, 30, 0, 12, 0, []), (49, 1, 2, 0, 1, 0, []), (50, 3, 20, 0, 57, 0, []), (53, 1, 0, 1, 0, 0, []), (54, 3, 22, 0, 58, 0, []), (57, 1, 0, 0, 0, 0, []), (58, 1, 37, 0, 0, 0, []), (59, 1, 3, 0, 0, 0, []), (60, 3, 30, 0, 12, 3, []), (63, 1, 3, 0, 0, 0, []), (64, 3, 30, 0, 12, 0, []), (67, 1, 0, 0, 0, 0, []), (68, 1, 36, 0, 0, 0, []), (69, 1, 3, 0, 0, 0, []), (70, 3, 30, 0, 12, 4, []), (73, 1, 3, 0, 0, 0, []), (74, 3, 30, 0, 12, 0, []), (77, 1, 0, 0, 0, 0, []), (78, 1, 36, 0, 0, 0, []), (79, 1, 3, 0, 0, 0, []), (80, 1, 17, 0, 0, 0, []), (81, 3, 30, 0, 12, 0, []), (84, 1, 0, 1, 0, 0, []), (85, 1, 9, 0, 0, 0, []), (86, 3, 31, 0, 12, 0, []), (89, 1, 3, 0, 0, 0, []), (90, 3, 30, 0, 12, 0, []), (93, 1, 0, 1, 0, 0, []), (94, 1, 9, 0, 0, 1, []), (95, 1, 70, 0, 0, 0, [])]
/-- CodeExchangeModel.copyEntry(II)V -/
def tk_179 : mK := [(0, 1, 3, 0, 0, 0, []), (1, 3, 30, 0, 12, 5, []), (4, 1, 2, 0, 2, 0, []), (5, 1, 3, 0, 0, 0, []), (6, 3, 30, 0, 12, 5, []), (9, 1, 2, 0, 1, 0, []), (10, 1, 33, 0, 0, 0, []), (11, 1, 36, 0, 0, 0, []), (12, 1, 3, 0, 0, 0, []), (13, 3, 30, 0, 12, 6, []), (16, 1, 2, 0, 2, 0, []), (17, 1, 3, 0, 0, 0, []), (18, 3, 30, 0, 12, 6, []), (21, 1, 2, 0, 1, 0, []), (22, 1, 33, 0, 0, 0, []), (23, 1, 36, 0, 0, 0, []), (24, 1, 3, 0, 0, 0, []), (25, 3, 30, 0, 12, 7, []), (28, 1, 2, 0, 2, 0, []), (29, 1, 3, 0, 0, 0, []), (30, 3, 30, 0, 12, 7, []), (33, 1, 2, 0, 1, 0, []), (34, 1, 33, 0, 0, 0, []), (35, 1, 36, 0, 0, 0, []), (36, 1, 3, 0, 0, 0, []), (37, 3, 30, 0, 12, 8, []), (40, 1, 2, 0, 2, 0, []), (41, 1, 3, 0, 0, 0, []), (42, 3, 30, 0, 12, 8, []), (45, 1, 2, 0, 1, 0, []), (46, 1, 33, 0, 0, 0, []), (47, 1, 36, 0, 0, 0, []), (48, 1, 3, 0, 0, 0, []), (49, 3, 30, 0, 12, 9, []), (52, 1, 2, 0, 2, 0, []), (53, 1, 3, 0, 0, 0, []), (54, 3, 30, 0, 12, 9, []), (57, 1, 2, 0, 1, 0, []), (58, 1, 34, 0, 0, 0, []), (59, 1, 37, 0, 0, 0, []), (60, 1, 72, 0, 0, 0, [])]
/-- CodeExchangeModel.copyShift(II)V -/
def tk_180 : mK := [(0, 1, 3, 0, 0, 0, []), (1, 3, 30, 0, 12, 10, []), (4, 1, 2, 0, 2, 0, []), (5, 1, 3, 0, 0, 0, []), (6, 3, 30, 0, 12, 10, []), (9, 1, 2, 0, 1, 0, []), (10, 1, 33, 0, 0, 0, []), (11, 1, 36, 0, 0, 0, []), (12, 1, 3, 0, 0, 0, []), (13, 3, 30, 0, 12, 11, []), (16, 1, 2, 0, 2, 0, []), (17, 1, 3, 0, 0, 0, []), (18, 3, 30, 0, 12, 11, []), (21, 1, 2, 0, 1, 0, []), (22, 1, 33, 0, 0, 0, []), (23, 1, 36, 0, 0, 0, []), (24, 1, 3, 0, 0, 0, []), (25, 3, 30, 0, 12, 12, []), (28, 1, 2, 0, 2, 0, []), (29, 1, 3, 0, 0, 0, []), (30, 3, 30, 0, 12, 12, []), (33, 1, 2, 0, 1, 0, []), (34, 1, 33, 0, 0, 0, []), (35, 1, 36, 0, 0, 0, []), (36, 1, 3, 0, 0, 0, []), (37, 3, 30, 0, 12, 13, []), (40, 1, 2, 0, 2, 0, []), (41, 1, 3, 0, 0, 0, []), (42, 3, 30, 0, 12, 13, []), (45, 1, 2, 0, 1, 0, []), (46, 1, 34, 0, 0, 0, []), (47, 1, 37, 0, 0, 0, []), (48, 1, 72, 0, 0, 0, [])]
/-- CodeExchangeModel.derive(I)I -/
def tk_181 : mK := [(0, 1, 3, 0, 0, 0, []), (1, 1, 2, 0, 1, 0, []), (2, 3, 50, 0, 177, 1, [12, 0, 0]), (5, 3, 20, 0, 14, 1, []), (8, 1, 3, 0, 0, 0, []), (9, 1, 0, (-1), 0, 0, []), (10, 3, 50, 0, 172, 1, [12, 0, 0]), (13, 1, 70, 0, 0, 0, []), (14, 1, 3, 0, 0, 0, []), (15, 3, 30, 0, 12, 1, []), (18, 1, 2, 0, 1, 0, []), (19, 1, 33, 0, 0, 0, []), (20, 3, 20, 0, 30, 0, []), (23, 1, 3, 0, 0, 0, []), (24, 2, 0, (-3), 0, 0, []), (26, 3, 50, 0, 172, 1, [12, 0, 0]), (29, 1, 70, 0, 0, 0, []), (30, 1, 3, 0, 0, 0, []), (31, 3, 30, 0, 12, 2, []), (34, 1, 2, 0, 1, 0, []), (35, 1, 34, 0, 0, 0, []), (36, 3, 20, 0, 46, 1, []), (39, 1, 3, 0, 0, 0, []), (40, 2, 0, (-5), 0, 0, []), (42, 3, 50, 0, 172, 1, [12, 0, 0]), (45, 1, 70, 0, 0, 0, []), (46, 1, 3, 0, 0, 0, []), (47, 3, 30, 0, 12, 0, []), (50, 2, 0, 10, 0, 0, []), (52, 3, 21, 0, 62, 1, []), (55, 1, 3, 0, 0, 0, []), (56, 2, 0, (-6), 0, 0, []), (58, 3, 50, 0, 172, 1, [12, 0, 0]), (61, 1, 70, 0, 0, 0, []), (62, 1, 3, 0, 0, 0, []), (63, 3, 30, 0, 12, 0, []), (66, 1, 5, 0, 2, 0, []), (67, 1, 3, 0, 0, 0, []), (68, 3, 30, 0, 12, 1, []), (71, 1, 2, 0, 2, 0, []), (72, 1, 0, 0, 0, 0, []), (73, 1, 36, 0, 0, 0, []), (74, 1, 3, 0, 0, 0, []), (75, 3, 30, 0, 12, 2, []), (78, 1, 2, 0, 2, 0, []), (79, 1, 0, 0, 0, 0, []), (80, 1, 37, 0, 0, 0, []), (81, 1, 3, 0, 0, 0, []), (82, 3, 30, 0, 12, 3, []), (85, 1, 2, 0, 2, 0, []), (86, 1, 3, 0, 0, 0, []), (87, 3, 30, 0, 12, 3, []), (90, 1, 2, 0, 1, 0, []), (91, 1, 33, 0, 0, 0, []), (92, 1, 36, 0, 0, 0, []), (93, 1, 3, 0, 0, 0, []), (94, 3, 30, 0, 12, 4, []), (97, 1, 2, 0, 2, 0, []), (98, 1, 3, 0, 0, 0, []), (99, 3, 30, 0, 12, 4, []), (102, 1, 2, 0, 1, 0, []), (103, 1, 33, 0, 0, 0, []), (104, 1, 36, 0, 0, 0, []), (105, 1, 0, 0, 0, 0, []), (106, 1, 5, 0, 3, 0, []), (107, 1, 2, 0, 3, 0, []), (108, 1, 3, 0, 0, 0, []), (109, 3, 30, 0, 12, 3, []), (112, 1, 2, 0, 1, 0, []), (113, 1, 33, 0, 0, 0, []), (114, 3, 21, 0, 139, 3, []), (117, 1, 3, 0, 0, 0, []), (118, 2, 0, 100, 0, 0, []), (120, 1, 2, 0, 1, 0, []), (121, 1, 9, 0, 0, 2, []), (122, 1, 2, 0, 3, 0, []), (123, 1, 9, 0, 0, 0, []), (124, 2, 0, 100, 0, 0, []), (126, 1, 2, 0, 2, 0, []), (127, 1, 9, 0, 0, 2, []), (128, 1, 2, 0, 3, 0, []), (129, 1, 9, 0, 0, 0, []), (130, 3, 50, 0, 179, 2, [12, 0, 0]), (133, 3, 8, 1, 3, 0, []), (136, 3, 22, 0, 107, 0, []), (139, 1, 0, 0, 0, 0, []), (140, 1, 5, 0, 3, 0, []), (141, 1, 2, 0, 3, 0, []), (142, 1, 3, 0, 0, 0, []), (143, 3, 30, 0, 12, 4, []), (146, 1, 2, 0, 1, 0, []), (147, 1, 33, 0, 0, 0, []), (148, 3, 21, 0, 173, 3, []), (151, 1, 3, 0, 0, 0, []), (152, 2, 0, 10, 0, 0, []), (154, 1, 2, 0, 1, 0, []), (155, 1, 9, 0, 0, 2, []), (156, 1, 2, 0, 3, 0, []), (157, 1, 9, 0, 0, 0, []), (158, 2, 0, 10, 0, 0, []), (160, 1, 2, 0, 2, 0, []), (161, 1, 9, 0, 0, 2, []), (162, 1, 2, 0, 3, 0, []), (163, 1, 9, 0, 0, 0, []), (164, 3, 50, 0, 180, 2, [12, 0, 0]), (167, 3, 8, 1, 3, 0, []), (170, 3, 22, 0, 141, 0, []), (173, 1, 3, 0, 0, 0, []), (174, 1, 17, 0, 0, 0, []), (175, 3, 30, 0, 12, 0, []), (178, 1, 0, 1, 0, 0, []), (179, 1, 9, 0, 0, 0, []), (180, 3, 31, 0, 12, 0, []), (183, 1, 2, 0, 2, 0, []), (184, 1, 70, 0, 0, 0, [])]
/-- CodeExchangeModel.fixed(I)I -/
def tk_182 : mK := [(0, 1, 3, 0, 0, 0, []), (1, 1, 2, 0, 1, 0, []), (2, 3, 50, 0, 177, 1, [12, 0, 0]), (5, 3, 20, 0, 10, 1, []), (8, 1, 0, (-1), 0, 0, []), (9, 1, 70, 0, 0, 0, []), (10, 1, 3, 0, 0, 0, []), (11, 3, 30, 0, 12, 1, []), (14, 1, 2, 0, 1, 0, []), (15, 1, 33, 0, 0, 0, []), (16, 3, 20, 0, 22, 0, []), (19, 2, 0, (-3), 0, 0, []), (21, 1, 70, 0, 0, 0, []), (22, 1, 3, 0, 0, 0, []), (23, 3, 30, 0, 12, 2, []), (26, 1, 2, 0, 1, 0, []), (27, 1, 34, 0, 0, 0, []), (28, 3, 20, 0, 36, 0, []), (31, 2, 0, (-4), 0, 0, []), (33, 3, 22, 0, 37, 0, []), (36, 1, 0, 0, 0, 0, []), (37, 1, 70, 0, 0, 0, [])]
/-- CodeExchangeModel.isText(III)Z -/
def tk_183 : mK := [(0, 1, 2, 0, 0, 0, []), (1, 1, 0, 0, 0, 0, []), (2, 1, 0, 3, 0, 0, []), (3, 3, 51, 0, 173, 3, [12, 0, 0]), (6, 3, 20, 0, 36, 0, []), (9, 1, 2, 0, 2, 0, []), (10, 1, 0, 1, 0, 0, []), (11, 1, 0, 3, 0, 0, []), (12, 3, 51, 0, 173, 3, [12, 0, 0]), (15, 3, 20, 0, 36, 0, []), (18, 1, 2, 0, 1, 0, []), (19, 3, 20, 0, 36, 2, []), (22, 1, 2, 0, 1, 0, []), (23, 1, 0, 1, 0, 0, []), (24, 2, 0, 8, 0, 0, []), (26, 1, 2, 0, 2, 0, []), (27, 1, 9, 0, 0, 2, []), (28, 1, 9, 0, 0, 6, []), (29, 3, 21, 0, 36, 3, []), (32, 1, 0, 1, 0, 0, []), (33, 3, 22, 0, 37, 0, []), (36, 1, 0, 0, 0, 0, []), (37, 1, 70, 0, 1, 0, [])]
/-- CodeExchangeModel.entryOf(IIII)I -/
def tk_184 : mK := [(0, 2, 0, 100, 0, 0, []), (2, 1, 2, 0, 1, 0, []), (3, 1, 9, 0, 0, 2, []), (4, 2, 5, 0, 5, 0, []), (6, 2, 2, 0, 5, 0, []), (8, 2, 0, 100, 0, 0, []), (10, 1, 2, 0, 1, 0, []), (11, 1, 9, 0, 0, 2, []), (12, 1, 3, 0, 0, 0, []), (13, 3, 30, 0, 12, 3, []), (16, 1, 2, 0, 1, 0, []), (17, 1, 33, 0, 0, 0, []), (18, 1, 9, 0, 0, 0, []), (19, 3, 21, 0, 65, 3, []), (22, 1, 3, 0, 0, 0, []), (23, 3, 30, 0, 12, 5, []), (26, 2, 2, 0, 5, 0, []), (28, 1, 33, 0, 0, 0, []), (29, 1, 2, 0, 2, 0, []), (30, 3, 21, 0, 59, 1, []), (33, 1, 3, 0, 0, 0, []), (34, 3, 30, 0, 12, 6, []), (37, 2, 2, 0, 5, 0, []), (39, 1, 33, 0, 0, 0, []), (40, 2, 2, 0, 4, 0, []), (42, 3, 21, 0, 59, 1, []), (45, 1, 3, 0, 0, 0, []), (46, 3, 30, 0, 12, 7, []), (49, 2, 2, 0, 5, 0, []), (51, 1, 33, 0, 0, 0, []), (52, 1, 2, 0, 3, 0, []), (53, 3, 21, 0, 59, 1, []), (56, 2, 2, 0, 5, 0, []), (58, 1, 70, 0, 0, 0, []), (59, 3, 8, 1, 5, 0, []), (62, 3, 22, 0, 6, 0, []), (65, 1, 0, (-1), 0, 0, []), (66, 1, 70, 0, 0, 0, [])]
/-- CodeExchangeModel.shiftOf(III)I -/
def tk_185 : mK := [(0, 2, 0, 10, 0, 0, []), (2, 1, 2, 0, 1, 0, []), (3, 1, 9, 0, 0, 2, []), (4, 2, 5, 0, 4, 0, []), (6, 2, 2, 0, 4, 0, []), (8, 2, 0, 10, 0, 0, []), (10, 1, 2, 0, 1, 0, []), (11, 1, 9, 0, 0, 2, []), (12, 1, 3, 0, 0, 0, []), (13, 3, 30, 0, 12, 4, []), (16, 1, 2, 0, 1, 0, []), (17, 1, 33, 0, 0, 0, []), (18, 1, 9, 0, 0, 0, []), (19, 3, 21, 0, 53, 3, []), (22, 1, 3, 0, 0, 0, []), (23, 3, 30, 0, 12, 10, []), (26, 2, 2, 0, 4, 0, []), (28, 1, 33, 0, 0, 0, []), (29, 1, 2, 0, 2, 0, []), (30, 3, 21, 0, 47, 1, []), (33, 1, 3, 0, 0, 0, []), (34, 3, 30, 0, 12, 11, []), (37, 2, 2, 0, 4, 0, []), (39, 1, 33, 0, 0, 0, []), (40, 1, 2, 0, 3, 0, []), (41, 3, 21, 0, 47, 1, []), (44, 2, 2, 0, 4, 0, []), (46, 1, 70, 0, 0, 0, []), (47, 3, 8, 1, 4, 0, []), (50, 3, 22, 0, 6, 0, []), (53, 1, 0, (-1), 0, 0, []), (54, 1, 70, 0, 0, 0, [])]
/-- CodeExchangeModel.entry(IIIII)I -/
def tk_186 : mK := [(0, 1, 3, 0, 0, 0, []), (1, 1, 2, 0, 1, 0, []), (2, 3, 50, 0, 182, 1, [12, 0, 0]), (5, 2, 5, 0, 6, 0, []), (7, 2, 2, 0, 6, 0, []), (9, 3, 20, 0, 19, 0, []), (12, 1, 3, 0, 0, 0, []), (13, 2, 2, 0, 6, 0, []), (15, 3, 50, 0, 172, 1, [12, 0, 0]), (18, 1, 70, 0, 0, 0, []), (19, 2, 2, 0, 5, 0, []), (21, 3, 20, 0, 29, 2, []), (24, 2, 2, 0, 5, 0, []), (26, 3, 22, 0, 33, 0, []), (29, 1, 0, (-1), 0, 0, []), (30, 2, 2, 0, 5, 0, []), (32, 1, 9, 0, 0, 1, []), (33, 2, 5, 0, 7, 0, []), (35, 1, 2, 0, 2, 0, []), (36, 1, 2, 0, 3, 0, []), (37, 2, 2, 0, 4, 0, []), (39, 3, 51, 0, 183, 3, [12, 0, 0]), (42, 3, 20, 0, 53, 0, []), (45, 2, 2, 0, 7, 0, []), (47, 3, 51, 0, 176, 1, [12, 0, 0]), (50, 3, 20, 0, 59, 1, []), (53, 1, 3, 0, 0, 0, []), (54, 1, 0, (-1), 0, 0, []), (55, 3, 50, 0, 172, 1, [12, 0, 0]), (58, 1, 70, 0, 0, 0, []), (59, 1, 3, 0, 0, 0, []), (60, 1, 2, 0, 1, 0, []), (61, 1, 2, 0, 2, 0, []), (62, 1, 2, 0, 3, 0, []), (63, 2, 2, 0, 4, 0, []), (65, 3, 50, 0, 184, 4, [12, 0, 0]), (68, 2, 5, 0, 8, 0, []), (70, 2, 2, 0, 8, 0, []), (72, 3, 20, 0, 93, 3, []), (75, 1, 3, 0, 0, 0, []), (76, 3, 30, 0, 12, 3, []), (79, 1, 2, 0, 1, 0, []), (80, 1, 33, 0, 0, 0, []), (81, 2, 0, 100, 0, 0, []), (83, 3, 21, 0, 93, 1, []), (86, 1, 3, 0, 0, 0, []), (87, 2, 0, (-6), 0, 0, []), (89, 3, 50, 0, 172, 1, [12, 0, 0]), (92, 1, 70, 0, 0, 0, []), (93, 2, 2, 0, 8, 0, []), (95, 3, 20, 0, 103, 2, []), (98, 2, 2, 0, 8, 0, []), (100, 3, 22, 0, 114, 0, []), (103, 2, 0, 100, 0, 0, []), (105, 1, 2, 0, 1, 0, []), (106, 1, 9, 0, 0, 2, []), (107, 1, 3, 0, 0, 0, []), (108, 3, 30, 0, 12, 3, []), (111, 1, 2, 0, 1, 0, []), (112, 1, 33, 0, 0, 0, []), (113, 1, 9, 0, 0, 0, []), (114, 2, 5, 0, 9, 0, []), (116, 1, 3, 0, 0, 0, []), (117, 3, 30, 0, 12, 5, []), (120, 2, 2, 0, 9, 0, []), (122, 1, 2, 0, 2, 0, []), (123, 1, 36, 0, 0, 0, []), (124, 1, 3, 0, 0, 0, []), (125, 3, 30, 0, 12, 6, []), (128, 2, 2, 0, 9, 0, []), (130, 2, 2, 0, 4, 0, []), (132, 1, 36, 0, 0, 0, []), (133, 1, 3, 0, 0, 0, []), (134, 3, 30, 0, 12, 7, []), (137, 2, 2, 0, 9, 0, []), (139, 1, 2, 0, 3, 0, []), (140, 1, 36, 0, 0, 0, []), (141, 1, 3, 0, 0, 0, []), (142, 3, 30, 0, 12, 8, []), (145, 2, 2, 0, 9, 0, []), (147, 2, 2, 0, 7, 0, []), (149, 1, 36, 0, 0, 0, []), (150, 1, 3, 0, 0, 0, []), (151, 3, 30, 0, 12, 9, []), (154, 2, 2, 0, 9, 0, []), (156, 2, 2, 0, 5, 0, []), (158, 3, 20, 0, 165, 2, []), (161, 1, 0, 1, 0, 0, []), (162, 3, 22, 0, 166, 0, []), (165, 1, 0, 0, 0, 0, []), (166, 1, 37, 0, 0, 0, []), (167, 2, 2, 0, 8, 0, []), (169, 3, 20, 0, 174, 2, []), (172, 1, 0, 1, 0, 0, []), (173, 1, 70, 0, 0, 0, []), (174, 1, 3, 0, 0, 0, []), (175, 3, 30, 0, 12, 3, []), (178, 1, 2, 0, 1, 0, []), (179, 1, 19, 0, 0, 0, []), (180, 1, 33, 0, 0, 0, []), (181, 1, 0, 1, 0, 0, []), (182, 1, 9, 0, 0, 0, []), (183, 1, 36, 0, 0, 0, []), (184, 1, 0, 0, 0, 0, []), (185, 1, 70, 0, 0, 0, [])]
/-- CodeExchangeModel.shift(IIIIZ)I -/
def tk_187 : mK := [(0, 1, 3, 0, 0, 0, []), (1, 1, 2, 0, 1, 0, []), (2, 3, 50, 0, 182, 1, [12, 0, 0]), (5, 2, 5, 0, 6, 0, []), (7, 2, 2, 0, 6, 0, []), (9, 3, 20, 0, 19, 0, []), (12, 1, 3, 0, 0, 0, []), (13, 2, 2, 0, 6, 0, []), (15, 3, 50, 0, 172, 1, [12, 0, 0]), (18, 1, 70, 0, 0, 0, []), (19, 1, 2, 0, 2, 0, []), (20, 1, 0, 0, 0, 0, []), (21, 1, 0, 3, 0, 0, []), (22, 3, 51, 0, 173, 3, [12, 0, 0]), (25, 3, 20, 0, 55, 0, []), (28, 2, 2, 0, 4, 0, []), (30, 1, 0, 0, 0, 0, []), (31, 1, 0, 3, 0, 0, []), (32, 3, 51, 0, 173, 3, [12, 0, 0]), (35, 3, 20, 0, 55, 0, []), (38, 1, 2, 0, 2, 0, []), (39, 2, 2, 0, 4, 0, []), (41, 3, 21, 0, 55, 0, []), (44, 1, 2, 0, 3, 0, []), (45, 1, 0, 0, 0, 0, []), (46, 3, 0, 255, 0, 0, []), (49, 3, 51, 0, 173, 3, [12, 0, 0]), (52, 3, 20, 0, 61, 1, []), (55, 1, 3, 0, 0, 0, []), (56, 1, 0, (-1), 0, 0, []), (57, 3, 50, 0, 172, 1, [12, 0, 0]), (60, 1, 70, 0, 0, 0, []), (61, 1, 3, 0, 0, 0, []), (62, 1, 2, 0, 1, 0, []), (63, 1, 2, 0, 2, 0, []), (64, 1, 2, 0, 3, 0, []), (65, 3, 50, 0, 185, 3, [12, 0, 0]), (68, 3, 20, 0, 78, 2, []), (71, 1, 3, 0, 0, 0, []), (72, 2, 0, (-7), 0, 0, []), (74, 3, 50, 0, 172, 1, [12, 0, 0]), (77, 1, 70, 0, 0, 0, []), (78, 1, 3, 0, 0, 0, []), (79, 3, 30, 0, 12, 4, []), (82, 1, 2, 0, 1, 0, []), (83, 1, 33, 0, 0, 0, []), (84, 2, 0, 10, 0, 0, []), (86, 3, 21, 0, 96, 1, []), (89, 1, 3, 0, 0, 0, []), (90, 2, 0, (-6), 0, 0, []), (92, 3, 50, 0, 172, 1, [12, 0, 0]), (95, 1, 70, 0, 0, 0, []), (96, 2, 0, 10, 0, 0, []), (98, 1, 2, 0, 1, 0, []), (99, 1, 9, 0, 0, 2, []), (100, 1, 3, 0, 0, 0, []), (101, 3, 30, 0, 12, 4, []), (104, 1, 2, 0, 1, 0, []), (105, 1, 33, 0, 0, 0, []), (106, 1, 9, 0, 0, 0, []), (107, 2, 5, 0, 7, 0, []), (109, 1, 3, 0, 0, 0, []), (110, 3, 30, 0, 12, 10, []), (113, 2, 2, 0, 7, 0, []), (115, 1, 2, 0, 2, 0, []), (116, 1, 36, 0, 0, 0, []), (117, 1, 3, 0, 0, 0, []), (118, 3, 30, 0, 12, 11, []), (121, 2, 2, 0, 7, 0, []), (123, 1, 2, 0, 3, 0, []), (124, 1, 36, 0, 0, 0, []), (125, 1, 3, 0, 0, 0, []), (126, 3, 30, 0, 12, 12, []), (129, 2, 2, 0, 7, 0, []), (131, 2, 2, 0, 4, 0, []), (133, 1, 36, 0, 0, 0, []), (134, 1, 3, 0, 0, 0, []), (135, 3, 30, 0, 12, 13, []), (138, 2, 2, 0, 7, 0, []), (140, 2, 2, 0, 5, 0, []), (142, 1, 37, 0, 0, 0, []), (143, 1, 3, 0, 0, 0, []), (144, 3, 30, 0, 12, 4, []), (147, 1, 2, 0, 1, 0, []), (148, 1, 19, 0, 0, 0, []), (149, 1, 33, 0, 0, 0, []), (150, 1, 0, 1, 0, 0, []), (151, 1, 9, 0, 0, 0, []), (152, 1, 36, 0, 0, 0, []), (153, 1, 0, 0, 0, 0, []), (154, 1, 70, 0, 0, 0, [])]
/-- CodeExchangeModel.drop(IIII)I -/
def tk_188 : mK := [(0, 1, 3, 0, 0, 0, []), (1, 1, 2, 0, 1, 0, []), (2, 3, 50, 0, 182, 1, [12, 0, 0]), (5, 2, 5, 0, 5, 0, []), (7, 2, 2, 0, 5, 0, []), (9, 3, 20, 0, 19, 0, []), (12, 1, 3, 0, 0, 0, []), (13, 2, 2, 0, 5, 0, []), (15, 3, 50, 0, 172, 1, [12, 0, 0]), (18, 1, 70, 0, 0, 0, []), (19, 1, 2, 0, 2, 0, []), (20, 1, 2, 0, 3, 0, []), (21, 2, 2, 0, 4, 0, []), (23, 3, 51, 0, 183, 3, [12, 0, 0]), (26, 3, 20, 0, 35, 1, []), (29, 1, 3, 0, 0, 0, []), (30, 1, 0, (-1), 0, 0, []), (31, 3, 50, 0, 172, 1, [12, 0, 0]), (34, 1, 70, 0, 0, 0, []), (35, 1, 3, 0, 0, 0, []), (36, 1, 2, 0, 1, 0, []), (37, 1, 2, 0, 2, 0, []), (38, 1, 2, 0, 3, 0, []), (39, 2, 2, 0, 4, 0, []), (41, 3, 50, 0, 184, 4, [12, 0, 0]), (44, 2, 5, 0, 6, 0, []), (46, 2, 2, 0, 6, 0, []), (48, 3, 20, 0, 95, 2, []), (51, 1, 3, 0, 0, 0, []), (52, 3, 30, 0, 12, 3, []), (55, 1, 2, 0, 1, 0, []), (56, 1, 19, 0, 0, 0, []), (57, 1, 33, 0, 0, 0, []), (58, 1, 0, 1, 0, 0, []), (59, 1, 9, 0, 0, 1, []), (60, 1, 36, 0, 0, 0, []), (61, 2, 2, 0, 6, 0, []), (63, 2, 0, 100, 0, 0, []), (65, 1, 2, 0, 1, 0, []), (66, 1, 9, 0, 0, 2, []), (67, 1, 3, 0, 0, 0, []), (68, 3, 30, 0, 12, 3, []), (71, 1, 2, 0, 1, 0, []), (72, 1, 33, 0, 0, 0, []), (73, 1, 9, 0, 0, 0, []), (74, 3, 21, 0, 93, 3, []), (77, 1, 3, 0, 0, 0, []), (78, 2, 2, 0, 6, 0, []), (80, 1, 0, 1, 0, 0, []), (81, 1, 9, 0, 0, 0, []), (82, 2, 2, 0, 6, 0, []), (84, 3, 50, 0, 179, 2, [12, 0, 0]), (87, 3, 8, 1, 6, 0, []), (90, 3, 22, 0, 61, 0, []), (93, 1, 0, 0, 0, 0, []), (94, 1, 70, 0, 0, 0, []), (95, 2, 2, 0, 4, 0, []), (97, 1, 0, 1, 0, 0, []), (98, 3, 21, 0, 111, 1, []), (101, 1, 3, 0, 0, 0, []), (102, 1, 2, 0, 1, 0, []), (103, 1, 2, 0, 2, 0, []), (104, 1, 2, 0, 3, 0, []), (105, 3, 50, 0, 185, 3, [12, 0, 0]), (108, 3, 22, 0, 112, 0, []), (111, 1, 0, (-1), 0, 0, []), (112, 2, 5, 0, 6, 0, []), (114, 2, 2, 0, 6, 0, []), (116, 3, 20, 0, 126, 3, []), (119, 1, 3, 0, 0, 0, []), (120, 2, 0, (-2), 0, 0, []), (122, 3, 50, 0, 172, 1, [12, 0, 0]), (125, 1, 70, 0, 0, 0, []), (126, 1, 3, 0, 0, 0, []), (127, 3, 30, 0, 12, 4, []), (130, 1, 2, 0, 1, 0, []), (131, 1, 19, 0, 0, 0, []), (132, 1, 33, 0, 0, 0, []), (133, 1, 0, 1, 0, 0, []), (134, 1, 9, 0, 0, 1, []), (135, 1, 36, 0, 0, 0, []), (136, 2, 2, 0, 6, 0, []), (138, 2, 0, 10, 0, 0, []), (140, 1, 2, 0, 1, 0, []), (141, 1, 9, 0, 0, 2, []), (142, 1, 3, 0, 0, 0, []), (143, 3, 30, 0, 12, 4, []), (146, 1, 2, 0, 1, 0, []), (147, 1, 33, 0, 0, 0, []), (148, 1, 9, 0, 0, 0, []), (149, 3, 21, 0, 168, 3, []), (152, 1, 3, 0, 0, 0, []), (153, 2, 2, 0, 6, 0, []), (155, 1, 0, 1, 0, 0, []), (156, 1, 9, 0, 0, 0, []), (157, 2, 2, 0, 6, 0, []), (159, 3, 50, 0, 180, 2, [12, 0, 0]), (162, 3, 8, 1, 6, 0, []), (165, 3, 22, 0, 136, 0, []), (168, 1, 0, 1, 0, 0, []), (169, 1, 70, 0, 0, 0, [])]
/-- CodeExchangeModel.stateOf(II)I -/
def tk_189 : mK := [(0, 1, 2, 0, 2, 0, []), (1, 1, 3, 0, 0, 0, []), (2, 3, 30, 0, 12, 3, []), (5, 1, 2, 0, 1, 0, []), (6, 1, 33, 0, 0, 0, []), (7, 3, 21, 0, 24, 3, []), (10, 1, 3, 0, 0, 0, []), (11, 3, 30, 0, 12, 5, []), (14, 2, 0, 100, 0, 0, []), (16, 1, 2, 0, 1, 0, []), (17, 1, 9, 0, 0, 2, []), (18, 1, 2, 0, 2, 0, []), (19, 1, 9, 0, 0, 0, []), (20, 1, 33, 0, 0, 0, []), (21, 3, 22, 0, 42, 0, []), (24, 1, 3, 0, 0, 0, []), (25, 3, 30, 0, 12, 10, []), (28, 2, 0, 10, 0, 0, []), (30, 1, 2, 0, 1, 0, []), (31, 1, 9, 0, 0, 2, []), (32, 1, 2, 0, 2, 0, []), (33, 1, 9, 0, 0, 0, []), (34, 1, 3, 0, 0, 0, []), (35, 3, 30, 0, 12, 3, []), (38, 1, 2, 0, 1, 0, []), (39, 1, 33, 0, 0, 0, []), (40, 1, 9, 0, 0, 1, []), (41, 1, 33, 0, 0, 0, []), (42, 1, 70, 0, 0, 0, [])]
/-- CodeExchangeModel.manyOf(II)I -/
def tk_190 : mK := [(0, 1, 2, 0, 2, 0, []), (1, 1, 3, 0, 0, 0, []), (2, 3, 30, 0, 12, 3, []), (5, 1, 2, 0, 1, 0, []), (6, 1, 33, 0, 0, 0, []), (7, 3, 21, 0, 24, 3, []), (10, 1, 3, 0, 0, 0, []), (11, 3, 30, 0, 12, 6, []), (14, 2, 0, 100, 0, 0, []), (16, 1, 2, 0, 1, 0, []), (17, 1, 9, 0, 0, 2, []), (18, 1, 2, 0, 2, 0, []), (19, 1, 9, 0, 0, 0, []), (20, 1, 33, 0, 0, 0, []), (21, 3, 22, 0, 25, 0, []), (24, 1, 0, 1, 0, 0, []), (25, 1, 70, 0, 0, 0, [])]
/-- CodeExchangeModel.bytesOf(II)I -/
def tk_191 : mK := [(0, 1, 2, 0, 2, 0, []), (1, 1, 3, 0, 0, 0, []), (2, 3, 30, 0, 12, 3, []), (5, 1, 2, 0, 1, 0, []), (6, 1, 33, 0, 0, 0, []), (7, 3, 21, 0, 24, 3, []), (10, 1, 3, 0, 0, 0, []), (11, 3, 30, 0, 12, 7, []), (14, 2, 0, 100, 0, 0, []), (16, 1, 2, 0, 1, 0, []), (17, 1, 9, 0, 0, 2, []), (18, 1, 2, 0, 2, 0, []), (19, 1, 9, 0, 0, 0, []), (20, 1, 33, 0, 0, 0, []), (21, 3, 22, 0, 42, 0, []), (24, 1, 3, 0, 0, 0, []), (25, 3, 30, 0, 12, 11, []), (28, 2, 0, 10, 0, 0, []), (30, 1, 2, 0, 1, 0, []), (31, 1, 9, 0, 0, 2, []), (32, 1, 2, 0, 2, 0, []), (33, 1, 9, 0, 0, 0, []), (34, 1, 3, 0, 0, 0, []), (35, 3, 30, 0, 12, 3, []), (38, 1, 2, 0, 1, 0, []), (39, 1, 33, 0, 0, 0, []), (40, 1, 9, 0, 0, 1, []), (41, 1, 33, 0, 0, 0, []), (42, 1, 70, 0, 0, 0, [])]
/-- CodeExchangeModel.numberOf(II)I -/
def tk_192 : mK := [(0, 1, 2, 0, 2, 0, []), (1, 1, 3, 0, 0, 0, []), (2, 3, 30, 0, 12, 3, []), (5, 1, 2, 0, 1, 0, []), (6, 1, 33, 0, 0, 0, []), (7, 3, 21, 0, 14, 3, []), (10, 1, 2, 0, 2, 0, []), (11, 3, 22, 0, 25, 0, []), (14, 2, 0, 100, 0, 0, []), (16, 1, 2, 0, 2, 0, []), (17, 1, 9, 0, 0, 0, []), (18, 1, 3, 0, 0, 0, []), (19, 3, 30, 0, 12, 3, []), (22, 1, 2, 0, 1, 0, []), (23, 1, 33, 0, 0, 0, []), (24, 1, 9, 0, 0, 1, []), (25, 1, 70, 0, 0, 0, [])]
/-- CodeExchangeModel.begins(III)Z -/
def tk_193 : mK := [(0, 1, 3, 0, 0, 0, []), (1, 1, 2, 0, 1, 0, []), (2, 1, 2, 0, 2, 0, []), (3, 3, 50, 0, 190, 2, [12, 0, 0]), (6, 2, 5, 0, 4, 0, []), (8, 1, 3, 0, 0, 0, []), (9, 1, 2, 0, 1, 0, []), (10, 1, 2, 0, 3, 0, []), (11, 3, 50, 0, 190, 2, [12, 0, 0]), (14, 2, 5, 0, 5, 0, []), (16, 2, 2, 0, 4, 0, []), (18, 2, 2, 0, 5, 0, []), (20, 3, 21, 0, 51, 4, []), (23, 1, 3, 0, 0, 0, []), (24, 1, 2, 0, 1, 0, []), (25, 1, 2, 0, 2, 0, []), (26, 3, 50, 0, 191, 2, [12, 0, 0]), (29, 1, 3, 0, 0, 0, []), (30, 1, 2, 0, 1, 0, []), (31, 1, 2, 0, 3, 0, []), (32, 3, 50, 0, 191, 2, [12, 0, 0]), (35, 2, 0, 8, 0, 0, []), (37, 2, 2, 0, 5, 0, []), (39, 2, 2, 0, 4, 0, []), (41, 1, 9, 0, 0, 1, []), (42, 1, 9, 0, 0, 2, []), (43, 1, 9, 0, 0, 7, []), (44, 3, 21, 0, 51, 1, []), (47, 1, 0, 1, 0, 0, []), (48, 3, 22, 0, 52, 0, []), (51, 1, 0, 0, 0, 0, []), (52, 1, 70, 0, 1, 0, [])]
/-- CodeExchangeModel.reach(I)V -/
def tk_194 : mK := [(0, 1, 0, 0, 0, 0, []), (1, 1, 5, 0, 2, 0, []), (2, 1, 2, 0, 2, 0, []), (3, 1, 0, 4, 0, 0, []), (4, 3, 21, 0, 28, 3, []), (7, 1, 3, 0, 0, 0, []), (8, 3, 30, 0, 12, 29, []), (11, 1, 2, 0, 2, 0, []), (12, 1, 2, 0, 2, 0, []), (13, 3, 20, 0, 20, 1, []), (16, 1, 0, 1, 0, 0, []), (17, 3, 22, 0, 21, 0, []), (20, 1, 0, 0, 0, 0, []), (21, 1, 37, 0, 0, 0, []), (22, 3, 8, 1, 2, 0, []), (25, 3, 22, 0, 2, 0, []), (28, 1, 0, 0, 0, 0, []), (29, 1, 5, 0, 2, 0, []), (30, 1, 2, 0, 2, 0, []), (31, 1, 0, 4, 0, 0, []), (32, 3, 21, 0, 102, 3, []), (35, 2, 0, 10, 0, 0, []), (37, 1, 2, 0, 1, 0, []), (38, 1, 9, 0, 0, 2, []), (39, 1, 5, 0, 3, 0, []), (40, 1, 2, 0, 3, 0, []), (41, 2, 0, 10, 0, 0, []), (43, 1, 2, 0, 1, 0, []), (44, 1, 9, 0, 0, 2, []), (45, 1, 3, 0, 0, 0, []), (46, 3, 30, 0, 12, 4, []), (49, 1, 2, 0, 1, 0, []), (50, 1, 33, 0, 0, 0, []), (51, 1, 9, 0, 0, 0, []), (52, 3, 21, 0, 96, 3, []), (55, 1, 3, 0, 0, 0, []), (56, 3, 30, 0, 12, 13, []), (59, 1, 2, 0, 3, 0, []), (60, 1, 34, 0, 0, 0, []), (61, 3, 20, 0, 90, 0, []), (64, 1, 3, 0, 0, 0, []), (65, 3, 30, 0, 12, 29, []), (68, 1, 3, 0, 0, 0, []), (69, 3, 30, 0, 12, 10, []), (72, 1, 2, 0, 3, 0, []), (73, 1, 33, 0, 0, 0, []), (74, 1, 34, 0, 0, 0, []), (75, 3, 20, 0, 90, 0, []), (78, 1, 3, 0, 0, 0, []), (79, 3, 30, 0, 12, 29, []), (82, 1, 3, 0, 0, 0, []), (83, 3, 30, 0, 12, 12, []), (86, 1, 2, 0, 3, 0, []), (87, 1, 33, 0, 0, 0, []), (88, 1, 0, 1, 0, 0, []), (89, 1, 37, 0, 0, 0, []), (90, 3, 8, 1, 3, 0, []), (93, 3, 22, 0, 40, 0, []), (96, 3, 8, 1, 2, 0, []), (99, 3, 22, 0, 30, 0, []), (102, 1, 72, 0, 0, 0, [])]
/-- CodeExchangeModel.comesHome(II)Z -/
def tk_195 : mK := [(0, 1, 0, 1, 0, 0, []), (1, 1, 2, 0, 2, 0, []), (2, 1, 9, 0, 0, 6, []), (3, 1, 5, 0, 3, 0, []), (4, 1, 0, 0, 0, 0, []), (5, 2, 5, 0, 4, 0, []), (7, 2, 2, 0, 4, 0, []), (9, 1, 0, 4, 0, 0, []), (10, 3, 21, 0, 84, 3, []), (13, 2, 0, 10, 0, 0, []), (15, 1, 2, 0, 1, 0, []), (16, 1, 9, 0, 0, 2, []), (17, 2, 5, 0, 5, 0, []), (19, 2, 2, 0, 5, 0, []), (21, 2, 0, 10, 0, 0, []), (23, 1, 2, 0, 1, 0, []), (24, 1, 9, 0, 0, 2, []), (25, 1, 3, 0, 0, 0, []), (26, 3, 30, 0, 12, 4, []), (29, 1, 2, 0, 1, 0, []), (30, 1, 33, 0, 0, 0, []), (31, 1, 9, 0, 0, 0, []), (32, 3, 21, 0, 78, 3, []), (35, 1, 3, 0, 0, 0, []), (36, 3, 30, 0, 12, 13, []), (39, 2, 2, 0, 5, 0, []), (41, 1, 34, 0, 0, 0, []), (42, 3, 20, 0, 72, 0, []), (45, 1, 2, 0, 3, 0, []), (46, 1, 3, 0, 0, 0, []), (47, 3, 30, 0, 12, 10, []), (50, 2, 2, 0, 5, 0, []), (52, 1, 33, 0, 0, 0, []), (53, 1, 9, 0, 0, 7, []), (54, 1, 0, 1, 0, 0, []), (55, 1, 9, 0, 0, 3, []), (56, 1, 0, 1, 0, 0, []), (57, 3, 21, 0, 72, 1, []), (60, 1, 2, 0, 3, 0, []), (61, 1, 0, 1, 0, 0, []), (62, 1, 3, 0, 0, 0, []), (63, 3, 30, 0, 12, 12, []), (66, 2, 2, 0, 5, 0, []), (68, 1, 33, 0, 0, 0, []), (69, 1, 9, 0, 0, 6, []), (70, 1, 9, 0, 0, 4, []), (71, 1, 5, 0, 3, 0, []), (72, 3, 8, 1, 5, 0, []), (75, 3, 22, 0, 19, 0, []), (78, 3, 8, 1, 4, 0, []), (81, 3, 22, 0, 7, 0, []), (84, 1, 2, 0, 3, 0, []), (85, 1, 0, 1, 0, 0, []), (86, 1, 9, 0, 0, 3, []), (87, 1, 0, 1, 0, 0, []), (88, 3, 21, 0, 95, 1, []), (91, 1, 0, 1, 0, 0, []), (92, 3, 22, 0, 96, 0, []), (95, 1, 0, 0, 0, 0, []), (96, 1, 70, 0, 1, 0, [])]
/-- CodeExchangeModel.breaks(III)Z -/
def tk_196 : mK := [(0, 1, 3, 0, 0, 0, []), (1, 3, 30, 0, 12, 30, []), (4, 1, 0, 0, 0, 0, []), (5, 1, 2, 0, 1, 0, []), (6, 1, 36, 0, 0, 0, []), (7, 1, 3, 0, 0, 0, []), (8, 3, 30, 0, 12, 30, []), (11, 1, 0, 1, 0, 0, []), (12, 1, 2, 0, 2, 0, []), (13, 1, 36, 0, 0, 0, []), (14, 1, 3, 0, 0, 0, []), (15, 3, 30, 0, 12, 30, []), (18, 1, 0, 2, 0, 0, []), (19, 1, 2, 0, 3, 0, []), (20, 1, 36, 0, 0, 0, []), (21, 1, 0, 0, 0, 0, []), (22, 1, 70, 0, 1, 0, [])]
/-- CodeExchangeModel.isGood(I)Z -/
def tk_197_0 : mK := [(0, 1, 3, 0, 0, 0, []), (1, 3, 30, 0, 12, 3, []), (4, 1, 2, 0, 1, 0, []), (5, 1, 33, 0, 0, 0, []), (6, 1, 3, 0, 0, 0, []), (7, 3, 30, 0, 12, 4, []), (10, 1, 2, 0, 1, 0, []), (11, 1, 33, 0, 0, 0, []), (12, 1, 9, 0, 0, 0, []), (13, 1, 5, 0, 2, 0, []), (14, 1, 0, 0, 0, 0, []), (15, 1, 5, 0, 3, 0, []), (16, 1, 2, 0, 3, 0, []), (17, 1, 2, 0, 2, 0, []), (18, 3, 21, 0, 101, 3, []), (21, 1, 2, 0, 3, 0, []), (22, 1, 0, 1, 0, 0, []), (23, 1, 9, 0, 0, 0, []), (24, 2, 5, 0, 4, 0, []), (26, 2, 2, 0, 4, 0, []), (28, 1, 2, 0, 2, 0, []), (29, 3, 21, 0, 95, 3, []), (32, 1, 3, 0, 0, 0, []), (33, 1, 2, 0, 1, 0, []), (34, 1, 2, 0, 3, 0, []), (35, 3, 50, 0, 189, 2, [12, 0, 0]), (38, 1, 3, 0, 0, 0, []), (39, 1, 2, 0, 1, 0, []), (40, 2, 2, 0, 4, 0, []), (42, 3, 50, 0, 189, 2, [12, 0, 0]), (45, 3, 21, 0, 89, 1, []), (48, 1, 3, 0, 0, 0, []), (49, 1, 2, 0, 1, 0, []), (50, 1, 2, 0, 3, 0, []), (51, 2, 2, 0, 4, 0, []), (53, 3, 50, 0, 193, 3, [12, 0, 0]), (56, 3, 20, 0, 70, 1, []), (59, 1, 3, 0, 0, 0, []), (60, 1, 2, 0, 1, 0, []), (61, 2, 2, 0, 4, 0, []), (63, 1, 2, 0, 3, 0, []), (64, 3, 50, 0, 193, 3, [12, 0, 0]), (67, 3, 20, 0, 89, 0, []), (70, 1, 3, 0, 0, 0, []), (71, 1, 0, 1, 0, 0, []), (72, 1, 3, 0, 0, 0, []), (73, 1, 2, 0, 1, 0, []), (74, 1, 2, 0, 3, 0, []), (75, 3, 50, 0, 192, 2, [12, 0, 0]), (78, 1, 3, 0, 0, 0, []), (79, 1, 2, 0, 1, 0, []), (80, 2, 2, 0, 4, 0, []), (82, 3, 50, 0, 192, 2, [12, 0, 0]), (85, 3, 50, 0, 196, 3, [12, 0, 0]), (88, 1, 70, 0, 1, 0, []), (89, 3, 8, 1, 4, 0, []), (92, 3, 22, 0, 26, 0, []), (95, 3, 8, 1, 3, 0, []), (98, 3, 22, 0, 16, 0, []), (101, 1, 0, (-1), 0, 0, []), (102, 1, 5, 0, 3, 0, []), (103, 1, 0, 0, 0, 0, []), (104, 2, 5, 0, 4, 0, []), (106, 2, 2, 0, 4, 0, []), (108, 1, 3, 0, 0, 0, []), (109, 3, 30, 0, 12, 3, []), (112, 1, 2, 0, 1, 0, []), (113, 1, 33, 0, 0, 0, []), (114, 3, 21, 0, 221, 3, []), (117, 1, 3, 0, 0, 0, []), (118, 3, 30, 0, 12, 8, []), (121, 2, 0, 100, 0, 0, []), (123, 1, 2, 0, 1, 0, []), (124, 1, 9, 0, 0, 2, []), (125, 2, 2, 0, 4, 0, []), (127, 1, 9, 0, 0, 0, []), (128, 1, 33, 0, 0, 0, []), (129, 2, 5, 0, 5, 0, []), (131, 1, 0, 0, 0, 0, []), (132, 2, 5, 0, 6, 0, []), (134, 1, 0, 0, 0, 0, []), (135, 2, 5, 0, 7, 0, []), (137, 2, 2, 0, 7, 0, []), (139, 1, 3, 0, 0, 0, []), (140, 3, 30, 0, 12, 3, []), (143, 1, 2, 0, 1, 0, []), (144, 1, 33, 0, 0, 0, []), (145, 3, 21, 0, 196, 3, []), (148, 2, 2, 0, 6, 0, []), (150, 1, 3, 0, 0, 0, []), (151, 3, 30, 0, 12, 8, []), (154, 2, 0, 100, 0, 0, []), (156, 1, 2, 0, 1, 0, []), (157, 1, 9, 0, 0, 2, []), (158, 2, 2, 0, 7, 0, []), (160, 1, 9, 0, 0, 0, []), (161, 1, 33, 0, 0, 0, []), (162, 2, 2, 0, 5, 0, []), (164, 3, 21, 0, 186, 1, []), (167, 1, 3, 0, 0, 0, [])]
def tk_197_1 : mK := [(168, 3, 30, 0, 12, 9, []), (171, 2, 0, 100, 0, 0, []), (173, 1, 2, 0, 1, 0, []), (174, 1, 9, 0, 0, 2, []), (175, 2, 2, 0, 7, 0, []), (177, 1, 9, 0, 0, 0, []), (178, 1, 34, 0, 0, 0, []), (179, 3, 20, 0, 186, 0, []), (182, 1, 0, 1, 0, 0, []), (183, 3, 22, 0, 187, 0, []), (186, 1, 0, 0, 0, 0, []), (187, 1, 9, 0, 0, 0, []), (188, 2, 5, 0, 6, 0, []), (190, 3, 8, 1, 7, 0, []), (193, 3, 22, 0, 137, 0, []), (196, 2, 2, 0, 6, 0, []), (198, 1, 0, 1, 0, 0, []), (199, 3, 21, 0, 215, 0, []), (202, 1, 2, 0, 3, 0, []), (203, 3, 20, 0, 212, 2, []), (206, 2, 2, 0, 5, 0, []), (208, 1, 2, 0, 3, 0, []), (209, 3, 21, 0, 215, 3, []), (212, 2, 2, 0, 5, 0, []), (214, 1, 5, 0, 3, 0, []), (215, 3, 8, 1, 4, 0, []), (218, 3, 22, 0, 106, 0, []), (221, 1, 2, 0, 3, 0, []), (222, 3, 20, 0, 233, 2, []), (225, 1, 3, 0, 0, 0, []), (226, 1, 0, 2, 0, 0, []), (227, 1, 2, 0, 3, 0, []), (228, 1, 0, 0, 0, 0, []), (229, 3, 50, 0, 196, 3, [12, 0, 0]), (232, 1, 70, 0, 1, 0, []), (233, 1, 3, 0, 0, 0, []), (234, 1, 2, 0, 1, 0, []), (235, 3, 50, 0, 194, 1, [12, 0, 0]), (238, 1, 0, 0, 0, 0, []), (239, 2, 5, 0, 4, 0, []), (241, 2, 2, 0, 4, 0, []), (243, 1, 0, 4, 0, 0, []), (244, 3, 21, 0, 282, 3, []), (247, 1, 3, 0, 0, 0, []), (248, 3, 30, 0, 12, 29, []), (251, 2, 2, 0, 4, 0, []), (253, 1, 34, 0, 0, 0, []), (254, 3, 20, 0, 276, 0, []), (257, 1, 3, 0, 0, 0, []), (258, 1, 2, 0, 1, 0, []), (259, 2, 2, 0, 4, 0, []), (261, 3, 50, 0, 195, 2, [12, 0, 0]), (264, 3, 20, 0, 276, 1, []), (267, 1, 3, 0, 0, 0, []), (268, 1, 0, 3, 0, 0, []), (269, 2, 2, 0, 4, 0, []), (271, 1, 0, 0, 0, 0, []), (272, 3, 50, 0, 196, 3, [12, 0, 0]), (275, 1, 70, 0, 1, 0, []), (276, 3, 8, 1, 4, 0, []), (279, 3, 22, 0, 241, 0, []), (282, 1, 0, 0, 0, 0, []), (283, 2, 5, 0, 4, 0, []), (285, 2, 2, 0, 4, 0, []), (287, 1, 3, 0, 0, 0, []), (288, 3, 30, 0, 12, 3, []), (291, 1, 2, 0, 1, 0, []), (292, 1, 33, 0, 0, 0, []), (293, 3, 21, 0, 438, 3, []), (296, 2, 0, 100, 0, 0, []), (298, 1, 2, 0, 1, 0, []), (299, 1, 9, 0, 0, 2, []), (300, 2, 2, 0, 4, 0, []), (302, 1, 9, 0, 0, 0, []), (303, 2, 5, 0, 5, 0, []), (305, 1, 3, 0, 0, 0, []), (306, 3, 30, 0, 12, 9, []), (309, 2, 2, 0, 5, 0, []), (311, 1, 34, 0, 0, 0, []), (312, 3, 20, 0, 432, 0, []), (315, 1, 3, 0, 0, 0, []), (316, 3, 30, 0, 12, 29, []), (319, 1, 3, 0, 0, 0, []), (320, 3, 30, 0, 12, 5, []), (323, 2, 2, 0, 5, 0, []), (325, 1, 33, 0, 0, 0, []), (326, 1, 34, 0, 0, 0, []), (327, 3, 20, 0, 333, 0, []), (330, 3, 22, 0, 432, 0, []), (333, 1, 0, 0, 0, 0, []), (334, 2, 5, 0, 6, 0, []), (336, 2, 0, 10, 0, 0, []), (338, 1, 2, 0, 1, 0, []), (339, 1, 9, 0, 0, 2, []), (340, 2, 5, 0, 7, 0, []), (342, 2, 2, 0, 7, 0, []), (344, 2, 0, 10, 0, 0, []), (346, 1, 2, 0, 1, 0, []), (347, 1, 9, 0, 0, 2, []), (348, 1, 3, 0, 0, 0, [])]
def tk_197_2 : mK := [(349, 3, 30, 0, 12, 4, []), (352, 1, 2, 0, 1, 0, []), (353, 1, 33, 0, 0, 0, []), (354, 1, 9, 0, 0, 0, []), (355, 3, 21, 0, 418, 3, []), (358, 2, 2, 0, 6, 0, []), (360, 3, 20, 0, 405, 1, []), (363, 1, 3, 0, 0, 0, []), (364, 3, 30, 0, 12, 13, []), (367, 2, 2, 0, 7, 0, []), (369, 1, 34, 0, 0, 0, []), (370, 3, 20, 0, 409, 1, []), (373, 1, 3, 0, 0, 0, []), (374, 3, 30, 0, 12, 29, []), (377, 1, 3, 0, 0, 0, []), (378, 3, 30, 0, 12, 10, []), (381, 2, 2, 0, 7, 0, []), (383, 1, 33, 0, 0, 0, []), (384, 1, 34, 0, 0, 0, []), (385, 3, 20, 0, 409, 0, []), (388, 1, 3, 0, 0, 0, []), (389, 3, 30, 0, 12, 12, []), (392, 2, 2, 0, 7, 0, []), (394, 1, 33, 0, 0, 0, []), (395, 1, 3, 0, 0, 0, []), (396, 3, 30, 0, 12, 5, []), (399, 2, 2, 0, 5, 0, []), (401, 1, 33, 0, 0, 0, []), (402, 3, 21, 0, 409, 1, []), (405, 1, 0, 1, 0, 0, []), (406, 3, 22, 0, 410, 0, []), (409, 1, 0, 0, 0, 0, []), (410, 2, 5, 0, 6, 0, []), (412, 3, 8, 1, 7, 0, []), (415, 3, 22, 0, 342, 0, []), (418, 2, 2, 0, 6, 0, []), (420, 3, 20, 0, 432, 1, []), (423, 1, 3, 0, 0, 0, []), (424, 1, 0, 4, 0, 0, []), (425, 2, 2, 0, 4, 0, []), (427, 1, 0, 0, 0, 0, []), (428, 3, 50, 0, 196, 3, [12, 0, 0]), (431, 1, 70, 0, 1, 0, []), (432, 3, 8, 1, 4, 0, []), (435, 3, 22, 0, 285, 0, []), (438, 1, 0, 1, 0, 0, []), (439, 1, 70, 0, 1, 0, [])]
def tk_197 : mK := tk_197_0 ++ (tk_197_1 ++ (tk_197_2))
/-- CodeExchangeModel.close(I)I -/
def tk_198 : mK := [(0, 1, 3, 0, 0, 0, []), (1, 1, 2, 0, 1, 0, []), (2, 3, 50, 0, 182, 1, [12, 0, 0]), (5, 1, 5, 0, 2, 0, []), (6, 1, 2, 0, 2, 0, []), (7, 3, 20, 0, 16, 0, []), (10, 1, 3, 0, 0, 0, []), (11, 1, 2, 0, 2, 0, []), (12, 3, 50, 0, 172, 1, [12, 0, 0]), (15, 1, 70, 0, 0, 0, []), (16, 1, 3, 0, 0, 0, []), (17, 1, 2, 0, 1, 0, []), (18, 3, 50, 0, 197, 1, [12, 0, 0]), (21, 3, 20, 0, 33, 0, []), (24, 1, 3, 0, 0, 0, []), (25, 3, 30, 0, 12, 2, []), (28, 1, 2, 0, 1, 0, []), (29, 1, 0, 1, 0, 0, []), (30, 1, 37, 0, 0, 0, []), (31, 1, 0, 0, 0, 0, []), (32, 1, 70, 0, 0, 0, []), (33, 1, 0, 0, 0, 0, []), (34, 1, 5, 0, 3, 0, []), (35, 1, 2, 0, 3, 0, []), (36, 1, 0, 3, 0, 0, []), (37, 3, 21, 0, 58, 3, []), (40, 1, 3, 0, 0, 0, []), (41, 3, 30, 0, 12, 23, []), (44, 1, 2, 0, 3, 0, []), (45, 1, 3, 0, 0, 0, []), (46, 3, 30, 0, 12, 30, []), (49, 1, 2, 0, 3, 0, []), (50, 1, 33, 0, 0, 0, []), (51, 1, 36, 0, 0, 0, []), (52, 3, 8, 1, 3, 0, []), (55, 3, 22, 0, 35, 0, []), (58, 1, 3, 0, 0, 0, []), (59, 2, 0, (-8), 0, 0, []), (61, 3, 50, 0, 172, 1, [12, 0, 0]), (64, 1, 70, 0, 0, 0, [])]
/-- CodeExchangeModel.size(II)I -/
def tk_199 : mK := [(0, 1, 3, 0, 0, 0, []), (1, 1, 2, 0, 1, 0, []), (2, 3, 50, 0, 177, 1, [12, 0, 0]), (5, 3, 20, 0, 17, 0, []), (8, 1, 2, 0, 2, 0, []), (9, 1, 0, 0, 0, 0, []), (10, 1, 0, 3, 0, 0, []), (11, 3, 51, 0, 173, 3, [12, 0, 0]), (14, 3, 20, 0, 23, 1, []), (17, 1, 3, 0, 0, 0, []), (18, 1, 0, (-1), 0, 0, []), (19, 3, 50, 0, 172, 1, [12, 0, 0]), (22, 1, 70, 0, 0, 0, []), (23, 1, 2, 0, 2, 0, []), (24, 3, 20, 0, 36, 1, []), (27, 1, 3, 0, 0, 0, []), (28, 3, 30, 0, 12, 1, []), (31, 1, 2, 0, 1, 0, []), (32, 1, 33, 0, 0, 0, []), (33, 3, 22, 0, 78, 0, []), (36, 1, 2, 0, 2, 0, []), (37, 1, 0, 1, 0, 0, []), (38, 3, 21, 0, 58, 1, []), (41, 1, 3, 0, 0, 0, []), (42, 3, 30, 0, 12, 2, []), (45, 1, 2, 0, 1, 0, []), (46, 1, 34, 0, 0, 0, []), (47, 3, 20, 0, 54, 0, []), (50, 1, 0, 1, 0, 0, []), (51, 3, 22, 0, 78, 0, []), (54, 1, 0, 0, 0, 0, []), (55, 3, 22, 0, 78, 0, []), (58, 1, 2, 0, 2, 0, []), (59, 1, 0, 2, 0, 0, []), (60, 3, 21, 0, 72, 1, []), (63, 1, 3, 0, 0, 0, []), (64, 3, 30, 0, 12, 3, []), (67, 1, 2, 0, 1, 0, []), (68, 1, 33, 0, 0, 0, []), (69, 3, 22, 0, 78, 0, []), (72, 1, 3, 0, 0, 0, []), (73, 3, 30, 0, 12, 4, []), (76, 1, 2, 0, 1, 0, []), (77, 1, 33, 0, 0, 0, []), (78, 1, 70, 0, 0, 0, [])]
/-- CodeExchangeModel.text(IJ)V -/
def tk_200 : mK := [(0, 1, 3, 0, 0, 0, []), (1, 1, 2, 0, 1, 0, []), (2, 3, 31, 0, 12, 32, []), (5, 1, 0, 0, 0, 0, []), (6, 2, 5, 0, 4, 0, []), (8, 2, 2, 0, 4, 0, []), (10, 1, 2, 0, 1, 0, []), (11, 3, 21, 0, 43, 3, []), (14, 1, 3, 0, 0, 0, []), (15, 3, 30, 0, 12, 33, []), (18, 2, 2, 0, 4, 0, []), (20, 1, 4, 0, 2, 0, []), (21, 2, 0, 8, 0, 0, []), (23, 1, 2, 0, 1, 0, []), (24, 1, 0, 1, 0, 0, []), (25, 1, 9, 0, 0, 1, []), (26, 2, 2, 0, 4, 0, []), (28, 1, 9, 0, 0, 1, []), (29, 1, 9, 0, 0, 2, []), (30, 1, 14, 0, 0, 1, []), (31, 3, 1, 255, 0, 0, []), (34, 1, 12, 0, 0, 3, []), (35, 1, 16, 0, 0, 0, []), (36, 1, 36, 0, 0, 0, []), (37, 3, 8, 1, 4, 0, []), (40, 3, 22, 0, 8, 0, []), (43, 1, 72, 0, 0, 0, [])]
/-- CodeExchangeModel.find(II)Z -/
def tk_201 : mK := [(0, 1, 3, 0, 0, 0, []), (1, 1, 0, 0, 0, 0, []), (2, 3, 31, 0, 12, 31, []), (5, 1, 3, 0, 0, 0, []), (6, 3, 30, 0, 12, 1, []), (9, 1, 2, 0, 1, 0, []), (10, 1, 33, 0, 0, 0, []), (11, 25, 26, 1, 126, 0, [36, 73, 119]), (36, 1, 2, 0, 2, 0, []), (37, 2, 0, 65536, 0, 0, []), (39, 3, 21, 0, 52, 3, []), (42, 1, 3, 0, 0, 0, []), (43, 1, 0, 2, 0, 0, []), (44, 1, 2, 0, 2, 0, []), (45, 1, 15, 0, 0, 0, []), (46, 3, 50, 0, 200, 2, [12, 0, 0]), (49, 3, 22, 0, 71, 0, []), (52, 1, 3, 0, 0, 0, []), (53, 1, 0, 4, 0, 0, []), (54, 1, 2, 0, 2, 0, []), (55, 3, 51, 0, 202, 1, [12, 0, 0]), (58, 1, 15, 0, 0, 0, []), (59, 2, 0, 16, 0, 0, []), (61, 1, 14, 0, 0, 0, []), (62, 1, 2, 0, 2, 0, []), (63, 3, 51, 0, 203, 1, [12, 0, 0]), (66, 1, 15, 0, 0, 0, []), (67, 1, 12, 0, 0, 4, []), (68, 3, 50, 0, 200, 2, [12, 0, 0]), (71, 1, 0, 1, 0, 0, []), (72, 1, 70, 0, 1, 0, []), (73, 1, 2, 0, 2, 0, []), (74, 2, 0, 65536, 0, 0, []), (76, 3, 21, 0, 92, 3, []), (79, 1, 3, 0, 0, 0, []), (80, 1, 0, 2, 0, 0, []), (81, 1, 2, 0, 2, 0, []), (82, 3, 51, 0, 204, 1, [12, 0, 0]), (85, 1, 15, 0, 0, 0, []), (86, 3, 50, 0, 200, 2, [12, 0, 0]), (89, 3, 22, 0, 117, 0, []), (92, 1, 3, 0, 0, 0, []), (93, 1, 0, 4, 0, 0, []), (94, 1, 2, 0, 2, 0, []), (95, 3, 51, 0, 202, 1, [12, 0, 0]), (98, 3, 51, 0, 204, 1, [12, 0, 0]), (101, 1, 15, 0, 0, 0, []), (102, 2, 0, 16, 0, 0, []), (104, 1, 14, 0, 0, 0, []), (105, 1, 2, 0, 2, 0, []), (106, 3, 51, 0, 203, 1, [12, 0, 0]), (109, 3, 51, 0, 204, 1, [12, 0, 0]), (112, 1, 15, 0, 0, 0, []), (113, 1, 12, 0, 0, 4, []), (114, 3, 50, 0, 200, 2, [12, 0, 0]), (117, 1, 0, 1, 0, 0, []), (118, 1, 70, 0, 1, 0, []), (119, 1, 3, 0, 0, 0, []), (120, 1, 2, 0, 2, 0, []), (121, 3, 50, 0, 205, 1, [12, 0, 0]), (124, 1, 0, 1, 0, 0, []), (125, 1, 70, 0, 1, 0, []), (126, 2, 0, 100, 0, 0, []), (128, 1, 2, 0, 1, 0, []), (129, 1, 9, 0, 0, 2, []), (130, 1, 5, 0, 3, 0, []), (131, 1, 2, 0, 3, 0, []), (132, 2, 0, 100, 0, 0, []), (134, 1, 2, 0, 1, 0, []), (135, 1, 9, 0, 0, 2, []), (136, 1, 3, 0, 0, 0, []), (137, 3, 30, 0, 12, 3, []), (140, 1, 2, 0, 1, 0, []), (141, 1, 33, 0, 0, 0, []), (142, 1, 9, 0, 0, 0, []), (143, 3, 21, 0, 203, 3, []), (146, 1, 3, 0, 0, 0, []), (147, 3, 30, 0, 12, 8, []), (150, 1, 2, 0, 3, 0, []), (151, 1, 33, 0, 0, 0, []), (152, 1, 2, 0, 2, 0, []), (153, 3, 21, 0, 197, 1, []), (156, 1, 3, 0, 0, 0, []), (157, 3, 30, 0, 12, 9, []), (160, 1, 2, 0, 3, 0, []), (161, 1, 34, 0, 0, 0, []), (162, 3, 20, 0, 168, 1, []), (165, 3, 22, 0, 197, 0, []), (168, 1, 3, 0, 0, 0, []), (169, 1, 3, 0, 0, 0, []), (170, 3, 30, 0, 12, 5, []), (173, 1, 2, 0, 3, 0, []), (174, 1, 33, 0, 0, 0, []), (175, 3, 31, 0, 12, 31, []), (178, 1, 3, 0, 0, 0, []), (179, 1, 3, 0, 0, 0, []), (180, 3, 30, 0, 12, 6, []), (183, 1, 2, 0, 3, 0, []), (184, 1, 33, 0, 0, 0, []), (185, 1, 3, 0, 0, 0, []), (186, 3, 30, 0, 12, 7, []), (189, 1, 2, 0, 3, 0, []), (190, 1, 33, 0, 0, 0, []), (191, 1, 15, 0, 0, 0, []), (192, 3, 50, 0, 200, 2, [12, 0, 0]), (195, 1, 0, 1, 0, 0, []), (196, 1, 70, 0, 1, 0, []), (197, 3, 8, 1, 3, 0, []), (200, 3, 22, 0, 131, 0, []), (203, 1, 0, 0, 0, 0, []), (204, 1, 70, 0, 1, 0, [])]
/-- CodeExchangeModel.first(I)I -/
def tk_202 : mK := [(0, 2, 0, 55296, 0, 0, []), (2, 1, 2, 0, 0, 0, []), (3, 2, 0, 65536, 0, 0, []), (5, 1, 9, 0, 0, 1, []), (6, 2, 0, 10, 0, 0, []), (8, 1, 9, 0, 0, 7, []), (9, 1, 9, 0, 0, 0, []), (10, 1, 70, 0, 0, 0, [])]
/-- CodeExchangeModel.second(I)I -/
def tk_203 : mK := [(0, 2, 0, 56320, 0, 0, []), (2, 1, 2, 0, 0, 0, []), (3, 2, 0, 65536, 0, 0, []), (5, 1, 9, 0, 0, 1, []), (6, 3, 0, 1023, 0, 0, []), (9, 1, 9, 0, 0, 3, []), (10, 1, 9, 0, 0, 0, []), (11, 1, 70, 0, 0, 0, [])]
/-- CodeExchangeModel.turned(I)I -/
def tk_204 : mK := [(0, 1, 2, 0, 0, 0, []), (1, 3, 0, 255, 0, 0, []), (4, 1, 9, 0, 0, 3, []), (5, 2, 0, 8, 0, 0, []), (7, 1, 9, 0, 0, 6, []), (8, 1, 2, 0, 0, 0, []), (9, 2, 0, 8, 0, 0, []), (11, 1, 9, 0, 0, 7, []), (12, 1, 9, 0, 0, 4, []), (13, 1, 70, 0, 0, 0, [])]
/-- CodeExchangeModel.few(I)V -/
def tk_205 : mK := [(0, 1, 2, 0, 1, 0, []), (1, 3, 0, 128, 0, 0, []), (4, 3, 21, 0, 11, 3, []), (7, 1, 0, 1, 0, 0, []), (8, 3, 22, 0, 33, 0, []), (11, 1, 2, 0, 1, 0, []), (12, 3, 0, 2048, 0, 0, []), (15, 3, 21, 0, 22, 3, []), (18, 1, 0, 2, 0, 0, []), (19, 3, 22, 0, 33, 0, []), (22, 1, 2, 0, 1, 0, []), (23, 2, 0, 65536, 0, 0, []), (25, 3, 21, 0, 32, 3, []), (28, 1, 0, 3, 0, 0, []), (29, 3, 22, 0, 33, 0, []), (32, 1, 0, 4, 0, 0, []), (33, 1, 5, 0, 2, 0, []), (34, 1, 3, 0, 0, 0, []), (35, 1, 2, 0, 2, 0, []), (36, 3, 31, 0, 12, 32, []), (39, 1, 2, 0, 2, 0, []), (40, 1, 0, 1, 0, 0, []), (41, 1, 9, 0, 0, 1, []), (42, 1, 5, 0, 3, 0, []), (43, 1, 2, 0, 3, 0, []), (44, 3, 20, 0, 76, 5, []), (47, 1, 3, 0, 0, 0, []), (48, 3, 30, 0, 12, 33, []), (51, 1, 2, 0, 3, 0, []), (52, 3, 0, 128, 0, 0, []), (55, 1, 2, 0, 1, 0, []), (56, 2, 0, 6, 0, 0, []), (58, 1, 2, 0, 2, 0, []), (59, 1, 0, 1, 0, 0, []), (60, 1, 9, 0, 0, 1, []), (61, 1, 2, 0, 3, 0, []), (62, 1, 9, 0, 0, 1, []), (63, 1, 9, 0, 0, 2, []), (64, 1, 9, 0, 0, 7, []), (65, 2, 0, 63, 0, 0, []), (67, 1, 9, 0, 0, 3, []), (68, 1, 9, 0, 0, 4, []), (69, 1, 36, 0, 0, 0, []), (70, 3, 8, (-1), 3, 0, []), (73, 3, 22, 0, 43, 0, []), (76, 1, 3, 0, 0, 0, []), (77, 3, 30, 0, 12, 33, []), (80, 1, 0, 0, 0, 0, []), (81, 1, 2, 0, 2, 0, []), (82, 1, 0, 1, 0, 0, []), (83, 3, 21, 0, 90, 1, []), (86, 1, 0, 0, 0, 0, []), (87, 3, 22, 0, 115, 0, []), (90, 1, 2, 0, 2, 0, []), (91, 1, 0, 2, 0, 0, []), (92, 3, 21, 0, 101, 1, []), (95, 3, 0, 192, 0, 0, []), (98, 3, 22, 0, 115, 0, []), (101, 1, 2, 0, 2, 0, []), (102, 1, 0, 3, 0, 0, []), (103, 3, 21, 0, 112, 1, []), (106, 3, 0, 224, 0, 0, []), (109, 3, 22, 0, 115, 0, []), (112, 3, 0, 240, 0, 0, []), (115, 1, 2, 0, 1, 0, []), (116, 2, 0, 6, 0, 0, []), (118, 1, 2, 0, 2, 0, []), (119, 1, 0, 1, 0, 0, []), (120, 1, 9, 0, 0, 1, []), (121, 1, 9, 0, 0, 2, []), (122, 1, 9, 0, 0, 7, []), (123, 1, 9, 0, 0, 4, []), (124, 1, 36, 0, 0, 0, []), (125, 1, 72, 0, 0, 0, [])]
/-- CodeExchangeModel.code(II)J -/
def tk_206 : mK := [(0, 1, 3, 0, 0, 0, []), (1, 1, 2, 0, 1, 0, []), (2, 3, 50, 0, 177, 1, [12, 0, 0]), (5, 3, 20, 0, 15, 1, []), (8, 1, 3, 0, 0, 0, []), (9, 1, 0, (-1), 0, 0, []), (10, 3, 50, 0, 172, 1, [12, 0, 0]), (13, 1, 15, 0, 0, 0, []), (14, 1, 71, 0, 0, 0, []), (15, 1, 3, 0, 0, 0, []), (16, 3, 30, 0, 12, 2, []), (19, 1, 2, 0, 1, 0, []), (20, 1, 34, 0, 0, 0, []), (21, 3, 20, 0, 32, 1, []), (24, 1, 3, 0, 0, 0, []), (25, 2, 0, (-5), 0, 0, []), (27, 3, 50, 0, 172, 1, [12, 0, 0]), (30, 1, 15, 0, 0, 0, []), (31, 1, 71, 0, 0, 0, []), (32, 1, 2, 0, 2, 0, []), (33, 3, 51, 0, 176, 1, [12, 0, 0]), (36, 3, 20, 0, 46, 1, []), (39, 1, 3, 0, 0, 0, []), (40, 1, 0, (-1), 0, 0, []), (41, 3, 50, 0, 172, 1, [12, 0, 0]), (44, 1, 15, 0, 0, 0, []), (45, 1, 71, 0, 0, 0, []), (46, 1, 3, 0, 0, 0, []), (47, 1, 2, 0, 1, 0, []), (48, 1, 2, 0, 2, 0, []), (49, 3, 50, 0, 201, 2, [12, 0, 0]), (52, 3, 20, 0, 63, 1, []), (55, 1, 3, 0, 0, 0, []), (56, 2, 0, (-2), 0, 0, []), (58, 3, 50, 0, 172, 1, [12, 0, 0]), (61, 1, 15, 0, 0, 0, []), (62, 1, 71, 0, 0, 0, []), (63, 1, 1, 0, 0, 0, []), (64, 1, 7, 0, 3, 0, []), (65, 1, 0, 0, 0, 0, []), (66, 2, 5, 0, 5, 0, []), (68, 2, 2, 0, 5, 0, []), (70, 1, 3, 0, 0, 0, []), (71, 3, 30, 0, 12, 32, []), (74, 3, 21, 0, 97, 3, []), (77, 1, 4, 0, 3, 0, []), (78, 2, 0, 8, 0, 0, []), (80, 1, 14, 0, 0, 0, []), (81, 1, 3, 0, 0, 0, []), (82, 3, 30, 0, 12, 33, []), (85, 2, 2, 0, 5, 0, []), (87, 1, 33, 0, 0, 0, []), (88, 1, 15, 0, 0, 0, []), (89, 1, 12, 0, 0, 4, []), (90, 1, 7, 0, 3, 0, []), (91, 3, 8, 1, 5, 0, []), (94, 3, 22, 0, 68, 0, []), (97, 1, 4, 0, 3, 0, []), (98, 1, 3, 0, 0, 0, []), (99, 3, 30, 0, 12, 32, []), (102, 1, 15, 0, 0, 0, []), (103, 2, 0, 32, 0, 0, []), (105, 1, 14, 0, 0, 0, []), (106, 1, 12, 0, 0, 4, []), (107, 1, 71, 0, 0, 0, [])]
/-- CodeExchangeModel.bytesIn(JI)I -/
def tk_207 : mK := [(0, 1, 2, 0, 3, 0, []), (1, 1, 0, 1, 0, 0, []), (2, 2, 0, 8, 0, 0, []), (4, 3, 51, 0, 173, 3, [12, 0, 0]), (7, 3, 20, 0, 16, 1, []), (10, 1, 3, 0, 0, 0, []), (11, 1, 0, (-1), 0, 0, []), (12, 3, 50, 0, 172, 1, [12, 0, 0]), (15, 1, 70, 0, 0, 0, []), (16, 1, 3, 0, 0, 0, []), (17, 3, 30, 0, 12, 14, []), (20, 1, 2, 0, 3, 0, []), (21, 1, 9, 0, 0, 0, []), (22, 3, 0, 1000, 0, 0, []), (25, 3, 21, 0, 35, 5, []), (28, 1, 3, 0, 0, 0, []), (29, 2, 0, (-6), 0, 0, []), (31, 3, 50, 0, 172, 1, [12, 0, 0]), (34, 1, 70, 0, 0, 0, []), (35, 1, 2, 0, 3, 0, []), (36, 1, 0, 1, 0, 0, []), (37, 1, 9, 0, 0, 1, []), (38, 2, 5, 0, 4, 0, []), (40, 2, 2, 0, 4, 0, []), (42, 3, 20, 0, 82, 2, []), (45, 1, 3, 0, 0, 0, []), (46, 3, 30, 0, 12, 15, []), (49, 1, 3, 0, 0, 0, []), (50, 3, 30, 0, 12, 14, []), (53, 1, 4, 0, 1, 0, []), (54, 2, 0, 8, 0, 0, []), (56, 2, 2, 0, 4, 0, []), (58, 1, 9, 0, 0, 2, []), (59, 1, 14, 0, 0, 1, []), (60, 3, 1, 255, 0, 0, []), (63, 1, 12, 0, 0, 3, []), (64, 1, 16, 0, 0, 0, []), (65, 1, 36, 0, 0, 0, []), (66, 1, 3, 0, 0, 0, []), (67, 1, 17, 0, 0, 0, []), (68, 3, 30, 0, 12, 14, []), (71, 1, 0, 1, 0, 0, []), (72, 1, 9, 0, 0, 0, []), (73, 3, 31, 0, 12, 14, []), (76, 3, 8, (-1), 4, 0, []), (79, 3, 22, 0, 40, 0, []), (82, 1, 3, 0, 0, 0, []), (83, 3, 30, 0, 12, 14, []), (86, 1, 70, 0, 0, 0, [])]
/-- CodeExchangeModel.unitsIn(JI)I -/
def tk_208 : mK := [(0, 1, 2, 0, 3, 0, []), (1, 1, 0, 1, 0, 0, []), (2, 1, 0, 4, 0, 0, []), (3, 3, 51, 0, 173, 3, [12, 0, 0]), (6, 3, 20, 0, 15, 1, []), (9, 1, 3, 0, 0, 0, []), (10, 1, 0, (-1), 0, 0, []), (11, 3, 50, 0, 172, 1, [12, 0, 0]), (14, 1, 70, 0, 0, 0, []), (15, 1, 3, 0, 0, 0, []), (16, 3, 30, 0, 12, 16, []), (19, 1, 2, 0, 3, 0, []), (20, 1, 9, 0, 0, 0, []), (21, 3, 0, 1000, 0, 0, []), (24, 3, 21, 0, 34, 5, []), (27, 1, 3, 0, 0, 0, []), (28, 2, 0, (-6), 0, 0, []), (30, 3, 50, 0, 172, 1, [12, 0, 0]), (33, 1, 70, 0, 0, 0, []), (34, 1, 2, 0, 3, 0, []), (35, 1, 0, 1, 0, 0, []), (36, 1, 9, 0, 0, 1, []), (37, 2, 5, 0, 4, 0, []), (39, 2, 2, 0, 4, 0, []), (41, 3, 20, 0, 81, 2, []), (44, 1, 3, 0, 0, 0, []), (45, 3, 30, 0, 12, 17, []), (48, 1, 3, 0, 0, 0, []), (49, 3, 30, 0, 12, 16, []), (52, 1, 4, 0, 1, 0, []), (53, 2, 0, 16, 0, 0, []), (55, 2, 2, 0, 4, 0, []), (57, 1, 9, 0, 0, 2, []), (58, 1, 14, 0, 0, 1, []), (59, 3, 1, 65535, 0, 0, []), (62, 1, 12, 0, 0, 3, []), (63, 1, 16, 0, 0, 0, []), (64, 1, 36, 0, 0, 0, []), (65, 1, 3, 0, 0, 0, []), (66, 1, 17, 0, 0, 0, []), (67, 3, 30, 0, 12, 16, []), (70, 1, 0, 1, 0, 0, []), (71, 1, 9, 0, 0, 0, []), (72, 3, 31, 0, 12, 16, []), (75, 3, 8, (-1), 4, 0, []), (78, 3, 22, 0, 39, 0, []), (81, 1, 3, 0, 0, 0, []), (82, 3, 30, 0, 12, 16, []), (85, 1, 70, 0, 0, 0, [])]
/-- CodeExchangeModel.fill(I)I -/
def tk_209 : mK := [(0, 1, 2, 0, 1, 0, []), (1, 1, 0, 0, 0, 0, []), (2, 1, 0, 3, 0, 0, []), (3, 3, 51, 0, 173, 3, [12, 0, 0]), (6, 3, 20, 0, 15, 1, []), (9, 1, 3, 0, 0, 0, []), (10, 1, 0, (-1), 0, 0, []), (11, 3, 50, 0, 172, 1, [12, 0, 0]), (14, 1, 70, 0, 0, 0, []), (15, 1, 2, 0, 1, 0, []), (16, 3, 20, 0, 31, 1, []), (19, 1, 3, 0, 0, 0, []), (20, 3, 30, 0, 12, 14, []), (23, 1, 5, 0, 2, 0, []), (24, 1, 3, 0, 0, 0, []), (25, 1, 0, 0, 0, 0, []), (26, 3, 31, 0, 12, 14, []), (29, 1, 2, 0, 2, 0, []), (30, 1, 70, 0, 0, 0, []), (31, 1, 2, 0, 1, 0, []), (32, 1, 0, 1, 0, 0, []), (33, 3, 21, 0, 48, 1, []), (36, 1, 3, 0, 0, 0, []), (37, 3, 30, 0, 12, 16, []), (40, 1, 5, 0, 2, 0, []), (41, 1, 3, 0, 0, 0, []), (42, 1, 0, 0, 0, 0, []), (43, 3, 31, 0, 12, 16, []), (46, 1, 2, 0, 2, 0, []), (47, 1, 70, 0, 0, 0, []), (48, 1, 3, 0, 0, 0, []), (49, 3, 30, 0, 12, 19, []), (52, 1, 2, 0, 1, 0, []), (53, 1, 0, 2, 0, 0, []), (54, 3, 21, 0, 61, 1, []), (57, 1, 0, 2, 0, 0, []), (58, 3, 22, 0, 62, 0, []), (61, 1, 0, 1, 0, 0, []), (62, 3, 21, 0, 72, 0, []), (65, 1, 3, 0, 0, 0, []), (66, 2, 0, (-2), 0, 0, []), (68, 3, 50, 0, 172, 1, [12, 0, 0]), (71, 1, 70, 0, 0, 0, []), (72, 1, 3, 0, 0, 0, []), (73, 3, 30, 0, 12, 18, []), (76, 3, 0, 1000, 0, 0, []), (79, 3, 21, 0, 89, 5, []), (82, 1, 3, 0, 0, 0, []), (83, 2, 0, (-6), 0, 0, []), (85, 3, 50, 0, 172, 1, [12, 0, 0]), (88, 1, 70, 0, 0, 0, []), (89, 1, 0, 0, 0, 0, []), (90, 1, 5, 0, 2, 0, []), (91, 1, 2, 0, 2, 0, []), (92, 1, 3, 0, 0, 0, []), (93, 3, 30, 0, 12, 18, []), (96, 3, 21, 0, 137, 3, []), (99, 1, 2, 0, 1, 0, []), (100, 1, 0, 2, 0, 0, []), (101, 3, 21, 0, 119, 1, []), (104, 1, 3, 0, 0, 0, []), (105, 3, 30, 0, 12, 15, []), (108, 1, 2, 0, 2, 0, []), (109, 1, 3, 0, 0, 0, []), (110, 3, 30, 0, 12, 20, []), (113, 1, 2, 0, 2, 0, []), (114, 1, 33, 0, 0, 0, []), (115, 1, 36, 0, 0, 0, []), (116, 3, 22, 0, 131, 0, []), (119, 1, 3, 0, 0, 0, []), (120, 3, 30, 0, 12, 17, []), (123, 1, 2, 0, 2, 0, []), (124, 1, 3, 0, 0, 0, []), (125, 3, 30, 0, 12, 20, []), (128, 1, 2, 0, 2, 0, []), (129, 1, 33, 0, 0, 0, []), (130, 1, 36, 0, 0, 0, []), (131, 3, 8, 1, 2, 0, []), (134, 3, 22, 0, 91, 0, []), (137, 1, 2, 0, 1, 0, []), (138, 1, 0, 2, 0, 0, []), (139, 3, 21, 0, 153, 1, []), (142, 1, 3, 0, 0, 0, []), (143, 1, 3, 0, 0, 0, []), (144, 3, 30, 0, 12, 18, []), (147, 3, 31, 0, 12, 14, []), (150, 3, 22, 0, 161, 0, []), (153, 1, 3, 0, 0, 0, []), (154, 1, 3, 0, 0, 0, []), (155, 3, 30, 0, 12, 18, []), (158, 3, 31, 0, 12, 16, []), (161, 1, 3, 0, 0, 0, []), (162, 3, 30, 0, 12, 18, []), (165, 1, 70, 0, 0, 0, [])]
/-- CodeExchangeModel.put(I)V -/
def tk_210 : mK := [(0, 1, 3, 0, 0, 0, []), (1, 3, 30, 0, 12, 36, []), (4, 1, 3, 0, 0, 0, []), (5, 3, 30, 0, 12, 37, []), (8, 1, 2, 0, 1, 0, []), (9, 1, 36, 0, 0, 0, []), (10, 1, 3, 0, 0, 0, []), (11, 1, 17, 0, 0, 0, []), (12, 3, 30, 0, 12, 37, []), (15, 1, 0, 1, 0, 0, []), (16, 1, 9, 0, 0, 0, []), (17, 3, 31, 0, 12, 37, []), (20, 1, 72, 0, 0, 0, [])]
/-- CodeExchangeModel.putUnits(I)V -/
def tk_211 : mK := [(0, 1, 2, 0, 1, 0, []), (1, 2, 0, 65536, 0, 0, []), (3, 3, 21, 0, 12, 3, []), (6, 1, 3, 0, 0, 0, []), (7, 1, 2, 0, 1, 0, []), (8, 3, 50, 0, 210, 1, [12, 0, 0]), (11, 1, 72, 0, 0, 0, []), (12, 1, 3, 0, 0, 0, []), (13, 1, 2, 0, 1, 0, []), (14, 3, 51, 0, 202, 1, [12, 0, 0]), (17, 3, 50, 0, 210, 1, [12, 0, 0]), (20, 1, 3, 0, 0, 0, []), (21, 1, 2, 0, 1, 0, []), (22, 3, 51, 0, 203, 1, [12, 0, 0]), (25, 3, 50, 0, 210, 1, [12, 0, 0]), (28, 1, 72, 0, 0, 0, [])]
/-- CodeExchangeModel.look(I[III)I -/
def tk_212_0 : mK := [(0, 1, 3, 0, 0, 0, []), (1, 3, 30, 0, 12, 1, []), (4, 1, 2, 0, 1, 0, []), (5, 1, 33, 0, 0, 0, []), (6, 1, 0, 3, 0, 0, []), (7, 3, 21, 0, 19, 1, []), (10, 1, 3, 0, 0, 0, []), (11, 1, 3, 0, 2, 0, []), (12, 1, 2, 0, 3, 0, []), (13, 2, 2, 0, 4, 0, []), (15, 3, 50, 0, 214, 3, [12, 0, 0]), (18, 1, 70, 0, 0, 0, []), (19, 1, 3, 0, 0, 0, []), (20, 3, 30, 0, 12, 1, []), (23, 1, 2, 0, 1, 0, []), (24, 1, 33, 0, 0, 0, []), (25, 3, 20, 0, 52, 0, []), (28, 1, 3, 0, 0, 0, []), (29, 1, 3, 0, 0, 0, []), (30, 3, 30, 0, 12, 1, []), (33, 1, 2, 0, 1, 0, []), (34, 1, 33, 0, 0, 0, []), (35, 1, 0, 1, 0, 0, []), (36, 3, 21, 0, 43, 1, []), (39, 1, 0, 1, 0, 0, []), (40, 3, 22, 0, 44, 0, []), (43, 1, 0, 0, 0, 0, []), (44, 1, 3, 0, 2, 0, []), (45, 1, 2, 0, 3, 0, []), (46, 2, 2, 0, 4, 0, []), (48, 3, 50, 0, 213, 4, [12, 0, 0]), (51, 1, 70, 0, 0, 0, []), (52, 1, 3, 0, 0, 0, []), (53, 3, 30, 0, 12, 35, []), (56, 1, 0, 4, 0, 0, []), (57, 3, 21, 0, 67, 1, []), (60, 1, 3, 0, 0, 0, []), (61, 3, 30, 0, 12, 34, []), (64, 3, 22, 0, 71, 0, []), (67, 1, 3, 0, 0, 0, []), (68, 3, 30, 0, 12, 35, []), (71, 2, 5, 0, 5, 0, []), (73, 1, 0, 0, 0, 0, []), (74, 2, 5, 0, 6, 0, []), (76, 2, 0, 100, 0, 0, []), (78, 1, 2, 0, 1, 0, []), (79, 1, 9, 0, 0, 2, []), (80, 2, 5, 0, 7, 0, []), (82, 2, 2, 0, 7, 0, []), (84, 2, 0, 100, 0, 0, []), (86, 1, 2, 0, 1, 0, []), (87, 1, 9, 0, 0, 2, []), (88, 1, 3, 0, 0, 0, []), (89, 3, 30, 0, 12, 3, []), (92, 1, 2, 0, 1, 0, []), (93, 1, 33, 0, 0, 0, []), (94, 1, 9, 0, 0, 0, []), (95, 3, 21, 0, 231, 3, []), (98, 1, 3, 0, 0, 0, []), (99, 3, 30, 0, 12, 5, []), (102, 2, 2, 0, 7, 0, []), (104, 1, 33, 0, 0, 0, []), (105, 2, 2, 0, 5, 0, []), (107, 3, 21, 0, 113, 0, []), (110, 3, 22, 0, 225, 0, []), (113, 1, 3, 0, 0, 0, []), (114, 3, 30, 0, 12, 6, []), (117, 2, 2, 0, 7, 0, []), (119, 1, 33, 0, 0, 0, []), (120, 2, 5, 0, 8, 0, []), (122, 1, 0, 0, 0, 0, []), (123, 2, 5, 0, 9, 0, []), (125, 2, 2, 0, 9, 0, []), (127, 2, 2, 0, 8, 0, []), (129, 3, 21, 0, 178, 3, []), (132, 1, 2, 0, 3, 0, []), (133, 2, 2, 0, 9, 0, []), (135, 1, 9, 0, 0, 0, []), (136, 2, 2, 0, 4, 0, []), (138, 3, 21, 0, 178, 3, []), (141, 1, 3, 0, 2, 0, []), (142, 1, 2, 0, 3, 0, []), (143, 2, 2, 0, 9, 0, []), (145, 1, 9, 0, 0, 0, []), (146, 1, 33, 0, 0, 0, []), (147, 1, 3, 0, 0, 0, []), (148, 3, 30, 0, 12, 7, []), (151, 2, 2, 0, 7, 0, []), (153, 1, 33, 0, 0, 0, []), (154, 2, 0, 8, 0, 0, []), (156, 2, 2, 0, 8, 0, []), (158, 1, 0, 1, 0, 0, []), (159, 1, 9, 0, 0, 1, []), (160, 2, 2, 0, 9, 0, []), (162, 1, 9, 0, 0, 1, []), (163, 1, 9, 0, 0, 2, []), (164, 1, 9, 0, 0, 7, []), (165, 3, 0, 255, 0, 0, []), (168, 1, 9, 0, 0, 3, []), (169, 3, 21, 0, 178, 1, [])]
def tk_212_1 : mK := [(172, 3, 8, 1, 9, 0, []), (175, 3, 22, 0, 125, 0, []), (178, 2, 2, 0, 9, 0, []), (180, 2, 2, 0, 8, 0, []), (182, 3, 21, 0, 204, 1, []), (185, 1, 3, 0, 0, 0, []), (186, 2, 2, 0, 8, 0, []), (188, 3, 31, 0, 12, 40, []), (191, 1, 3, 0, 0, 0, []), (192, 1, 3, 0, 0, 0, []), (193, 3, 30, 0, 12, 8, []), (196, 2, 2, 0, 7, 0, []), (198, 1, 33, 0, 0, 0, []), (199, 3, 31, 0, 12, 41, []), (202, 1, 0, 2, 0, 0, []), (203, 1, 70, 0, 0, 0, []), (204, 2, 2, 0, 6, 0, []), (206, 3, 20, 0, 218, 1, []), (209, 1, 2, 0, 3, 0, []), (210, 2, 2, 0, 9, 0, []), (212, 1, 9, 0, 0, 0, []), (213, 2, 2, 0, 4, 0, []), (215, 3, 21, 0, 222, 1, []), (218, 1, 0, 1, 0, 0, []), (219, 3, 22, 0, 223, 0, []), (222, 1, 0, 0, 0, 0, []), (223, 2, 5, 0, 6, 0, []), (225, 3, 8, 1, 7, 0, []), (228, 3, 22, 0, 82, 0, []), (231, 1, 3, 0, 0, 0, []), (232, 1, 3, 0, 0, 0, []), (233, 3, 30, 0, 12, 35, []), (236, 1, 0, 4, 0, 0, []), (237, 3, 21, 0, 259, 1, []), (240, 1, 2, 0, 3, 0, []), (241, 2, 2, 0, 4, 0, []), (243, 3, 21, 0, 259, 3, []), (246, 1, 3, 0, 0, 0, []), (247, 1, 2, 0, 1, 0, []), (248, 2, 2, 0, 5, 0, []), (250, 1, 3, 0, 2, 0, []), (251, 1, 2, 0, 3, 0, []), (252, 1, 33, 0, 0, 0, []), (253, 3, 50, 0, 185, 3, [12, 0, 0]), (256, 3, 22, 0, 260, 0, []), (259, 1, 0, (-1), 0, 0, []), (260, 3, 31, 0, 12, 42, []), (263, 1, 3, 0, 0, 0, []), (264, 3, 30, 0, 12, 42, []), (267, 3, 20, 0, 274, 2, []), (270, 1, 0, 3, 0, 0, []), (271, 3, 22, 0, 284, 0, []), (274, 2, 2, 0, 6, 0, []), (276, 3, 20, 0, 283, 0, []), (279, 1, 0, 1, 0, 0, []), (280, 3, 22, 0, 284, 0, []), (283, 1, 0, 0, 0, 0, []), (284, 1, 70, 0, 0, 0, [])]
def tk_212 : mK := tk_212_0 ++ (tk_212_1)
/-- CodeExchangeModel.lookUnits(Z[III)I -/
def tk_213_0 : mK := [(0, 2, 2, 0, 4, 0, []), (2, 1, 2, 0, 3, 0, []), (3, 1, 9, 0, 0, 1, []), (4, 2, 5, 0, 5, 0, []), (6, 1, 2, 0, 1, 0, []), (7, 3, 20, 0, 16, 1, []), (10, 2, 2, 0, 5, 0, []), (12, 1, 0, 2, 0, 0, []), (13, 3, 21, 0, 20, 3, []), (16, 1, 0, (-1), 0, 0, []), (17, 3, 22, 0, 32, 0, []), (20, 1, 3, 0, 2, 0, []), (21, 1, 2, 0, 3, 0, []), (22, 1, 33, 0, 0, 0, []), (23, 1, 3, 0, 2, 0, []), (24, 1, 2, 0, 3, 0, []), (25, 1, 0, 1, 0, 0, []), (26, 1, 9, 0, 0, 0, []), (27, 1, 33, 0, 0, 0, []), (28, 2, 0, 8, 0, 0, []), (30, 1, 9, 0, 0, 6, []), (31, 1, 9, 0, 0, 4, []), (32, 2, 5, 0, 6, 0, []), (34, 1, 2, 0, 1, 0, []), (35, 3, 20, 0, 92, 0, []), (38, 2, 2, 0, 5, 0, []), (40, 1, 0, 1, 0, 0, []), (41, 3, 21, 0, 56, 2, []), (44, 1, 3, 0, 2, 0, []), (45, 1, 2, 0, 3, 0, []), (46, 1, 33, 0, 0, 0, []), (47, 2, 0, 8, 0, 0, []), (49, 1, 9, 0, 0, 6, []), (50, 3, 51, 0, 175, 1, [12, 0, 0]), (53, 3, 20, 0, 68, 0, []), (56, 2, 2, 0, 5, 0, []), (58, 1, 0, 1, 0, 0, []), (59, 3, 21, 0, 66, 3, []), (62, 1, 0, 1, 0, 0, []), (63, 3, 22, 0, 67, 0, []), (66, 1, 0, 0, 0, 0, []), (67, 1, 70, 0, 0, 0, []), (68, 2, 2, 0, 5, 0, []), (70, 1, 0, 2, 0, 0, []), (71, 3, 21, 0, 78, 3, []), (74, 1, 0, (-1), 0, 0, []), (75, 3, 22, 0, 90, 0, []), (78, 1, 3, 0, 2, 0, []), (79, 1, 2, 0, 3, 0, []), (80, 1, 33, 0, 0, 0, []), (81, 2, 0, 8, 0, 0, []), (83, 1, 9, 0, 0, 6, []), (84, 1, 3, 0, 2, 0, []), (85, 1, 2, 0, 3, 0, []), (86, 1, 0, 1, 0, 0, []), (87, 1, 9, 0, 0, 0, []), (88, 1, 33, 0, 0, 0, []), (89, 1, 9, 0, 0, 4, []), (90, 2, 5, 0, 6, 0, []), (92, 2, 2, 0, 5, 0, []), (94, 1, 0, 2, 0, 0, []), (95, 3, 21, 0, 100, 3, []), (98, 1, 0, 1, 0, 0, []), (99, 1, 70, 0, 0, 0, []), (100, 2, 2, 0, 6, 0, []), (102, 3, 51, 0, 175, 1, [12, 0, 0]), (105, 3, 20, 0, 110, 0, []), (108, 1, 0, 0, 0, 0, []), (109, 1, 70, 0, 0, 0, []), (110, 2, 2, 0, 6, 0, []), (112, 3, 51, 0, 174, 1, [12, 0, 0]), (115, 3, 20, 0, 131, 1, []), (118, 1, 3, 0, 0, 0, []), (119, 1, 0, 2, 0, 0, []), (120, 3, 31, 0, 12, 40, []), (123, 1, 3, 0, 0, 0, []), (124, 2, 2, 0, 6, 0, []), (126, 3, 31, 0, 12, 41, []), (129, 1, 0, 2, 0, 0, []), (130, 1, 70, 0, 0, 0, []), (131, 2, 2, 0, 5, 0, []), (133, 1, 0, 3, 0, 0, []), (134, 3, 21, 0, 147, 2, []), (137, 1, 2, 0, 1, 0, []), (138, 3, 20, 0, 149, 1, []), (141, 2, 2, 0, 5, 0, []), (143, 1, 0, 4, 0, 0, []), (144, 3, 21, 0, 149, 3, []), (147, 1, 0, 1, 0, 0, []), (148, 1, 70, 0, 0, 0, []), (149, 1, 2, 0, 1, 0, []), (150, 3, 20, 0, 169, 0, []), (153, 1, 3, 0, 2, 0, []), (154, 1, 2, 0, 3, 0, []), (155, 1, 0, 2, 0, 0, []), (156, 1, 9, 0, 0, 0, []), (157, 1, 33, 0, 0, 0, []), (158, 2, 0, 8, 0, 0, []), (160, 1, 9, 0, 0, 6, []), (161, 3, 51, 0, 175, 1, [12, 0, 0])]
def tk_213_1 : mK := [(164, 3, 20, 0, 169, 1, []), (167, 1, 0, 0, 0, 0, []), (168, 1, 70, 0, 0, 0, []), (169, 2, 2, 0, 5, 0, []), (171, 1, 0, 4, 0, 0, []), (172, 3, 21, 0, 177, 3, []), (175, 1, 0, 1, 0, 0, []), (176, 1, 70, 0, 0, 0, []), (177, 1, 2, 0, 1, 0, []), (178, 3, 20, 0, 198, 0, []), (181, 1, 3, 0, 2, 0, []), (182, 1, 2, 0, 3, 0, []), (183, 1, 0, 2, 0, 0, []), (184, 1, 9, 0, 0, 0, []), (185, 1, 33, 0, 0, 0, []), (186, 2, 0, 8, 0, 0, []), (188, 1, 9, 0, 0, 6, []), (189, 1, 3, 0, 2, 0, []), (190, 1, 2, 0, 3, 0, []), (191, 1, 0, 3, 0, 0, []), (192, 1, 9, 0, 0, 0, []), (193, 1, 33, 0, 0, 0, []), (194, 1, 9, 0, 0, 4, []), (195, 3, 22, 0, 212, 0, []), (198, 1, 3, 0, 2, 0, []), (199, 1, 2, 0, 3, 0, []), (200, 1, 0, 2, 0, 0, []), (201, 1, 9, 0, 0, 0, []), (202, 1, 33, 0, 0, 0, []), (203, 1, 3, 0, 2, 0, []), (204, 1, 2, 0, 3, 0, []), (205, 1, 0, 3, 0, 0, []), (206, 1, 9, 0, 0, 0, []), (207, 1, 33, 0, 0, 0, []), (208, 2, 0, 8, 0, 0, []), (210, 1, 9, 0, 0, 6, []), (211, 1, 9, 0, 0, 4, []), (212, 2, 5, 0, 7, 0, []), (214, 2, 2, 0, 7, 0, []), (216, 3, 51, 0, 175, 1, [12, 0, 0]), (219, 3, 20, 0, 224, 1, []), (222, 1, 0, 0, 0, 0, []), (223, 1, 70, 0, 0, 0, []), (224, 1, 3, 0, 0, 0, []), (225, 1, 0, 4, 0, 0, []), (226, 3, 31, 0, 12, 40, []), (229, 1, 3, 0, 0, 0, []), (230, 2, 0, 65536, 0, 0, []), (232, 2, 2, 0, 6, 0, []), (234, 2, 0, 55296, 0, 0, []), (236, 1, 9, 0, 0, 1, []), (237, 2, 0, 10, 0, 0, []), (239, 1, 9, 0, 0, 6, []), (240, 1, 9, 0, 0, 0, []), (241, 2, 2, 0, 7, 0, []), (243, 1, 9, 0, 0, 0, []), (244, 2, 0, 56320, 0, 0, []), (246, 1, 9, 0, 0, 1, []), (247, 3, 31, 0, 12, 41, []), (250, 1, 0, 2, 0, 0, []), (251, 1, 70, 0, 0, 0, [])]
def tk_213 : mK := tk_213_0 ++ (tk_213_1)
/-- CodeExchangeModel.lookFew([III)I -/
def tk_214_0 : mK := [(0, 1, 2, 0, 2, 0, []), (1, 1, 2, 0, 3, 0, []), (2, 3, 21, 0, 7, 2, []), (5, 1, 0, 1, 0, 0, []), (6, 1, 70, 0, 0, 0, []), (7, 1, 3, 0, 1, 0, []), (8, 1, 2, 0, 2, 0, []), (9, 1, 33, 0, 0, 0, []), (10, 2, 5, 0, 4, 0, []), (12, 2, 2, 0, 4, 0, []), (14, 3, 0, 128, 0, 0, []), (17, 3, 21, 0, 24, 3, []), (20, 1, 0, 1, 0, 0, []), (21, 3, 22, 0, 79, 0, []), (24, 2, 2, 0, 4, 0, []), (26, 3, 0, 194, 0, 0, []), (29, 3, 0, 223, 0, 0, []), (32, 3, 51, 0, 173, 3, [12, 0, 0]), (35, 3, 20, 0, 42, 0, []), (38, 1, 0, 2, 0, 0, []), (39, 3, 22, 0, 79, 0, []), (42, 2, 2, 0, 4, 0, []), (44, 3, 0, 224, 0, 0, []), (47, 3, 0, 239, 0, 0, []), (50, 3, 51, 0, 173, 3, [12, 0, 0]), (53, 3, 20, 0, 60, 0, []), (56, 1, 0, 3, 0, 0, []), (57, 3, 22, 0, 79, 0, []), (60, 2, 2, 0, 4, 0, []), (62, 3, 0, 240, 0, 0, []), (65, 3, 0, 244, 0, 0, []), (68, 3, 51, 0, 173, 3, [12, 0, 0]), (71, 3, 20, 0, 78, 0, []), (74, 1, 0, 4, 0, 0, []), (75, 3, 22, 0, 79, 0, []), (78, 1, 0, 0, 0, 0, []), (79, 2, 5, 0, 5, 0, []), (81, 2, 2, 0, 5, 0, []), (83, 3, 20, 0, 88, 1, []), (86, 1, 0, 0, 0, 0, []), (87, 1, 70, 0, 0, 0, []), (88, 2, 2, 0, 5, 0, []), (90, 1, 0, 1, 0, 0, []), (91, 3, 21, 0, 99, 1, []), (94, 2, 2, 0, 4, 0, []), (96, 3, 22, 0, 126, 0, []), (99, 2, 2, 0, 4, 0, []), (101, 2, 2, 0, 5, 0, []), (103, 1, 0, 2, 0, 0, []), (104, 3, 21, 0, 112, 1, []), (107, 2, 0, 31, 0, 0, []), (109, 3, 22, 0, 125, 0, []), (112, 2, 2, 0, 5, 0, []), (114, 1, 0, 3, 0, 0, []), (115, 3, 21, 0, 123, 1, []), (118, 2, 0, 15, 0, 0, []), (120, 3, 22, 0, 125, 0, []), (123, 2, 0, 7, 0, 0, []), (125, 1, 9, 0, 0, 3, []), (126, 2, 5, 0, 6, 0, []), (128, 1, 0, 1, 0, 0, []), (129, 2, 5, 0, 7, 0, []), (131, 2, 2, 0, 7, 0, []), (133, 2, 2, 0, 5, 0, []), (135, 3, 21, 0, 279, 3, []), (138, 1, 2, 0, 2, 0, []), (139, 2, 2, 0, 7, 0, []), (141, 1, 9, 0, 0, 0, []), (142, 1, 2, 0, 3, 0, []), (143, 3, 21, 0, 148, 2, []), (146, 1, 0, 1, 0, 0, []), (147, 1, 70, 0, 0, 0, []), (148, 1, 3, 0, 1, 0, []), (149, 1, 2, 0, 2, 0, []), (150, 2, 2, 0, 7, 0, []), (152, 1, 9, 0, 0, 0, []), (153, 1, 33, 0, 0, 0, []), (154, 2, 5, 0, 8, 0, []), (156, 2, 2, 0, 8, 0, []), (158, 3, 0, 128, 0, 0, []), (161, 3, 0, 191, 0, 0, []), (164, 3, 51, 0, 173, 3, [12, 0, 0]), (167, 3, 20, 0, 172, 1, []), (170, 1, 0, 0, 0, 0, []), (171, 1, 70, 0, 0, 0, []), (172, 2, 2, 0, 6, 0, []), (174, 2, 0, 6, 0, 0, []), (176, 1, 9, 0, 0, 6, []), (177, 2, 2, 0, 8, 0, []), (179, 2, 0, 63, 0, 0, []), (181, 1, 9, 0, 0, 3, []), (182, 1, 9, 0, 0, 4, []), (183, 2, 5, 0, 6, 0, []), (185, 2, 2, 0, 6, 0, []), (187, 2, 0, 6, 0, 0, []), (189, 2, 2, 0, 5, 0, []), (191, 1, 0, 1, 0, 0, []), (192, 1, 9, 0, 0, 1, []), (193, 2, 2, 0, 7, 0, []), (195, 1, 9, 0, 0, 1, [])]
def tk_214_1 : mK := [(196, 1, 9, 0, 0, 2, []), (197, 1, 9, 0, 0, 6, []), (198, 2, 5, 0, 9, 0, []), (200, 2, 2, 0, 9, 0, []), (202, 1, 0, 1, 0, 0, []), (203, 2, 0, 6, 0, 0, []), (205, 2, 2, 0, 5, 0, []), (207, 1, 0, 1, 0, 0, []), (208, 1, 9, 0, 0, 1, []), (209, 2, 2, 0, 7, 0, []), (211, 1, 9, 0, 0, 1, []), (212, 1, 9, 0, 0, 2, []), (213, 1, 9, 0, 0, 6, []), (214, 1, 9, 0, 0, 0, []), (215, 1, 0, 1, 0, 0, []), (216, 1, 9, 0, 0, 1, []), (217, 2, 5, 0, 10, 0, []), (219, 2, 2, 0, 10, 0, []), (221, 2, 2, 0, 5, 0, []), (223, 1, 0, 2, 0, 0, []), (224, 3, 21, 0, 233, 1, []), (227, 3, 0, 128, 0, 0, []), (230, 3, 22, 0, 247, 0, []), (233, 2, 2, 0, 5, 0, []), (235, 1, 0, 3, 0, 0, []), (236, 3, 21, 0, 245, 1, []), (239, 3, 0, 2048, 0, 0, []), (242, 3, 22, 0, 247, 0, []), (245, 2, 0, 65536, 0, 0, []), (247, 3, 21, 0, 271, 2, []), (250, 2, 2, 0, 9, 0, []), (252, 2, 0, 1114111, 0, 0, []), (254, 3, 21, 0, 271, 4, []), (257, 2, 2, 0, 9, 0, []), (259, 2, 0, 55296, 0, 0, []), (261, 3, 21, 0, 273, 2, []), (264, 2, 2, 0, 10, 0, []), (266, 2, 0, 57343, 0, 0, []), (268, 3, 21, 0, 273, 4, []), (271, 1, 0, 0, 0, 0, []), (272, 1, 70, 0, 0, 0, []), (273, 3, 8, 1, 7, 0, []), (276, 3, 22, 0, 131, 0, []), (279, 1, 3, 0, 0, 0, []), (280, 2, 2, 0, 5, 0, []), (282, 3, 31, 0, 12, 40, []), (285, 1, 3, 0, 0, 0, []), (286, 2, 2, 0, 6, 0, []), (288, 3, 31, 0, 12, 41, []), (291, 1, 0, 2, 0, 0, []), (292, 1, 70, 0, 0, 0, [])]
def tk_214 : mK := tk_214_0 ++ (tk_214_1)
/-- CodeExchangeModel.readOne(II[IIIZ)I -/
def tk_215 : mK := [(0, 1, 3, 0, 0, 0, []), (1, 1, 2, 0, 1, 0, []), (2, 1, 3, 0, 3, 0, []), (3, 2, 2, 0, 4, 0, []), (5, 2, 2, 0, 5, 0, []), (7, 3, 50, 0, 212, 4, [12, 0, 0]), (10, 2, 5, 0, 7, 0, []), (12, 2, 2, 0, 7, 0, []), (14, 1, 0, 1, 0, 0, []), (15, 3, 21, 0, 25, 1, []), (18, 2, 2, 0, 6, 0, []), (20, 3, 20, 0, 25, 1, []), (23, 1, 0, 0, 0, 0, []), (24, 1, 70, 0, 0, 0, []), (25, 2, 2, 0, 7, 0, []), (27, 1, 0, 2, 0, 0, []), (28, 3, 21, 0, 49, 1, []), (31, 1, 3, 0, 0, 0, []), (32, 1, 3, 0, 0, 0, []), (33, 3, 30, 0, 12, 41, []), (36, 3, 50, 0, 211, 1, [12, 0, 0]), (39, 1, 3, 0, 0, 0, []), (40, 1, 0, 4, 0, 0, []), (41, 3, 31, 0, 12, 35, []), (44, 1, 3, 0, 0, 0, []), (45, 3, 30, 0, 12, 40, []), (48, 1, 70, 0, 0, 0, []), (49, 2, 2, 0, 7, 0, []), (51, 1, 0, 3, 0, 0, []), (52, 3, 21, 0, 98, 1, []), (55, 1, 3, 0, 0, 0, []), (56, 3, 30, 0, 12, 13, []), (59, 1, 3, 0, 0, 0, []), (60, 3, 30, 0, 12, 42, []), (63, 1, 34, 0, 0, 0, []), (64, 3, 20, 0, 83, 0, []), (67, 1, 3, 0, 0, 0, []), (68, 1, 3, 0, 0, 0, []), (69, 3, 30, 0, 12, 12, []), (72, 1, 3, 0, 0, 0, []), (73, 3, 30, 0, 12, 42, []), (76, 1, 33, 0, 0, 0, []), (77, 3, 31, 0, 12, 34, []), (80, 3, 22, 0, 96, 0, []), (83, 1, 3, 0, 0, 0, []), (84, 1, 3, 0, 0, 0, []), (85, 3, 30, 0, 12, 12, []), (88, 1, 3, 0, 0, 0, []), (89, 3, 30, 0, 12, 42, []), (92, 1, 33, 0, 0, 0, []), (93, 3, 31, 0, 12, 35, []), (96, 1, 0, 1, 0, 0, []), (97, 1, 70, 0, 0, 0, []), (98, 1, 3, 0, 0, 0, []), (99, 1, 17, 0, 0, 0, []), (100, 3, 30, 0, 12, 39, []), (103, 1, 0, 1, 0, 0, []), (104, 1, 9, 0, 0, 0, []), (105, 3, 31, 0, 12, 39, []), (108, 1, 2, 0, 2, 0, []), (109, 3, 20, 0, 115, 1, []), (112, 2, 0, (-9), 0, 0, []), (114, 1, 70, 0, 0, 0, []), (115, 1, 3, 0, 0, 0, []), (116, 1, 0, 4, 0, 0, []), (117, 3, 31, 0, 12, 35, []), (120, 1, 2, 0, 2, 0, []), (121, 1, 0, 1, 0, 0, []), (122, 3, 21, 0, 135, 1, []), (125, 1, 3, 0, 0, 0, []), (126, 1, 3, 0, 0, 0, []), (127, 3, 30, 0, 12, 21, []), (130, 1, 0, 0, 0, 0, []), (131, 1, 33, 0, 0, 0, []), (132, 3, 50, 0, 211, 1, [12, 0, 0]), (135, 1, 2, 0, 2, 0, []), (136, 1, 0, 3, 0, 0, []), (137, 3, 21, 0, 151, 1, []), (140, 1, 3, 0, 0, 0, []), (141, 2, 0, 56320, 0, 0, []), (143, 1, 3, 0, 3, 0, []), (144, 2, 2, 0, 4, 0, []), (146, 1, 33, 0, 0, 0, []), (147, 1, 9, 0, 0, 0, []), (148, 3, 50, 0, 210, 1, [12, 0, 0]), (151, 1, 0, 1, 0, 0, []), (152, 1, 70, 0, 0, 0, [])]
/-- CodeExchangeModel.readAll(II[I)I -/
def tk_216 : mK := [(0, 1, 3, 0, 0, 0, []), (1, 1, 0, 0, 0, 0, []), (2, 3, 31, 0, 12, 34, []), (5, 1, 3, 0, 0, 0, []), (6, 1, 0, 4, 0, 0, []), (7, 3, 31, 0, 12, 35, []), (10, 1, 3, 0, 0, 0, []), (11, 1, 3, 0, 3, 0, []), (12, 3, 31, 0, 12, 36, []), (15, 1, 3, 0, 0, 0, []), (16, 1, 0, 0, 0, 0, []), (17, 3, 31, 0, 12, 37, []), (20, 1, 3, 0, 0, 0, []), (21, 1, 0, 0, 0, 0, []), (22, 3, 31, 0, 12, 39, []), (25, 1, 0, 0, 0, 0, []), (26, 2, 5, 0, 4, 0, []), (28, 2, 2, 0, 4, 0, []), (30, 1, 3, 0, 0, 0, []), (31, 3, 30, 0, 12, 14, []), (34, 3, 21, 0, 80, 3, []), (37, 1, 3, 0, 0, 0, []), (38, 1, 2, 0, 1, 0, []), (39, 1, 2, 0, 2, 0, []), (40, 1, 3, 0, 0, 0, []), (41, 3, 30, 0, 12, 15, []), (44, 2, 2, 0, 4, 0, []), (46, 1, 3, 0, 0, 0, []), (47, 3, 30, 0, 12, 14, []), (50, 1, 0, 1, 0, 0, []), (51, 3, 50, 0, 215, 6, [12, 0, 0]), (54, 2, 5, 0, 5, 0, []), (56, 2, 2, 0, 5, 0, []), (58, 3, 20, 0, 70, 3, []), (61, 1, 3, 0, 0, 0, []), (62, 2, 2, 0, 4, 0, []), (64, 3, 31, 0, 12, 22, []), (67, 2, 2, 0, 5, 0, []), (69, 1, 70, 0, 0, 0, []), (70, 2, 2, 0, 4, 0, []), (72, 2, 2, 0, 5, 0, []), (74, 1, 9, 0, 0, 0, []), (75, 2, 5, 0, 4, 0, []), (77, 3, 22, 0, 28, 0, []), (80, 1, 3, 0, 0, 0, []), (81, 3, 30, 0, 12, 37, []), (84, 1, 70, 0, 0, 0, [])]
/-- CodeExchangeModel.leads(IIIIZ)Z -/
def tk_217 : mK := [(0, 2, 2, 0, 4, 0, []), (2, 3, 20, 0, 16, 1, []), (5, 1, 2, 0, 2, 0, []), (6, 1, 2, 0, 3, 0, []), (7, 3, 21, 0, 14, 1, []), (10, 1, 0, 1, 0, 0, []), (11, 3, 22, 0, 15, 0, []), (14, 1, 0, 0, 0, 0, []), (15, 1, 70, 0, 1, 0, []), (16, 1, 0, 0, 0, 0, []), (17, 2, 5, 0, 6, 0, []), (19, 2, 2, 0, 6, 0, []), (21, 3, 0, 256, 0, 0, []), (24, 3, 21, 0, 151, 3, []), (27, 1, 3, 0, 0, 0, []), (28, 1, 2, 0, 1, 0, []), (29, 1, 2, 0, 2, 0, []), (30, 2, 2, 0, 6, 0, []), (32, 3, 50, 0, 185, 3, [12, 0, 0]), (35, 2, 5, 0, 7, 0, []), (37, 2, 2, 0, 7, 0, []), (39, 3, 20, 0, 45, 3, []), (42, 3, 22, 0, 145, 0, []), (45, 2, 2, 0, 4, 0, []), (47, 1, 0, 1, 0, 0, []), (48, 3, 21, 0, 85, 1, []), (51, 1, 3, 0, 0, 0, []), (52, 3, 30, 0, 12, 12, []), (55, 2, 2, 0, 7, 0, []), (57, 1, 33, 0, 0, 0, []), (58, 1, 2, 0, 3, 0, []), (59, 3, 21, 0, 81, 1, []), (62, 1, 3, 0, 0, 0, []), (63, 3, 30, 0, 12, 13, []), (66, 2, 2, 0, 7, 0, []), (68, 1, 34, 0, 0, 0, []), (69, 3, 20, 0, 77, 1, []), (72, 2, 2, 0, 5, 0, []), (74, 3, 20, 0, 81, 0, []), (77, 1, 0, 1, 0, 0, []), (78, 3, 22, 0, 122, 0, []), (81, 1, 0, 0, 0, 0, []), (82, 3, 22, 0, 122, 0, []), (85, 1, 3, 0, 0, 0, []), (86, 3, 30, 0, 12, 13, []), (89, 2, 2, 0, 7, 0, []), (91, 1, 34, 0, 0, 0, []), (92, 3, 20, 0, 121, 0, []), (95, 1, 3, 0, 0, 0, []), (96, 1, 2, 0, 1, 0, []), (97, 1, 3, 0, 0, 0, []), (98, 3, 30, 0, 12, 12, []), (101, 2, 2, 0, 7, 0, []), (103, 1, 33, 0, 0, 0, []), (104, 1, 2, 0, 3, 0, []), (105, 2, 2, 0, 4, 0, []), (107, 1, 0, 1, 0, 0, []), (108, 1, 9, 0, 0, 1, []), (109, 2, 2, 0, 5, 0, []), (111, 3, 50, 0, 217, 5, [12, 0, 0]), (114, 3, 20, 0, 121, 0, []), (117, 1, 0, 1, 0, 0, []), (118, 3, 22, 0, 122, 0, []), (121, 1, 0, 0, 0, 0, []), (122, 2, 5, 0, 8, 0, []), (124, 2, 2, 0, 8, 0, []), (126, 3, 20, 0, 132, 1, []), (129, 3, 22, 0, 145, 0, []), (132, 1, 3, 0, 0, 0, []), (133, 3, 30, 0, 12, 46, []), (136, 2, 2, 0, 4, 0, []), (138, 1, 0, 1, 0, 0, []), (139, 1, 9, 0, 0, 1, []), (140, 2, 2, 0, 7, 0, []), (142, 1, 36, 0, 0, 0, []), (143, 1, 0, 1, 0, 0, []), (144, 1, 70, 0, 1, 0, []), (145, 3, 8, 1, 6, 0, []), (148, 3, 22, 0, 19, 0, []), (151, 1, 0, 0, 0, 0, []), (152, 1, 70, 0, 1, 0, [])]
/-- CodeExchangeModel.putByte(I)I -/
def tk_218 : mK := [(0, 1, 3, 0, 0, 0, []), (1, 3, 30, 0, 12, 37, []), (4, 1, 3, 0, 0, 0, []), (5, 3, 30, 0, 12, 38, []), (8, 3, 21, 0, 14, 1, []), (11, 2, 0, (-6), 0, 0, []), (13, 1, 70, 0, 0, 0, []), (14, 1, 3, 0, 0, 0, []), (15, 3, 30, 0, 12, 48, []), (18, 3, 20, 0, 34, 0, []), (21, 1, 3, 0, 0, 0, []), (22, 1, 17, 0, 0, 0, []), (23, 3, 30, 0, 12, 37, []), (26, 1, 0, 1, 0, 0, []), (27, 1, 9, 0, 0, 0, []), (28, 3, 31, 0, 12, 37, []), (31, 3, 22, 0, 39, 0, []), (34, 1, 3, 0, 0, 0, []), (35, 1, 2, 0, 1, 0, []), (36, 3, 50, 0, 210, 1, [12, 0, 0]), (39, 1, 0, 0, 0, 0, []), (40, 1, 70, 0, 0, 0, [])]
/-- CodeExchangeModel.go(IIZ)I -/
def tk_219 : mK := [(0, 1, 3, 0, 0, 0, []), (1, 1, 0, 0, 0, 0, []), (2, 3, 31, 0, 12, 47, []), (5, 1, 3, 0, 0, 0, []), (6, 3, 30, 0, 12, 47, []), (9, 2, 0, 7, 0, 0, []), (11, 3, 21, 0, 45, 3, []), (14, 1, 3, 0, 0, 0, []), (15, 1, 2, 0, 1, 0, []), (16, 1, 3, 0, 0, 0, []), (17, 3, 30, 0, 12, 34, []), (20, 1, 2, 0, 2, 0, []), (21, 1, 3, 0, 0, 0, []), (22, 3, 30, 0, 12, 47, []), (25, 1, 2, 0, 3, 0, []), (26, 3, 50, 0, 217, 5, [12, 0, 0]), (29, 3, 20, 0, 45, 1, []), (32, 1, 3, 0, 0, 0, []), (33, 1, 17, 0, 0, 0, []), (34, 3, 30, 0, 12, 47, []), (37, 1, 0, 1, 0, 0, []), (38, 1, 9, 0, 0, 0, []), (39, 3, 31, 0, 12, 47, []), (42, 3, 22, 0, 5, 0, []), (45, 1, 3, 0, 0, 0, []), (46, 3, 30, 0, 12, 47, []), (49, 1, 0, 1, 0, 0, []), (50, 1, 9, 0, 0, 1, []), (51, 2, 5, 0, 4, 0, []), (53, 2, 2, 0, 4, 0, []), (55, 3, 20, 0, 121, 2, []), (58, 1, 3, 0, 0, 0, []), (59, 1, 3, 0, 0, 0, []), (60, 3, 30, 0, 12, 11, []), (63, 1, 3, 0, 0, 0, []), (64, 3, 30, 0, 12, 46, []), (67, 2, 2, 0, 4, 0, []), (69, 1, 33, 0, 0, 0, []), (70, 1, 33, 0, 0, 0, []), (71, 3, 50, 0, 218, 1, [12, 0, 0]), (74, 2, 5, 0, 5, 0, []), (76, 2, 2, 0, 5, 0, []), (78, 3, 20, 0, 84, 0, []), (81, 2, 2, 0, 5, 0, []), (83, 1, 70, 0, 0, 0, []), (84, 1, 3, 0, 0, 0, []), (85, 3, 30, 0, 12, 13, []), (88, 1, 3, 0, 0, 0, []), (89, 3, 30, 0, 12, 46, []), (92, 2, 2, 0, 4, 0, []), (94, 1, 33, 0, 0, 0, []), (95, 1, 34, 0, 0, 0, []), (96, 3, 20, 0, 115, 0, []), (99, 1, 3, 0, 0, 0, []), (100, 1, 3, 0, 0, 0, []), (101, 3, 30, 0, 12, 12, []), (104, 1, 3, 0, 0, 0, []), (105, 3, 30, 0, 12, 46, []), (108, 2, 2, 0, 4, 0, []), (110, 1, 33, 0, 0, 0, []), (111, 1, 33, 0, 0, 0, []), (112, 3, 31, 0, 12, 34, []), (115, 3, 8, (-1), 4, 0, []), (118, 3, 22, 0, 53, 0, []), (121, 1, 0, 0, 0, 0, []), (122, 1, 70, 0, 0, 0, [])]
/-- CodeExchangeModel.putPoint(I)I -/
def tk_220 : mK := [(0, 1, 3, 0, 0, 0, []), (1, 3, 30, 0, 12, 1, []), (4, 1, 2, 0, 1, 0, []), (5, 1, 33, 0, 0, 0, []), (6, 3, 20, 0, 22, 1, []), (9, 1, 3, 0, 0, 0, []), (10, 1, 2, 0, 1, 0, []), (11, 1, 3, 0, 0, 0, []), (12, 3, 30, 0, 12, 31, []), (15, 1, 0, 1, 0, 0, []), (16, 3, 50, 0, 219, 3, [12, 0, 0]), (19, 3, 22, 0, 23, 0, []), (22, 1, 0, 0, 0, 0, []), (23, 1, 5, 0, 2, 0, []), (24, 1, 0, 0, 0, 0, []), (25, 1, 5, 0, 3, 0, []), (26, 1, 2, 0, 3, 0, []), (27, 1, 3, 0, 0, 0, []), (28, 3, 30, 0, 12, 32, []), (31, 3, 21, 0, 55, 3, []), (34, 1, 2, 0, 2, 0, []), (35, 3, 20, 0, 55, 1, []), (38, 1, 3, 0, 0, 0, []), (39, 1, 3, 0, 0, 0, []), (40, 3, 30, 0, 12, 33, []), (43, 1, 2, 0, 3, 0, []), (44, 1, 33, 0, 0, 0, []), (45, 3, 50, 0, 218, 1, [12, 0, 0]), (48, 1, 5, 0, 2, 0, []), (49, 3, 8, 1, 3, 0, []), (52, 3, 22, 0, 26, 0, []), (55, 1, 2, 0, 2, 0, []), (56, 1, 70, 0, 0, 0, [])]
/-- CodeExchangeModel.fallbackOf(I)I -/
def tk_221 : mK := [(0, 1, 0, 0, 0, 0, []), (1, 1, 5, 0, 2, 0, []), (2, 1, 2, 0, 2, 0, []), (3, 1, 3, 0, 0, 0, []), (4, 3, 30, 0, 12, 25, []), (7, 3, 21, 0, 28, 3, []), (10, 1, 3, 0, 0, 0, []), (11, 3, 30, 0, 12, 26, []), (14, 1, 2, 0, 2, 0, []), (15, 1, 33, 0, 0, 0, []), (16, 1, 2, 0, 1, 0, []), (17, 3, 21, 0, 22, 1, []), (20, 1, 2, 0, 2, 0, []), (21, 1, 70, 0, 0, 0, []), (22, 3, 8, 1, 2, 0, []), (25, 3, 22, 0, 2, 0, []), (28, 1, 0, (-1), 0, 0, []), (29, 1, 70, 0, 0, 0, [])]
/-- CodeExchangeModel.writePoint(III)I -/
def tk_222 : mK := [(0, 1, 3, 0, 0, 0, []), (1, 1, 2, 0, 1, 0, []), (2, 1, 2, 0, 3, 0, []), (3, 3, 50, 0, 201, 2, [12, 0, 0]), (6, 3, 20, 0, 15, 0, []), (9, 1, 3, 0, 0, 0, []), (10, 1, 2, 0, 1, 0, []), (11, 3, 50, 0, 220, 1, [12, 0, 0]), (14, 1, 70, 0, 0, 0, []), (15, 1, 2, 0, 2, 0, []), (16, 1, 0, 1, 0, 0, []), (17, 3, 21, 0, 44, 1, []), (20, 1, 3, 0, 0, 0, []), (21, 1, 2, 0, 1, 0, []), (22, 1, 3, 0, 0, 0, []), (23, 3, 30, 0, 12, 21, []), (26, 1, 0, 1, 0, 0, []), (27, 1, 33, 0, 0, 0, []), (28, 3, 50, 0, 201, 2, [12, 0, 0]), (31, 3, 20, 0, 42, 0, []), (34, 1, 3, 0, 0, 0, []), (35, 1, 2, 0, 1, 0, []), (36, 3, 50, 0, 220, 1, [12, 0, 0]), (39, 3, 22, 0, 43, 0, []), (42, 1, 0, 0, 0, 0, []), (43, 1, 70, 0, 0, 0, []), (44, 1, 2, 0, 2, 0, []), (45, 1, 0, 2, 0, 0, []), (46, 3, 21, 0, 51, 1, []), (49, 1, 0, 0, 0, 0, []), (50, 1, 70, 0, 0, 0, []), (51, 1, 2, 0, 2, 0, []), (52, 1, 0, 4, 0, 0, []), (53, 3, 21, 0, 74, 1, []), (56, 1, 3, 0, 0, 0, []), (57, 1, 2, 0, 1, 0, []), (58, 1, 2, 0, 3, 0, []), (59, 3, 50, 0, 223, 2, [12, 0, 0]), (62, 3, 20, 0, 74, 0, []), (65, 1, 3, 0, 0, 0, []), (66, 1, 2, 0, 1, 0, []), (67, 1, 2, 0, 3, 0, []), (68, 3, 50, 0, 224, 2, [12, 0, 0]), (71, 3, 22, 0, 76, 0, []), (74, 2, 0, (-10), 0, 0, []), (76, 1, 70, 0, 0, 0, [])]
/-- CodeExchangeModel.falls(II)Z -/
def tk_223 : mK := [(0, 1, 3, 0, 0, 0, []), (1, 1, 2, 0, 1, 0, []), (2, 1, 2, 0, 2, 0, []), (3, 3, 50, 0, 201, 2, [12, 0, 0]), (6, 3, 20, 0, 11, 0, []), (9, 1, 0, 1, 0, 0, []), (10, 1, 70, 0, 1, 0, []), (11, 1, 3, 0, 0, 0, []), (12, 1, 2, 0, 2, 0, []), (13, 3, 50, 0, 221, 1, [12, 0, 0]), (16, 1, 5, 0, 3, 0, []), (17, 1, 2, 0, 3, 0, []), (18, 3, 20, 0, 25, 2, []), (21, 1, 0, 1, 0, 0, []), (22, 3, 22, 0, 26, 0, []), (25, 1, 0, 0, 0, 0, []), (26, 2, 5, 0, 4, 0, []), (28, 1, 0, 0, 0, 0, []), (29, 2, 5, 0, 5, 0, []), (31, 2, 2, 0, 4, 0, []), (33, 3, 20, 0, 71, 0, []), (36, 2, 2, 0, 5, 0, []), (38, 1, 3, 0, 0, 0, []), (39, 3, 30, 0, 12, 27, []), (42, 1, 2, 0, 3, 0, []), (43, 1, 33, 0, 0, 0, []), (44, 3, 21, 0, 71, 3, []), (47, 1, 3, 0, 0, 0, []), (48, 1, 2, 0, 1, 0, []), (49, 1, 3, 0, 0, 0, []), (50, 3, 30, 0, 12, 28, []), (53, 1, 0, 4, 0, 0, []), (54, 1, 2, 0, 3, 0, []), (55, 1, 9, 0, 0, 2, []), (56, 2, 2, 0, 5, 0, []), (58, 1, 9, 0, 0, 0, []), (59, 1, 33, 0, 0, 0, []), (60, 3, 50, 0, 223, 2, [12, 0, 0]), (63, 2, 5, 0, 4, 0, []), (65, 3, 8, 1, 5, 0, []), (68, 3, 22, 0, 31, 0, []), (71, 2, 2, 0, 4, 0, []), (73, 1, 70, 0, 1, 0, [])]
/-- CodeExchangeModel.fall(II)I -/
def tk_224 : mK := [(0, 1, 3, 0, 0, 0, []), (1, 1, 2, 0, 1, 0, []), (2, 1, 2, 0, 2, 0, []), (3, 3, 50, 0, 201, 2, [12, 0, 0]), (6, 3, 20, 0, 15, 0, []), (9, 1, 3, 0, 0, 0, []), (10, 1, 2, 0, 1, 0, []), (11, 3, 50, 0, 220, 1, [12, 0, 0]), (14, 1, 70, 0, 0, 0, []), (15, 1, 3, 0, 0, 0, []), (16, 1, 2, 0, 2, 0, []), (17, 3, 50, 0, 221, 1, [12, 0, 0]), (20, 1, 5, 0, 3, 0, []), (21, 1, 0, 0, 0, 0, []), (22, 2, 5, 0, 4, 0, []), (24, 1, 0, 0, 0, 0, []), (25, 2, 5, 0, 5, 0, []), (27, 2, 2, 0, 5, 0, []), (29, 1, 3, 0, 0, 0, []), (30, 3, 30, 0, 12, 27, []), (33, 1, 2, 0, 3, 0, []), (34, 1, 33, 0, 0, 0, []), (35, 3, 21, 0, 67, 3, []), (38, 2, 2, 0, 4, 0, []), (40, 3, 20, 0, 67, 1, []), (43, 1, 3, 0, 0, 0, []), (44, 1, 2, 0, 1, 0, []), (45, 1, 3, 0, 0, 0, []), (46, 3, 30, 0, 12, 28, []), (49, 1, 0, 4, 0, 0, []), (50, 1, 2, 0, 3, 0, []), (51, 1, 9, 0, 0, 2, []), (52, 2, 2, 0, 5, 0, []), (54, 1, 9, 0, 0, 0, []), (55, 1, 33, 0, 0, 0, []), (56, 3, 50, 0, 224, 2, [12, 0, 0]), (59, 2, 5, 0, 4, 0, []), (61, 3, 8, 1, 5, 0, []), (64, 3, 22, 0, 27, 0, []), (67, 2, 2, 0, 4, 0, []), (69, 1, 70, 0, 0, 0, [])]
/-- CodeExchangeModel.writeLone(III)I -/
def tk_225 : mK := [(0, 1, 2, 0, 2, 0, []), (1, 1, 0, 1, 0, 0, []), (2, 3, 21, 0, 29, 1, []), (5, 1, 3, 0, 0, 0, []), (6, 1, 2, 0, 1, 0, []), (7, 1, 3, 0, 0, 0, []), (8, 3, 30, 0, 12, 21, []), (11, 1, 0, 1, 0, 0, []), (12, 1, 33, 0, 0, 0, []), (13, 3, 50, 0, 201, 2, [12, 0, 0]), (16, 3, 20, 0, 27, 0, []), (19, 1, 3, 0, 0, 0, []), (20, 1, 2, 0, 1, 0, []), (21, 3, 50, 0, 220, 1, [12, 0, 0]), (24, 3, 22, 0, 28, 0, []), (27, 1, 0, 0, 0, 0, []), (28, 1, 70, 0, 0, 0, []), (29, 1, 2, 0, 2, 0, []), (30, 1, 0, 2, 0, 0, []), (31, 3, 21, 0, 36, 1, []), (34, 1, 0, 0, 0, 0, []), (35, 1, 70, 0, 0, 0, []), (36, 1, 2, 0, 2, 0, []), (37, 1, 0, 3, 0, 0, []), (38, 3, 21, 0, 64, 1, []), (41, 1, 2, 0, 3, 0, []), (42, 2, 0, 56320, 0, 0, []), (44, 3, 0, 56575, 0, 0, []), (47, 3, 51, 0, 173, 3, [12, 0, 0]), (50, 3, 20, 0, 64, 0, []), (53, 1, 3, 0, 0, 0, []), (54, 1, 2, 0, 3, 0, []), (55, 2, 0, 56320, 0, 0, []), (57, 1, 9, 0, 0, 1, []), (58, 3, 50, 0, 218, 1, [12, 0, 0]), (61, 3, 22, 0, 66, 0, []), (64, 2, 0, (-10), 0, 0, []), (66, 1, 70, 0, 0, 0, [])]
/-- CodeExchangeModel.goHome(I)I -/
def tk_226 : mK := [(0, 1, 3, 0, 0, 0, []), (1, 3, 30, 0, 12, 1, []), (4, 1, 2, 0, 1, 0, []), (5, 1, 33, 0, 0, 0, []), (6, 3, 20, 0, 19, 1, []), (9, 1, 3, 0, 0, 0, []), (10, 1, 2, 0, 1, 0, []), (11, 1, 0, 0, 0, 0, []), (12, 1, 0, 0, 0, 0, []), (13, 3, 50, 0, 219, 3, [12, 0, 0]), (16, 3, 22, 0, 20, 0, []), (19, 1, 0, 0, 0, 0, []), (20, 1, 70, 0, 0, 0, [])]
/-- CodeExchangeModel.writeAll(II[IIII)I -/
def tk_227 : mK := [(0, 1, 3, 0, 0, 0, []), (1, 2, 2, 0, 5, 0, []), (3, 3, 31, 0, 12, 34, []), (6, 1, 3, 0, 0, 0, []), (7, 1, 3, 0, 0, 0, []), (8, 3, 30, 0, 12, 45, []), (11, 3, 31, 0, 12, 36, []), (14, 1, 3, 0, 0, 0, []), (15, 1, 0, 0, 0, 0, []), (16, 3, 31, 0, 12, 37, []), (19, 1, 3, 0, 0, 0, []), (20, 2, 2, 0, 6, 0, []), (22, 3, 31, 0, 12, 38, []), (25, 1, 0, 0, 0, 0, []), (26, 2, 5, 0, 7, 0, []), (28, 2, 2, 0, 7, 0, []), (30, 2, 2, 0, 4, 0, []), (32, 3, 21, 0, 188, 3, []), (35, 1, 3, 0, 3, 0, []), (36, 2, 2, 0, 7, 0, []), (38, 1, 33, 0, 0, 0, []), (39, 2, 5, 0, 8, 0, []), (41, 2, 2, 0, 8, 0, []), (43, 3, 51, 0, 174, 1, [12, 0, 0]), (46, 3, 20, 0, 74, 0, []), (49, 2, 2, 0, 7, 0, []), (51, 1, 0, 1, 0, 0, []), (52, 1, 9, 0, 0, 0, []), (53, 2, 2, 0, 4, 0, []), (55, 3, 21, 0, 74, 3, []), (58, 1, 3, 0, 3, 0, []), (59, 2, 2, 0, 7, 0, []), (61, 1, 0, 1, 0, 0, []), (62, 1, 9, 0, 0, 0, []), (63, 1, 33, 0, 0, 0, []), (64, 3, 51, 0, 175, 1, [12, 0, 0]), (67, 3, 20, 0, 74, 0, []), (70, 1, 0, 1, 0, 0, []), (71, 3, 22, 0, 75, 0, []), (74, 1, 0, 0, 0, 0, []), (75, 2, 5, 0, 9, 0, []), (77, 2, 2, 0, 9, 0, []), (79, 3, 20, 0, 112, 0, []), (82, 1, 3, 0, 0, 0, []), (83, 1, 2, 0, 1, 0, []), (84, 1, 2, 0, 2, 0, []), (85, 2, 0, 65536, 0, 0, []), (87, 2, 2, 0, 8, 0, []), (89, 2, 0, 55296, 0, 0, []), (91, 1, 9, 0, 0, 1, []), (92, 2, 0, 10, 0, 0, []), (94, 1, 9, 0, 0, 6, []), (95, 1, 9, 0, 0, 0, []), (96, 1, 3, 0, 3, 0, []), (97, 2, 2, 0, 7, 0, []), (99, 1, 0, 1, 0, 0, []), (100, 1, 9, 0, 0, 0, []), (101, 1, 33, 0, 0, 0, []), (102, 1, 9, 0, 0, 0, []), (103, 2, 0, 56320, 0, 0, []), (105, 1, 9, 0, 0, 1, []), (106, 3, 50, 0, 222, 3, [12, 0, 0]), (109, 3, 22, 0, 147, 0, []), (112, 2, 2, 0, 8, 0, []), (114, 3, 51, 0, 174, 1, [12, 0, 0]), (117, 3, 20, 0, 128, 1, []), (120, 2, 2, 0, 8, 0, []), (122, 3, 51, 0, 175, 1, [12, 0, 0]), (125, 3, 20, 0, 139, 0, []), (128, 1, 3, 0, 0, 0, []), (129, 1, 2, 0, 1, 0, []), (130, 1, 2, 0, 2, 0, []), (131, 2, 2, 0, 8, 0, []), (133, 3, 50, 0, 225, 3, [12, 0, 0]), (136, 3, 22, 0, 147, 0, []), (139, 1, 3, 0, 0, 0, []), (140, 1, 2, 0, 1, 0, []), (141, 1, 2, 0, 2, 0, []), (142, 2, 2, 0, 8, 0, []), (144, 3, 50, 0, 222, 3, [12, 0, 0]), (147, 2, 5, 0, 10, 0, []), (149, 2, 2, 0, 10, 0, []), (151, 2, 0, (-10), 0, 0, []), (153, 3, 21, 0, 162, 1, []), (156, 1, 3, 0, 0, 0, []), (157, 2, 2, 0, 7, 0, []), (159, 3, 31, 0, 12, 22, []), (162, 2, 2, 0, 10, 0, []), (164, 3, 20, 0, 170, 0, []), (167, 2, 2, 0, 10, 0, []), (169, 1, 70, 0, 0, 0, []), (170, 2, 2, 0, 7, 0, []), (172, 2, 2, 0, 9, 0, []), (174, 3, 20, 0, 181, 0, []), (177, 1, 0, 2, 0, 0, []), (178, 3, 22, 0, 182, 0, []), (181, 1, 0, 1, 0, 0, []), (182, 1, 9, 0, 0, 0, []), (183, 2, 5, 0, 7, 0, []), (185, 3, 22, 0, 28, 0, []), (188, 1, 3, 0, 0, 0, []), (189, 1, 2, 0, 1, 0, []), (190, 3, 50, 0, 226, 1, [12, 0, 0]), (193, 2, 5, 0, 8, 0, []), (195, 2, 2, 0, 8, 0, []), (197, 3, 20, 0, 205, 0, []), (200, 2, 2, 0, 8, 0, []), (202, 3, 22, 0, 209, 0, []), (205, 1, 3, 0, 0, 0, []), (206, 3, 30, 0, 12, 37, []), (209, 1, 70, 0, 0, 0, [])]
/-- CodeExchangeModel.resultOf([III)I -/
def tk_228 : mK := [(0, 1, 0, 0, 0, 0, []), (1, 2, 5, 0, 4, 0, []), (3, 2, 2, 0, 4, 0, []), (5, 1, 2, 0, 2, 0, []), (6, 3, 21, 0, 26, 3, []), (9, 1, 3, 0, 0, 0, []), (10, 3, 30, 0, 12, 20, []), (13, 2, 2, 0, 4, 0, []), (15, 1, 3, 0, 1, 0, []), (16, 2, 2, 0, 4, 0, []), (18, 1, 33, 0, 0, 0, []), (19, 1, 36, 0, 0, 0, []), (20, 3, 8, 1, 4, 0, []), (23, 3, 22, 0, 3, 0, []), (26, 1, 3, 0, 0, 0, []), (27, 1, 2, 0, 2, 0, []), (28, 3, 31, 0, 12, 18, []), (31, 1, 3, 0, 0, 0, []), (32, 1, 2, 0, 3, 0, []), (33, 3, 31, 0, 12, 19, []), (36, 1, 2, 0, 2, 0, []), (37, 1, 70, 0, 0, 0, [])]
/-- CodeExchangeModel.decode(II)I -/
def tk_229 : mK := [(0, 1, 3, 0, 0, 0, []), (1, 1, 2, 0, 1, 0, []), (2, 3, 50, 0, 177, 1, [12, 0, 0]), (5, 3, 20, 0, 14, 1, []), (8, 1, 3, 0, 0, 0, []), (9, 1, 0, (-1), 0, 0, []), (10, 3, 50, 0, 172, 1, [12, 0, 0]), (13, 1, 70, 0, 0, 0, []), (14, 1, 3, 0, 0, 0, []), (15, 3, 30, 0, 12, 2, []), (18, 1, 2, 0, 1, 0, []), (19, 1, 34, 0, 0, 0, []), (20, 3, 20, 0, 30, 1, []), (23, 1, 3, 0, 0, 0, []), (24, 2, 0, (-5), 0, 0, []), (26, 3, 50, 0, 172, 1, [12, 0, 0]), (29, 1, 70, 0, 0, 0, []), (30, 1, 2, 0, 2, 0, []), (31, 1, 0, 0, 0, 0, []), (32, 1, 0, 3, 0, 0, []), (33, 3, 51, 0, 173, 3, [12, 0, 0]), (36, 3, 20, 0, 45, 1, []), (39, 1, 3, 0, 0, 0, []), (40, 1, 0, (-1), 0, 0, []), (41, 3, 50, 0, 172, 1, [12, 0, 0]), (44, 1, 70, 0, 0, 0, []), (45, 1, 3, 0, 0, 0, []), (46, 1, 2, 0, 1, 0, []), (47, 1, 2, 0, 2, 0, []), (48, 1, 3, 0, 0, 0, []), (49, 3, 30, 0, 12, 43, []), (52, 3, 50, 0, 216, 3, [12, 0, 0]), (55, 1, 5, 0, 3, 0, []), (56, 1, 2, 0, 3, 0, []), (57, 3, 20, 0, 68, 3, []), (60, 1, 3, 0, 0, 0, []), (61, 1, 2, 0, 3, 0, []), (62, 3, 50, 0, 172, 1, [12, 0, 0]), (65, 3, 22, 0, 78, 0, []), (68, 1, 3, 0, 0, 0, []), (69, 1, 3, 0, 0, 0, []), (70, 3, 30, 0, 12, 43, []), (73, 1, 2, 0, 3, 0, []), (74, 1, 0, 1, 0, 0, []), (75, 3, 50, 0, 228, 3, [12, 0, 0]), (78, 1, 70, 0, 0, 0, [])]
/-- CodeExchangeModel.encode(II)I -/
def tk_230 : mK := [(0, 1, 3, 0, 0, 0, []), (1, 1, 2, 0, 1, 0, []), (2, 3, 50, 0, 177, 1, [12, 0, 0]), (5, 3, 20, 0, 14, 1, []), (8, 1, 3, 0, 0, 0, []), (9, 1, 0, (-1), 0, 0, []), (10, 3, 50, 0, 172, 1, [12, 0, 0]), (13, 1, 70, 0, 0, 0, []), (14, 1, 3, 0, 0, 0, []), (15, 3, 30, 0, 12, 2, []), (18, 1, 2, 0, 1, 0, []), (19, 1, 34, 0, 0, 0, []), (20, 3, 20, 0, 30, 1, []), (23, 1, 3, 0, 0, 0, []), (24, 2, 0, (-5), 0, 0, []), (26, 3, 50, 0, 172, 1, [12, 0, 0]), (29, 1, 70, 0, 0, 0, []), (30, 1, 2, 0, 2, 0, []), (31, 1, 0, 0, 0, 0, []), (32, 1, 0, 4, 0, 0, []), (33, 3, 51, 0, 173, 3, [12, 0, 0]), (36, 3, 20, 0, 45, 1, []), (39, 1, 3, 0, 0, 0, []), (40, 1, 0, (-1), 0, 0, []), (41, 3, 50, 0, 172, 1, [12, 0, 0]), (44, 1, 70, 0, 0, 0, []), (45, 1, 3, 0, 0, 0, []), (46, 1, 2, 0, 1, 0, []), (47, 1, 2, 0, 2, 0, []), (48, 1, 3, 0, 0, 0, []), (49, 3, 30, 0, 12, 17, []), (52, 1, 3, 0, 0, 0, []), (53, 3, 30, 0, 12, 16, []), (56, 1, 0, 0, 0, 0, []), (57, 3, 0, 6000, 0, 0, []), (60, 3, 50, 0, 227, 6, [12, 0, 0]), (63, 1, 5, 0, 3, 0, []), (64, 1, 2, 0, 3, 0, []), (65, 3, 20, 0, 76, 3, []), (68, 1, 3, 0, 0, 0, []), (69, 1, 2, 0, 3, 0, []), (70, 3, 50, 0, 172, 1, [12, 0, 0]), (73, 3, 22, 0, 86, 0, []), (76, 1, 3, 0, 0, 0, []), (77, 1, 3, 0, 0, 0, []), (78, 3, 30, 0, 12, 45, []), (81, 1, 2, 0, 3, 0, []), (82, 1, 0, 2, 0, 0, []), (83, 3, 50, 0, 228, 3, [12, 0, 0]), (86, 1, 70, 0, 0, 0, [])]
/-- CodeExchangeModel.transcode(IIII)I -/
def tk_231 : mK := [(0, 1, 3, 0, 0, 0, []), (1, 1, 2, 0, 1, 0, []), (2, 3, 50, 0, 177, 1, [12, 0, 0]), (5, 3, 20, 0, 16, 0, []), (8, 1, 3, 0, 0, 0, []), (9, 1, 2, 0, 3, 0, []), (10, 3, 50, 0, 177, 1, [12, 0, 0]), (13, 3, 20, 0, 22, 1, []), (16, 1, 3, 0, 0, 0, []), (17, 1, 0, (-1), 0, 0, []), (18, 3, 50, 0, 172, 1, [12, 0, 0]), (21, 1, 70, 0, 0, 0, []), (22, 1, 3, 0, 0, 0, []), (23, 3, 30, 0, 12, 2, []), (26, 1, 2, 0, 1, 0, []), (27, 1, 34, 0, 0, 0, []), (28, 3, 20, 0, 40, 0, []), (31, 1, 3, 0, 0, 0, []), (32, 3, 30, 0, 12, 2, []), (35, 1, 2, 0, 3, 0, []), (36, 1, 34, 0, 0, 0, []), (37, 3, 20, 0, 47, 1, []), (40, 1, 3, 0, 0, 0, []), (41, 2, 0, (-5), 0, 0, []), (43, 3, 50, 0, 172, 1, [12, 0, 0]), (46, 1, 70, 0, 0, 0, []), (47, 1, 2, 0, 2, 0, []), (48, 1, 0, 0, 0, 0, []), (49, 1, 0, 3, 0, 0, []), (50, 3, 51, 0, 173, 3, [12, 0, 0]), (53, 3, 20, 0, 66, 0, []), (56, 2, 2, 0, 4, 0, []), (58, 1, 0, 0, 0, 0, []), (59, 1, 0, 4, 0, 0, []), (60, 3, 51, 0, 173, 3, [12, 0, 0]), (63, 3, 20, 0, 72, 1, []), (66, 1, 3, 0, 0, 0, []), (67, 1, 0, (-1), 0, 0, []), (68, 3, 50, 0, 172, 1, [12, 0, 0]), (71, 1, 70, 0, 0, 0, []), (72, 1, 3, 0, 0, 0, []), (73, 1, 2, 0, 1, 0, []), (74, 1, 2, 0, 2, 0, []), (75, 1, 3, 0, 0, 0, []), (76, 3, 30, 0, 12, 43, []), (79, 3, 50, 0, 216, 3, [12, 0, 0]), (82, 2, 5, 0, 5, 0, []), (84, 2, 2, 0, 5, 0, []), (86, 3, 20, 0, 96, 3, []), (89, 1, 3, 0, 0, 0, []), (90, 2, 2, 0, 5, 0, []), (92, 3, 50, 0, 172, 1, [12, 0, 0]), (95, 1, 70, 0, 0, 0, []), (96, 1, 3, 0, 0, 0, []), (97, 1, 2, 0, 3, 0, []), (98, 2, 2, 0, 4, 0, []), (100, 1, 3, 0, 0, 0, []), (101, 3, 30, 0, 12, 43, []), (104, 2, 2, 0, 5, 0, []), (106, 1, 0, 0, 0, 0, []), (107, 3, 0, 6000, 0, 0, []), (110, 3, 50, 0, 227, 6, [12, 0, 0]), (113, 2, 5, 0, 6, 0, []), (115, 2, 2, 0, 6, 0, []), (117, 3, 20, 0, 129, 3, []), (120, 1, 3, 0, 0, 0, []), (121, 2, 2, 0, 6, 0, []), (123, 3, 50, 0, 172, 1, [12, 0, 0]), (126, 3, 22, 0, 140, 0, []), (129, 1, 3, 0, 0, 0, []), (130, 1, 3, 0, 0, 0, []), (131, 3, 30, 0, 12, 45, []), (134, 2, 2, 0, 6, 0, []), (136, 1, 0, 2, 0, 0, []), (137, 3, 50, 0, 228, 3, [12, 0, 0]), (140, 1, 70, 0, 0, 0, [])]
/-- CodeExchangeModel.result(I)I -/
def tk_232 : mK := [(0, 1, 2, 0, 1, 0, []), (1, 1, 0, 0, 0, 0, []), (2, 1, 3, 0, 0, 0, []), (3, 3, 30, 0, 12, 18, []), (6, 1, 0, 1, 0, 0, []), (7, 1, 9, 0, 0, 1, []), (8, 3, 51, 0, 173, 3, [12, 0, 0]), (11, 3, 20, 0, 30, 0, []), (14, 1, 3, 0, 0, 0, []), (15, 3, 30, 0, 12, 19, []), (18, 3, 20, 0, 30, 5, []), (21, 1, 3, 0, 0, 0, []), (22, 3, 30, 0, 12, 20, []), (25, 1, 2, 0, 1, 0, []), (26, 1, 33, 0, 0, 0, []), (27, 3, 22, 0, 36, 0, []), (30, 1, 3, 0, 0, 0, []), (31, 2, 0, (-2), 0, 0, []), (33, 3, 50, 0, 172, 1, [12, 0, 0]), (36, 1, 70, 0, 0, 0, [])]
/-- CodeExchangeModel.sign(II)I -/
def tk_233 : mK := [(0, 1, 2, 0, 1, 0, []), (1, 1, 0, 0, 0, 0, []), (2, 1, 0, 1, 0, 0, []), (3, 3, 51, 0, 173, 3, [12, 0, 0]), (6, 3, 20, 0, 16, 0, []), (9, 1, 2, 0, 2, 0, []), (10, 3, 51, 0, 176, 1, [12, 0, 0]), (13, 3, 20, 0, 22, 1, []), (16, 1, 3, 0, 0, 0, []), (17, 1, 0, (-1), 0, 0, []), (18, 3, 50, 0, 172, 1, [12, 0, 0]), (21, 1, 70, 0, 0, 0, []), (22, 1, 3, 0, 0, 0, []), (23, 3, 30, 0, 12, 21, []), (26, 1, 2, 0, 1, 0, []), (27, 1, 33, 0, 0, 0, []), (28, 1, 5, 0, 3, 0, []), (29, 1, 3, 0, 0, 0, []), (30, 3, 30, 0, 12, 21, []), (33, 1, 2, 0, 1, 0, []), (34, 1, 2, 0, 2, 0, []), (35, 1, 36, 0, 0, 0, []), (36, 1, 2, 0, 3, 0, []), (37, 1, 70, 0, 0, 0, [])]
/-- CodeExchangeModel.comesBack(I)Z -/
def tk_234 : mK := [(0, 1, 0, 0, 0, 0, []), (1, 1, 5, 0, 2, 0, []), (2, 1, 2, 0, 2, 0, []), (3, 1, 3, 0, 0, 0, []), (4, 3, 30, 0, 12, 25, []), (7, 3, 21, 0, 23, 3, []), (10, 1, 3, 0, 0, 0, []), (11, 3, 30, 0, 12, 50, []), (14, 1, 2, 0, 2, 0, []), (15, 1, 0, 0, 0, 0, []), (16, 1, 36, 0, 0, 0, []), (17, 3, 8, 1, 2, 0, []), (20, 3, 22, 0, 2, 0, []), (23, 1, 3, 0, 0, 0, []), (24, 3, 30, 0, 12, 50, []), (27, 1, 2, 0, 1, 0, []), (28, 1, 0, 1, 0, 0, []), (29, 1, 36, 0, 0, 0, []), (30, 1, 0, 1, 0, 0, []), (31, 1, 5, 0, 2, 0, []), (32, 1, 2, 0, 2, 0, []), (33, 3, 20, 0, 161, 0, []), (36, 1, 0, 0, 0, 0, []), (37, 1, 5, 0, 2, 0, []), (38, 1, 0, 0, 0, 0, []), (39, 1, 5, 0, 3, 0, []), (40, 1, 2, 0, 3, 0, []), (41, 1, 3, 0, 0, 0, []), (42, 3, 30, 0, 12, 25, []), (45, 3, 21, 0, 158, 3, []), (48, 1, 3, 0, 0, 0, []), (49, 3, 30, 0, 12, 50, []), (52, 1, 2, 0, 3, 0, []), (53, 1, 33, 0, 0, 0, []), (54, 1, 0, 1, 0, 0, []), (55, 3, 21, 0, 61, 0, []), (58, 3, 22, 0, 152, 0, []), (61, 1, 3, 0, 0, 0, []), (62, 3, 30, 0, 12, 50, []), (65, 1, 2, 0, 3, 0, []), (66, 1, 0, 2, 0, 0, []), (67, 1, 36, 0, 0, 0, []), (68, 1, 0, 1, 0, 0, []), (69, 1, 5, 0, 2, 0, []), (70, 1, 0, 0, 0, 0, []), (71, 2, 5, 0, 4, 0, []), (73, 2, 2, 0, 4, 0, []), (75, 1, 3, 0, 0, 0, []), (76, 3, 30, 0, 12, 27, []), (79, 1, 2, 0, 3, 0, []), (80, 1, 33, 0, 0, 0, []), (81, 3, 21, 0, 152, 3, []), (84, 1, 3, 0, 0, 0, []), (85, 3, 30, 0, 12, 28, []), (88, 1, 0, 4, 0, 0, []), (89, 1, 2, 0, 3, 0, []), (90, 1, 9, 0, 0, 2, []), (91, 2, 2, 0, 4, 0, []), (93, 1, 9, 0, 0, 0, []), (94, 1, 33, 0, 0, 0, []), (95, 1, 3, 0, 0, 0, []), (96, 3, 30, 0, 12, 26, []), (99, 1, 2, 0, 1, 0, []), (100, 1, 33, 0, 0, 0, []), (101, 3, 21, 0, 106, 1, []), (104, 1, 0, 1, 0, 0, []), (105, 1, 70, 0, 1, 0, []), (106, 1, 3, 0, 0, 0, []), (107, 1, 3, 0, 0, 0, []), (108, 3, 30, 0, 12, 28, []), (111, 1, 0, 4, 0, 0, []), (112, 1, 2, 0, 3, 0, []), (113, 1, 9, 0, 0, 2, []), (114, 2, 2, 0, 4, 0, []), (116, 1, 9, 0, 0, 0, []), (117, 1, 33, 0, 0, 0, []), (118, 3, 50, 0, 221, 1, [12, 0, 0]), (121, 2, 5, 0, 5, 0, []), (123, 2, 2, 0, 5, 0, []), (125, 3, 20, 0, 146, 2, []), (128, 1, 3, 0, 0, 0, []), (129, 3, 30, 0, 12, 50, []), (132, 2, 2, 0, 5, 0, []), (134, 1, 33, 0, 0, 0, []), (135, 3, 20, 0, 146, 1, []), (138, 1, 3, 0, 0, 0, []), (139, 3, 30, 0, 12, 50, []), (142, 2, 2, 0, 5, 0, []), (144, 1, 0, 1, 0, 0, []), (145, 1, 36, 0, 0, 0, []), (146, 3, 8, 1, 4, 0, []), (149, 3, 22, 0, 73, 0, []), (152, 3, 8, 1, 3, 0, []), (155, 3, 22, 0, 40, 0, []), (158, 3, 22, 0, 32, 0, []), (161, 1, 0, 0, 0, 0, []), (162, 1, 70, 0, 1, 0, [])]
/-- CodeExchangeModel.length(I[I)I -/
def tk_235 : mK := [(0, 1, 3, 0, 2, 0, []), (1, 1, 2, 0, 1, 0, []), (2, 1, 33, 0, 0, 0, []), (3, 3, 20, 0, 10, 5, []), (6, 1, 3, 0, 2, 0, []), (7, 1, 2, 0, 1, 0, []), (8, 1, 33, 0, 0, 0, []), (9, 1, 70, 0, 0, 0, []), (10, 1, 0, 0, 0, 0, []), (11, 1, 5, 0, 3, 0, []), (12, 1, 0, 0, 0, 0, []), (13, 2, 5, 0, 4, 0, []), (15, 2, 2, 0, 4, 0, []), (17, 1, 3, 0, 0, 0, []), (18, 3, 30, 0, 12, 27, []), (21, 1, 2, 0, 1, 0, []), (22, 1, 33, 0, 0, 0, []), (23, 3, 21, 0, 68, 3, []), (26, 1, 3, 0, 0, 0, []), (27, 1, 3, 0, 0, 0, []), (28, 3, 30, 0, 12, 28, []), (31, 1, 0, 4, 0, 0, []), (32, 1, 2, 0, 1, 0, []), (33, 1, 9, 0, 0, 2, []), (34, 2, 2, 0, 4, 0, []), (36, 1, 9, 0, 0, 0, []), (37, 1, 33, 0, 0, 0, []), (38, 3, 50, 0, 221, 1, [12, 0, 0]), (41, 2, 5, 0, 5, 0, []), (43, 1, 2, 0, 3, 0, []), (44, 2, 2, 0, 5, 0, []), (46, 3, 20, 0, 53, 3, []), (49, 1, 0, 1, 0, 0, []), (50, 3, 22, 0, 60, 0, []), (53, 1, 3, 0, 0, 0, []), (54, 2, 2, 0, 5, 0, []), (56, 1, 3, 0, 2, 0, []), (57, 3, 50, 0, 235, 2, [12, 0, 0]), (60, 1, 9, 0, 0, 0, []), (61, 1, 5, 0, 3, 0, []), (62, 3, 8, 1, 4, 0, []), (65, 3, 22, 0, 15, 0, []), (68, 1, 3, 0, 2, 0, []), (69, 1, 2, 0, 1, 0, []), (70, 1, 2, 0, 3, 0, []), (71, 2, 0, 17, 0, 0, []), (73, 3, 21, 0, 81, 5, []), (76, 2, 0, 17, 0, 0, []), (78, 3, 22, 0, 82, 0, []), (81, 1, 2, 0, 3, 0, []), (82, 1, 36, 0, 0, 0, []), (83, 1, 3, 0, 2, 0, []), (84, 1, 2, 0, 1, 0, []), (85, 1, 33, 0, 0, 0, []), (86, 1, 70, 0, 0, 0, [])]
/-- CodeExchangeModel.fallback(I)I -/
def tk_236_0 : mK := [(0, 1, 2, 0, 1, 0, []), (1, 3, 51, 0, 176, 1, [12, 0, 0]), (4, 3, 20, 0, 13, 1, []), (7, 1, 3, 0, 0, 0, []), (8, 1, 0, (-1), 0, 0, []), (9, 3, 50, 0, 172, 1, [12, 0, 0]), (12, 1, 70, 0, 0, 0, []), (13, 1, 0, 0, 0, 0, []), (14, 1, 5, 0, 2, 0, []), (15, 1, 0, 0, 0, 0, []), (16, 1, 5, 0, 3, 0, []), (17, 1, 2, 0, 3, 0, []), (18, 1, 3, 0, 0, 0, []), (19, 3, 30, 0, 12, 16, []), (22, 3, 21, 0, 158, 3, []), (25, 1, 3, 0, 0, 0, []), (26, 3, 30, 0, 12, 17, []), (29, 1, 2, 0, 3, 0, []), (30, 1, 33, 0, 0, 0, []), (31, 2, 5, 0, 4, 0, []), (33, 2, 2, 0, 4, 0, []), (35, 3, 51, 0, 174, 1, [12, 0, 0]), (38, 3, 20, 0, 69, 0, []), (41, 1, 2, 0, 3, 0, []), (42, 1, 0, 1, 0, 0, []), (43, 1, 9, 0, 0, 0, []), (44, 1, 3, 0, 0, 0, []), (45, 3, 30, 0, 12, 16, []), (48, 3, 21, 0, 69, 3, []), (51, 1, 3, 0, 0, 0, []), (52, 3, 30, 0, 12, 17, []), (55, 1, 2, 0, 3, 0, []), (56, 1, 0, 1, 0, 0, []), (57, 1, 9, 0, 0, 0, []), (58, 1, 33, 0, 0, 0, []), (59, 3, 51, 0, 175, 1, [12, 0, 0]), (62, 3, 20, 0, 69, 0, []), (65, 1, 0, 1, 0, 0, []), (66, 3, 22, 0, 70, 0, []), (69, 1, 0, 0, 0, 0, []), (70, 2, 5, 0, 5, 0, []), (72, 2, 2, 0, 5, 0, []), (74, 3, 20, 0, 100, 1, []), (77, 2, 2, 0, 4, 0, []), (79, 3, 51, 0, 174, 1, [12, 0, 0]), (82, 3, 20, 0, 93, 1, []), (85, 2, 2, 0, 4, 0, []), (87, 3, 51, 0, 175, 1, [12, 0, 0]), (90, 3, 20, 0, 100, 0, []), (93, 1, 3, 0, 0, 0, []), (94, 2, 0, (-8), 0, 0, []), (96, 3, 50, 0, 172, 1, [12, 0, 0]), (99, 1, 70, 0, 0, 0, []), (100, 1, 3, 0, 0, 0, []), (101, 3, 30, 0, 12, 49, []), (104, 1, 2, 0, 2, 0, []), (105, 2, 2, 0, 5, 0, []), (107, 3, 20, 0, 136, 0, []), (110, 2, 0, 65536, 0, 0, []), (112, 2, 2, 0, 4, 0, []), (114, 2, 0, 55296, 0, 0, []), (116, 1, 9, 0, 0, 1, []), (117, 2, 0, 10, 0, 0, []), (119, 1, 9, 0, 0, 6, []), (120, 1, 9, 0, 0, 0, []), (121, 1, 3, 0, 0, 0, []), (122, 3, 30, 0, 12, 17, []), (125, 1, 2, 0, 3, 0, []), (126, 1, 0, 1, 0, 0, []), (127, 1, 9, 0, 0, 0, []), (128, 1, 33, 0, 0, 0, []), (129, 1, 9, 0, 0, 0, []), (130, 2, 0, 56320, 0, 0, []), (132, 1, 9, 0, 0, 1, []), (133, 3, 22, 0, 138, 0, []), (136, 2, 2, 0, 4, 0, []), (138, 1, 36, 0, 0, 0, []), (139, 3, 8, 1, 2, 0, []), (142, 1, 2, 0, 3, 0, []), (143, 2, 2, 0, 5, 0, []), (145, 3, 20, 0, 152, 0, []), (148, 1, 0, 2, 0, 0, []), (149, 3, 22, 0, 153, 0, []), (152, 1, 0, 1, 0, 0, []), (153, 1, 9, 0, 0, 0, []), (154, 1, 5, 0, 3, 0, []), (155, 3, 22, 0, 17, 0, []), (158, 1, 2, 0, 2, 0, []), (159, 1, 0, 4, 0, 0, []), (160, 3, 21, 0, 170, 5, []), (163, 1, 3, 0, 0, 0, []), (164, 2, 0, (-8), 0, 0, []), (166, 3, 50, 0, 172, 1, [12, 0, 0]), (169, 1, 70, 0, 0, 0, []), (170, 1, 3, 0, 0, 0, []), (171, 1, 2, 0, 1, 0, []), (172, 3, 50, 0, 221, 1, [12, 0, 0]), (175, 2, 5, 0, 4, 0, []), (177, 1, 2, 0, 2, 0, []), (178, 3, 20, 0, 274, 1, [])]
def tk_236_1 : mK := [(181, 2, 2, 0, 4, 0, []), (183, 3, 20, 0, 269, 2, []), (186, 1, 3, 0, 0, 0, []), (187, 1, 17, 0, 0, 0, []), (188, 3, 30, 0, 12, 25, []), (191, 1, 0, 1, 0, 0, []), (192, 1, 9, 0, 0, 1, []), (193, 3, 31, 0, 12, 25, []), (196, 1, 3, 0, 0, 0, []), (197, 3, 30, 0, 12, 26, []), (200, 2, 2, 0, 4, 0, []), (202, 1, 3, 0, 0, 0, []), (203, 3, 30, 0, 12, 26, []), (206, 1, 3, 0, 0, 0, []), (207, 3, 30, 0, 12, 25, []), (210, 1, 33, 0, 0, 0, []), (211, 1, 36, 0, 0, 0, []), (212, 1, 3, 0, 0, 0, []), (213, 3, 30, 0, 12, 27, []), (216, 2, 2, 0, 4, 0, []), (218, 1, 3, 0, 0, 0, []), (219, 3, 30, 0, 12, 27, []), (222, 1, 3, 0, 0, 0, []), (223, 3, 30, 0, 12, 25, []), (226, 1, 33, 0, 0, 0, []), (227, 1, 36, 0, 0, 0, []), (228, 1, 0, 0, 0, 0, []), (229, 2, 5, 0, 5, 0, []), (231, 2, 2, 0, 5, 0, []), (233, 1, 0, 4, 0, 0, []), (234, 3, 21, 0, 269, 3, []), (237, 1, 3, 0, 0, 0, []), (238, 3, 30, 0, 12, 28, []), (241, 1, 0, 4, 0, 0, []), (242, 2, 2, 0, 4, 0, []), (244, 1, 9, 0, 0, 2, []), (245, 2, 2, 0, 5, 0, []), (247, 1, 9, 0, 0, 0, []), (248, 1, 3, 0, 0, 0, []), (249, 3, 30, 0, 12, 28, []), (252, 1, 0, 4, 0, 0, []), (253, 1, 3, 0, 0, 0, []), (254, 3, 30, 0, 12, 25, []), (257, 1, 9, 0, 0, 2, []), (258, 2, 2, 0, 5, 0, []), (260, 1, 9, 0, 0, 0, []), (261, 1, 33, 0, 0, 0, []), (262, 1, 36, 0, 0, 0, []), (263, 3, 8, 1, 5, 0, []), (266, 3, 22, 0, 231, 0, []), (269, 1, 3, 0, 0, 0, []), (270, 3, 30, 0, 12, 25, []), (273, 1, 70, 0, 0, 0, []), (274, 2, 2, 0, 4, 0, []), (276, 3, 20, 0, 295, 3, []), (279, 1, 3, 0, 0, 0, []), (280, 3, 30, 0, 12, 25, []), (283, 2, 0, 40, 0, 0, []), (285, 3, 21, 0, 295, 1, []), (288, 1, 3, 0, 0, 0, []), (289, 2, 0, (-6), 0, 0, []), (291, 3, 50, 0, 172, 1, [12, 0, 0]), (294, 1, 70, 0, 0, 0, []), (295, 2, 2, 0, 4, 0, []), (297, 3, 20, 0, 307, 3, []), (300, 1, 3, 0, 0, 0, []), (301, 3, 30, 0, 12, 25, []), (304, 3, 22, 0, 309, 0, []), (307, 2, 2, 0, 4, 0, []), (309, 2, 5, 0, 5, 0, []), (311, 2, 2, 0, 4, 0, []), (313, 3, 20, 0, 320, 3, []), (316, 1, 0, 0, 0, 0, []), (317, 3, 22, 0, 327, 0, []), (320, 1, 3, 0, 0, 0, []), (321, 3, 30, 0, 12, 27, []), (324, 2, 2, 0, 4, 0, []), (326, 1, 33, 0, 0, 0, []), (327, 2, 5, 0, 6, 0, []), (329, 1, 0, 0, 0, 0, []), (330, 2, 5, 0, 7, 0, []), (332, 2, 2, 0, 7, 0, []), (334, 1, 0, 4, 0, 0, []), (335, 3, 21, 0, 366, 3, []), (338, 1, 3, 0, 0, 0, []), (339, 3, 30, 0, 12, 49, []), (342, 2, 0, 10, 0, 0, []), (344, 2, 2, 0, 7, 0, []), (346, 1, 9, 0, 0, 0, []), (347, 1, 3, 0, 0, 0, []), (348, 3, 30, 0, 12, 28, []), (351, 1, 0, 4, 0, 0, []), (352, 2, 2, 0, 5, 0, []), (354, 1, 9, 0, 0, 2, []), (355, 2, 2, 0, 7, 0, []), (357, 1, 9, 0, 0, 0, []), (358, 1, 33, 0, 0, 0, []), (359, 1, 36, 0, 0, 0, []), (360, 3, 8, 1, 7, 0, []), (363, 3, 22, 0, 332, 0, [])]
def tk_236_2 : mK := [(366, 2, 2, 0, 4, 0, []), (368, 3, 20, 0, 381, 3, []), (371, 1, 3, 0, 0, 0, []), (372, 1, 17, 0, 0, 0, []), (373, 3, 30, 0, 12, 25, []), (376, 1, 0, 1, 0, 0, []), (377, 1, 9, 0, 0, 0, []), (378, 3, 31, 0, 12, 25, []), (381, 1, 3, 0, 0, 0, []), (382, 3, 30, 0, 12, 26, []), (385, 2, 2, 0, 5, 0, []), (387, 1, 2, 0, 1, 0, []), (388, 1, 36, 0, 0, 0, []), (389, 1, 3, 0, 0, 0, []), (390, 3, 30, 0, 12, 27, []), (393, 2, 2, 0, 5, 0, []), (395, 1, 2, 0, 2, 0, []), (396, 1, 36, 0, 0, 0, []), (397, 1, 0, 0, 0, 0, []), (398, 2, 5, 0, 7, 0, []), (400, 2, 2, 0, 7, 0, []), (402, 1, 2, 0, 2, 0, []), (403, 3, 21, 0, 431, 3, []), (406, 1, 3, 0, 0, 0, []), (407, 3, 30, 0, 12, 28, []), (410, 1, 0, 4, 0, 0, []), (411, 2, 2, 0, 5, 0, []), (413, 1, 9, 0, 0, 2, []), (414, 2, 2, 0, 7, 0, []), (416, 1, 9, 0, 0, 0, []), (417, 1, 3, 0, 0, 0, []), (418, 3, 30, 0, 12, 49, []), (421, 2, 2, 0, 7, 0, []), (423, 1, 33, 0, 0, 0, []), (424, 1, 36, 0, 0, 0, []), (425, 3, 8, 1, 7, 0, []), (428, 3, 22, 0, 400, 0, []), (431, 1, 0, 0, 0, 0, []), (432, 2, 5, 0, 7, 0, []), (434, 1, 0, 0, 0, 0, []), (435, 2, 5, 0, 8, 0, []), (437, 2, 2, 0, 8, 0, []), (439, 1, 3, 0, 0, 0, []), (440, 3, 30, 0, 12, 25, []), (443, 3, 21, 0, 474, 3, []), (446, 2, 2, 0, 7, 0, []), (448, 3, 20, 0, 474, 1, []), (451, 1, 3, 0, 0, 0, []), (452, 2, 2, 0, 8, 0, []), (454, 3, 50, 0, 234, 1, [12, 0, 0]), (457, 3, 20, 0, 465, 0, []), (460, 2, 0, (-11), 0, 0, []), (462, 3, 22, 0, 466, 0, []), (465, 1, 0, 0, 0, 0, []), (466, 2, 5, 0, 7, 0, []), (468, 3, 8, 1, 8, 0, []), (471, 3, 22, 0, 437, 0, []), (474, 1, 0, 0, 0, 0, []), (475, 2, 5, 0, 8, 0, []), (477, 2, 2, 0, 8, 0, []), (479, 1, 3, 0, 0, 0, []), (480, 3, 30, 0, 12, 25, []), (483, 3, 21, 0, 500, 3, []), (486, 1, 3, 0, 0, 0, []), (487, 3, 30, 0, 12, 51, []), (490, 2, 2, 0, 8, 0, []), (492, 1, 0, 0, 0, 0, []), (493, 1, 36, 0, 0, 0, []), (494, 3, 8, 1, 8, 0, []), (497, 3, 22, 0, 477, 0, []), (500, 1, 0, 0, 0, 0, []), (501, 2, 5, 0, 8, 0, []), (503, 2, 2, 0, 8, 0, []), (505, 1, 3, 0, 0, 0, []), (506, 3, 30, 0, 12, 25, []), (509, 3, 21, 0, 546, 3, []), (512, 2, 2, 0, 7, 0, []), (514, 3, 20, 0, 546, 1, []), (517, 1, 3, 0, 0, 0, []), (518, 2, 2, 0, 8, 0, []), (520, 1, 3, 0, 0, 0, []), (521, 3, 30, 0, 12, 51, []), (524, 3, 50, 0, 235, 2, [12, 0, 0]), (527, 2, 0, 16, 0, 0, []), (529, 3, 21, 0, 537, 5, []), (532, 2, 0, (-12), 0, 0, []), (534, 3, 22, 0, 538, 0, []), (537, 1, 0, 0, 0, 0, []), (538, 2, 5, 0, 7, 0, []), (540, 3, 8, 1, 8, 0, []), (543, 3, 22, 0, 503, 0, []), (546, 2, 2, 0, 7, 0, []), (548, 3, 20, 0, 619, 0, []), (551, 2, 2, 0, 4, 0, []), (553, 3, 20, 0, 566, 3, []), (556, 1, 3, 0, 0, 0, []), (557, 1, 17, 0, 0, 0, []), (558, 3, 30, 0, 12, 25, []), (561, 1, 0, 1, 0, 0, []), (562, 1, 9, 0, 0, 1, [])]
def tk_236_3 : mK := [(563, 3, 31, 0, 12, 25, []), (566, 1, 3, 0, 0, 0, []), (567, 3, 30, 0, 12, 27, []), (570, 2, 2, 0, 5, 0, []), (572, 2, 2, 0, 6, 0, []), (574, 1, 36, 0, 0, 0, []), (575, 1, 0, 0, 0, 0, []), (576, 2, 5, 0, 8, 0, []), (578, 2, 2, 0, 8, 0, []), (580, 1, 0, 4, 0, 0, []), (581, 3, 21, 0, 612, 3, []), (584, 1, 3, 0, 0, 0, []), (585, 3, 30, 0, 12, 28, []), (588, 1, 0, 4, 0, 0, []), (589, 2, 2, 0, 5, 0, []), (591, 1, 9, 0, 0, 2, []), (592, 2, 2, 0, 8, 0, []), (594, 1, 9, 0, 0, 0, []), (595, 1, 3, 0, 0, 0, []), (596, 3, 30, 0, 12, 49, []), (599, 2, 0, 10, 0, 0, []), (601, 2, 2, 0, 8, 0, []), (603, 1, 9, 0, 0, 0, []), (604, 1, 33, 0, 0, 0, []), (605, 1, 36, 0, 0, 0, []), (606, 3, 8, 1, 8, 0, []), (609, 3, 22, 0, 578, 0, []), (612, 1, 3, 0, 0, 0, []), (613, 2, 2, 0, 7, 0, []), (615, 3, 50, 0, 172, 1, [12, 0, 0]), (618, 1, 70, 0, 0, 0, []), (619, 1, 3, 0, 0, 0, []), (620, 1, 0, 0, 0, 0, []), (621, 3, 31, 0, 12, 16, []), (624, 1, 3, 0, 0, 0, []), (625, 3, 30, 0, 12, 25, []), (628, 1, 70, 0, 0, 0, [])]
def tk_236 : mK := tk_236_0 ++ (tk_236_1 ++ (tk_236_2 ++ (tk_236_3)))
/-- CodeExchangeModel.begin(IIZI)I -/
def tk_237 : mK := [(0, 1, 2, 0, 1, 0, []), (1, 1, 0, 0, 0, 0, []), (2, 1, 0, 3, 0, 0, []), (3, 3, 51, 0, 173, 3, [12, 0, 0]), (6, 3, 20, 0, 17, 0, []), (9, 1, 3, 0, 0, 0, []), (10, 1, 2, 0, 2, 0, []), (11, 3, 50, 0, 177, 1, [12, 0, 0]), (14, 3, 20, 0, 23, 1, []), (17, 1, 3, 0, 0, 0, []), (18, 1, 0, (-1), 0, 0, []), (19, 3, 50, 0, 172, 1, [12, 0, 0]), (22, 1, 70, 0, 0, 0, []), (23, 1, 3, 0, 0, 0, []), (24, 3, 30, 0, 12, 2, []), (27, 1, 2, 0, 2, 0, []), (28, 1, 34, 0, 0, 0, []), (29, 3, 20, 0, 39, 1, []), (32, 1, 3, 0, 0, 0, []), (33, 2, 0, (-5), 0, 0, []), (35, 3, 50, 0, 172, 1, [12, 0, 0]), (38, 1, 70, 0, 0, 0, []), (39, 2, 2, 0, 4, 0, []), (41, 1, 0, 0, 0, 0, []), (42, 1, 2, 0, 3, 0, []), (43, 3, 20, 0, 50, 0, []), (46, 1, 0, 4, 0, 0, []), (47, 3, 22, 0, 51, 0, []), (50, 1, 0, 3, 0, 0, []), (51, 3, 51, 0, 173, 3, [12, 0, 0]), (54, 3, 20, 0, 63, 1, []), (57, 1, 3, 0, 0, 0, []), (58, 1, 0, (-1), 0, 0, []), (59, 3, 50, 0, 172, 1, [12, 0, 0]), (62, 1, 70, 0, 0, 0, []), (63, 1, 3, 0, 0, 0, []), (64, 3, 30, 0, 12, 52, []), (67, 1, 2, 0, 1, 0, []), (68, 1, 0, 1, 0, 0, []), (69, 1, 37, 0, 0, 0, []), (70, 1, 3, 0, 0, 0, []), (71, 3, 30, 0, 12, 53, []), (74, 1, 2, 0, 1, 0, []), (75, 1, 2, 0, 2, 0, []), (76, 1, 36, 0, 0, 0, []), (77, 1, 3, 0, 0, 0, []), (78, 3, 30, 0, 12, 54, []), (81, 1, 2, 0, 1, 0, []), (82, 1, 2, 0, 3, 0, []), (83, 1, 37, 0, 0, 0, []), (84, 1, 3, 0, 0, 0, []), (85, 3, 30, 0, 12, 55, []), (88, 1, 2, 0, 1, 0, []), (89, 2, 2, 0, 4, 0, []), (91, 1, 36, 0, 0, 0, []), (92, 1, 3, 0, 0, 0, []), (93, 3, 30, 0, 12, 56, []), (96, 1, 2, 0, 1, 0, []), (97, 1, 0, 0, 0, 0, []), (98, 1, 36, 0, 0, 0, []), (99, 1, 3, 0, 0, 0, []), (100, 3, 30, 0, 12, 57, []), (103, 1, 2, 0, 1, 0, []), (104, 1, 0, 4, 0, 0, []), (105, 1, 36, 0, 0, 0, []), (106, 1, 3, 0, 0, 0, []), (107, 3, 30, 0, 12, 58, []), (110, 1, 2, 0, 1, 0, []), (111, 1, 0, 0, 0, 0, []), (112, 1, 36, 0, 0, 0, []), (113, 1, 3, 0, 0, 0, []), (114, 3, 30, 0, 12, 60, []), (117, 1, 2, 0, 1, 0, []), (118, 1, 0, 0, 0, 0, []), (119, 1, 36, 0, 0, 0, []), (120, 1, 3, 0, 0, 0, []), (121, 3, 30, 0, 12, 61, []), (124, 1, 2, 0, 1, 0, []), (125, 1, 0, 0, 0, 0, []), (126, 1, 36, 0, 0, 0, []), (127, 1, 3, 0, 0, 0, []), (128, 3, 30, 0, 12, 62, []), (131, 1, 2, 0, 1, 0, []), (132, 1, 0, 0, 0, 0, []), (133, 1, 36, 0, 0, 0, []), (134, 1, 0, 0, 0, 0, []), (135, 1, 70, 0, 0, 0, [])]
/-- CodeExchangeModel.load(I)V -/
def tk_238 : mK := [(0, 1, 3, 0, 0, 0, []), (1, 1, 3, 0, 0, 0, []), (2, 3, 30, 0, 12, 56, []), (5, 1, 2, 0, 1, 0, []), (6, 1, 33, 0, 0, 0, []), (7, 3, 31, 0, 12, 34, []), (10, 1, 3, 0, 0, 0, []), (11, 1, 3, 0, 0, 0, []), (12, 3, 30, 0, 12, 57, []), (15, 1, 2, 0, 1, 0, []), (16, 1, 33, 0, 0, 0, []), (17, 3, 31, 0, 12, 35, []), (20, 1, 3, 0, 0, 0, []), (21, 1, 3, 0, 0, 0, []), (22, 3, 30, 0, 12, 65, []), (25, 3, 31, 0, 12, 36, []), (28, 1, 3, 0, 0, 0, []), (29, 1, 0, 0, 0, 0, []), (30, 3, 31, 0, 12, 37, []), (33, 1, 3, 0, 0, 0, []), (34, 3, 0, 1200, 0, 0, []), (37, 3, 31, 0, 12, 38, []), (40, 1, 0, 0, 0, 0, []), (41, 1, 5, 0, 2, 0, []), (42, 1, 2, 0, 2, 0, []), (43, 1, 3, 0, 0, 0, []), (44, 3, 30, 0, 12, 58, []), (47, 1, 2, 0, 1, 0, []), (48, 1, 33, 0, 0, 0, []), (49, 3, 21, 0, 75, 3, []), (52, 1, 3, 0, 0, 0, []), (53, 3, 30, 0, 12, 64, []), (56, 1, 2, 0, 2, 0, []), (57, 1, 3, 0, 0, 0, []), (58, 3, 30, 0, 12, 59, []), (61, 2, 0, 8, 0, 0, []), (63, 1, 2, 0, 1, 0, []), (64, 1, 9, 0, 0, 2, []), (65, 1, 2, 0, 2, 0, []), (66, 1, 9, 0, 0, 0, []), (67, 1, 33, 0, 0, 0, []), (68, 1, 36, 0, 0, 0, []), (69, 3, 8, 1, 2, 0, []), (72, 3, 22, 0, 42, 0, []), (75, 1, 72, 0, 0, 0, [])]
/-- CodeExchangeModel.store(III)I -/
def tk_239 : mK := [(0, 1, 0, 0, 0, 0, []), (1, 2, 5, 0, 4, 0, []), (3, 2, 2, 0, 4, 0, []), (5, 1, 3, 0, 0, 0, []), (6, 3, 30, 0, 12, 37, []), (9, 3, 21, 0, 45, 3, []), (12, 1, 3, 0, 0, 0, []), (13, 3, 30, 0, 12, 63, []), (16, 3, 0, 1200, 0, 0, []), (19, 1, 2, 0, 1, 0, []), (20, 1, 9, 0, 0, 2, []), (21, 1, 3, 0, 0, 0, []), (22, 3, 30, 0, 12, 62, []), (25, 1, 2, 0, 1, 0, []), (26, 1, 33, 0, 0, 0, []), (27, 1, 9, 0, 0, 0, []), (28, 2, 2, 0, 4, 0, []), (30, 1, 9, 0, 0, 0, []), (31, 1, 3, 0, 0, 0, []), (32, 3, 30, 0, 12, 65, []), (35, 2, 2, 0, 4, 0, []), (37, 1, 33, 0, 0, 0, []), (38, 1, 36, 0, 0, 0, []), (39, 3, 8, 1, 4, 0, []), (42, 3, 22, 0, 3, 0, []), (45, 1, 3, 0, 0, 0, []), (46, 3, 30, 0, 12, 62, []), (49, 1, 2, 0, 1, 0, []), (50, 1, 19, 0, 0, 0, []), (51, 1, 33, 0, 0, 0, []), (52, 1, 3, 0, 0, 0, []), (53, 3, 30, 0, 12, 37, []), (56, 1, 9, 0, 0, 0, []), (57, 1, 36, 0, 0, 0, []), (58, 1, 3, 0, 0, 0, []), (59, 3, 30, 0, 12, 56, []), (62, 1, 2, 0, 1, 0, []), (63, 1, 3, 0, 0, 0, []), (64, 3, 30, 0, 12, 34, []), (67, 1, 36, 0, 0, 0, []), (68, 1, 3, 0, 0, 0, []), (69, 3, 30, 0, 12, 57, []), (72, 1, 2, 0, 1, 0, []), (73, 1, 2, 0, 2, 0, []), (74, 3, 20, 0, 81, 0, []), (77, 1, 0, 4, 0, 0, []), (78, 3, 22, 0, 85, 0, []), (81, 1, 3, 0, 0, 0, []), (82, 3, 30, 0, 12, 35, []), (85, 1, 36, 0, 0, 0, []), (86, 1, 2, 0, 2, 0, []), (87, 3, 20, 0, 115, 0, []), (90, 1, 3, 0, 0, 0, []), (91, 1, 2, 0, 3, 0, []), (92, 3, 31, 0, 12, 22, []), (95, 1, 3, 0, 0, 0, []), (96, 3, 30, 0, 12, 58, []), (99, 1, 2, 0, 1, 0, []), (100, 1, 0, 0, 0, 0, []), (101, 1, 36, 0, 0, 0, []), (102, 1, 3, 0, 0, 0, []), (103, 3, 30, 0, 12, 61, []), (106, 1, 2, 0, 1, 0, []), (107, 1, 0, 2, 0, 0, []), (108, 1, 36, 0, 0, 0, []), (109, 1, 3, 0, 0, 0, []), (110, 1, 2, 0, 2, 0, []), (111, 3, 50, 0, 172, 1, [12, 0, 0]), (114, 1, 70, 0, 0, 0, []), (115, 1, 3, 0, 0, 0, []), (116, 3, 30, 0, 12, 62, []), (119, 1, 2, 0, 1, 0, []), (120, 1, 33, 0, 0, 0, []), (121, 1, 70, 0, 0, 0, [])]
/-- CodeExchangeModel.reads(IZ)I -/
def tk_240 : mK := [(0, 1, 3, 0, 0, 0, []), (1, 1, 2, 0, 1, 0, []), (2, 3, 50, 0, 238, 1, [12, 0, 0]), (5, 1, 0, 0, 0, 0, []), (6, 1, 5, 0, 3, 0, []), (7, 1, 0, 1, 0, 0, []), (8, 2, 5, 0, 4, 0, []), (10, 1, 2, 0, 3, 0, []), (11, 1, 3, 0, 0, 0, []), (12, 3, 30, 0, 12, 58, []), (15, 1, 2, 0, 1, 0, []), (16, 1, 33, 0, 0, 0, []), (17, 3, 21, 0, 72, 3, []), (20, 2, 2, 0, 4, 0, []), (22, 3, 20, 0, 72, 5, []), (25, 1, 3, 0, 0, 0, []), (26, 1, 3, 0, 0, 0, []), (27, 3, 30, 0, 12, 53, []), (30, 1, 2, 0, 1, 0, []), (31, 1, 33, 0, 0, 0, []), (32, 1, 3, 0, 0, 0, []), (33, 3, 30, 0, 12, 55, []), (36, 1, 2, 0, 1, 0, []), (37, 1, 33, 0, 0, 0, []), (38, 1, 3, 0, 0, 0, []), (39, 3, 30, 0, 12, 64, []), (42, 1, 2, 0, 3, 0, []), (43, 1, 3, 0, 0, 0, []), (44, 3, 30, 0, 12, 58, []), (47, 1, 2, 0, 1, 0, []), (48, 1, 33, 0, 0, 0, []), (49, 1, 2, 0, 2, 0, []), (50, 3, 50, 0, 215, 6, [12, 0, 0]), (53, 2, 5, 0, 4, 0, []), (55, 1, 2, 0, 3, 0, []), (56, 2, 2, 0, 4, 0, []), (58, 3, 20, 0, 66, 5, []), (61, 2, 2, 0, 4, 0, []), (63, 3, 22, 0, 67, 0, []), (66, 1, 0, 0, 0, 0, []), (67, 1, 9, 0, 0, 0, []), (68, 1, 5, 0, 3, 0, []), (69, 3, 22, 0, 10, 0, []), (72, 1, 3, 0, 0, 0, []), (73, 3, 30, 0, 12, 60, []), (76, 1, 2, 0, 1, 0, []), (77, 1, 33, 0, 0, 0, []), (78, 1, 3, 0, 0, 0, []), (79, 3, 30, 0, 12, 58, []), (82, 1, 2, 0, 1, 0, []), (83, 1, 33, 0, 0, 0, []), (84, 1, 9, 0, 0, 1, []), (85, 1, 2, 0, 3, 0, []), (86, 1, 9, 0, 0, 0, []), (87, 2, 5, 0, 5, 0, []), (89, 2, 2, 0, 4, 0, []), (91, 3, 20, 0, 145, 2, []), (94, 1, 2, 0, 3, 0, []), (95, 2, 5, 0, 6, 0, []), (97, 2, 2, 0, 6, 0, []), (99, 1, 3, 0, 0, 0, []), (100, 3, 30, 0, 12, 58, []), (103, 1, 2, 0, 1, 0, []), (104, 1, 33, 0, 0, 0, []), (105, 3, 21, 0, 135, 3, []), (108, 1, 3, 0, 0, 0, []), (109, 3, 30, 0, 12, 59, []), (112, 2, 0, 8, 0, 0, []), (114, 1, 2, 0, 1, 0, []), (115, 1, 9, 0, 0, 2, []), (116, 2, 2, 0, 6, 0, []), (118, 1, 9, 0, 0, 0, []), (119, 1, 2, 0, 3, 0, []), (120, 1, 9, 0, 0, 1, []), (121, 1, 3, 0, 0, 0, []), (122, 3, 30, 0, 12, 64, []), (125, 2, 2, 0, 6, 0, []), (127, 1, 33, 0, 0, 0, []), (128, 1, 36, 0, 0, 0, []), (129, 3, 8, 1, 6, 0, []), (132, 3, 22, 0, 97, 0, []), (135, 1, 3, 0, 0, 0, []), (136, 3, 30, 0, 12, 58, []), (139, 1, 2, 0, 1, 0, []), (140, 1, 19, 0, 0, 0, []), (141, 1, 33, 0, 0, 0, []), (142, 1, 2, 0, 3, 0, []), (143, 1, 9, 0, 0, 1, []), (144, 1, 36, 0, 0, 0, []), (145, 1, 3, 0, 0, 0, []), (146, 1, 2, 0, 1, 0, []), (147, 2, 2, 0, 4, 0, []), (149, 3, 20, 0, 157, 3, []), (152, 2, 2, 0, 4, 0, []), (154, 3, 22, 0, 158, 0, []), (157, 1, 0, 0, 0, 0, []), (158, 2, 2, 0, 5, 0, []), (160, 3, 50, 0, 239, 3, [12, 0, 0]), (163, 1, 70, 0, 0, 0, [])]
/-- CodeExchangeModel.writes(II)I -/
def tk_241_0 : mK := [(0, 1, 3, 0, 0, 0, []), (1, 1, 2, 0, 1, 0, []), (2, 3, 50, 0, 238, 1, [12, 0, 0]), (5, 1, 3, 0, 0, 0, []), (6, 3, 30, 0, 12, 53, []), (9, 1, 2, 0, 1, 0, []), (10, 1, 33, 0, 0, 0, []), (11, 1, 5, 0, 3, 0, []), (12, 1, 0, 0, 0, 0, []), (13, 2, 5, 0, 4, 0, []), (15, 1, 3, 0, 0, 0, []), (16, 3, 30, 0, 12, 60, []), (19, 1, 2, 0, 1, 0, []), (20, 1, 33, 0, 0, 0, []), (21, 1, 2, 0, 2, 0, []), (22, 3, 20, 0, 29, 3, []), (25, 1, 0, 0, 0, 0, []), (26, 3, 22, 0, 30, 0, []), (29, 1, 0, 1, 0, 0, []), (30, 1, 9, 0, 0, 1, []), (31, 1, 3, 0, 0, 0, []), (32, 3, 30, 0, 12, 58, []), (35, 1, 2, 0, 1, 0, []), (36, 1, 33, 0, 0, 0, []), (37, 1, 9, 0, 0, 1, []), (38, 2, 5, 0, 5, 0, []), (40, 1, 3, 0, 0, 0, []), (41, 3, 30, 0, 12, 58, []), (44, 1, 2, 0, 1, 0, []), (45, 1, 33, 0, 0, 0, []), (46, 1, 0, 1, 0, 0, []), (47, 3, 21, 0, 65, 1, []), (50, 1, 2, 0, 2, 0, []), (51, 3, 20, 0, 65, 2, []), (54, 1, 2, 0, 2, 0, []), (55, 3, 51, 0, 175, 1, [12, 0, 0]), (58, 3, 20, 0, 65, 0, []), (61, 1, 0, 1, 0, 0, []), (62, 3, 22, 0, 66, 0, []), (65, 1, 0, 0, 0, 0, []), (66, 2, 5, 0, 6, 0, []), (68, 2, 2, 0, 6, 0, []), (70, 3, 20, 0, 123, 0, []), (73, 1, 3, 0, 0, 0, []), (74, 1, 2, 0, 3, 0, []), (75, 1, 3, 0, 0, 0, []), (76, 3, 30, 0, 12, 55, []), (79, 1, 2, 0, 1, 0, []), (80, 1, 33, 0, 0, 0, []), (81, 2, 0, 65536, 0, 0, []), (83, 1, 3, 0, 0, 0, []), (84, 3, 30, 0, 12, 64, []), (87, 1, 0, 0, 0, 0, []), (88, 1, 33, 0, 0, 0, []), (89, 2, 0, 55296, 0, 0, []), (91, 1, 9, 0, 0, 1, []), (92, 2, 0, 10, 0, 0, []), (94, 1, 9, 0, 0, 6, []), (95, 1, 9, 0, 0, 0, []), (96, 1, 2, 0, 2, 0, []), (97, 1, 9, 0, 0, 0, []), (98, 2, 0, 56320, 0, 0, []), (100, 1, 9, 0, 0, 1, []), (101, 3, 50, 0, 222, 3, [12, 0, 0]), (104, 2, 5, 0, 4, 0, []), (106, 1, 3, 0, 0, 0, []), (107, 3, 30, 0, 12, 58, []), (110, 1, 2, 0, 1, 0, []), (111, 1, 0, 0, 0, 0, []), (112, 1, 36, 0, 0, 0, []), (113, 1, 3, 0, 0, 0, []), (114, 1, 2, 0, 1, 0, []), (115, 2, 2, 0, 4, 0, []), (117, 2, 2, 0, 5, 0, []), (119, 3, 50, 0, 239, 3, [12, 0, 0]), (122, 1, 70, 0, 0, 0, []), (123, 1, 3, 0, 0, 0, []), (124, 3, 30, 0, 12, 58, []), (127, 1, 2, 0, 1, 0, []), (128, 1, 33, 0, 0, 0, []), (129, 1, 0, 1, 0, 0, []), (130, 3, 21, 0, 167, 1, []), (133, 1, 3, 0, 0, 0, []), (134, 1, 2, 0, 3, 0, []), (135, 1, 3, 0, 0, 0, []), (136, 3, 30, 0, 12, 55, []), (139, 1, 2, 0, 1, 0, []), (140, 1, 33, 0, 0, 0, []), (141, 1, 3, 0, 0, 0, []), (142, 3, 30, 0, 12, 64, []), (145, 1, 0, 0, 0, 0, []), (146, 1, 33, 0, 0, 0, []), (147, 3, 50, 0, 225, 3, [12, 0, 0]), (150, 2, 5, 0, 4, 0, []), (152, 1, 3, 0, 0, 0, []), (153, 3, 30, 0, 12, 58, []), (156, 1, 2, 0, 1, 0, []), (157, 1, 0, 0, 0, 0, []), (158, 1, 36, 0, 0, 0, []), (159, 2, 2, 0, 4, 0, [])]
def tk_241_1 : mK := [(161, 3, 20, 0, 167, 1, []), (164, 3, 8, 1, 5, 0, []), (167, 2, 2, 0, 4, 0, []), (169, 3, 20, 0, 239, 1, []), (172, 1, 2, 0, 2, 0, []), (173, 3, 20, 0, 239, 2, []), (176, 1, 2, 0, 2, 0, []), (177, 3, 51, 0, 174, 1, [12, 0, 0]), (180, 3, 20, 0, 203, 0, []), (183, 1, 3, 0, 0, 0, []), (184, 3, 30, 0, 12, 59, []), (187, 2, 0, 8, 0, 0, []), (189, 1, 2, 0, 1, 0, []), (190, 1, 9, 0, 0, 2, []), (191, 1, 2, 0, 2, 0, []), (192, 1, 36, 0, 0, 0, []), (193, 1, 3, 0, 0, 0, []), (194, 3, 30, 0, 12, 58, []), (197, 1, 2, 0, 1, 0, []), (198, 1, 0, 1, 0, 0, []), (199, 1, 36, 0, 0, 0, []), (200, 3, 22, 0, 239, 0, []), (203, 1, 2, 0, 2, 0, []), (204, 3, 51, 0, 175, 1, [12, 0, 0]), (207, 3, 20, 0, 225, 0, []), (210, 1, 3, 0, 0, 0, []), (211, 1, 2, 0, 3, 0, []), (212, 1, 3, 0, 0, 0, []), (213, 3, 30, 0, 12, 55, []), (216, 1, 2, 0, 1, 0, []), (217, 1, 33, 0, 0, 0, []), (218, 1, 2, 0, 2, 0, []), (219, 3, 50, 0, 225, 3, [12, 0, 0]), (222, 3, 22, 0, 237, 0, []), (225, 1, 3, 0, 0, 0, []), (226, 1, 2, 0, 3, 0, []), (227, 1, 3, 0, 0, 0, []), (228, 3, 30, 0, 12, 55, []), (231, 1, 2, 0, 1, 0, []), (232, 1, 33, 0, 0, 0, []), (233, 1, 2, 0, 2, 0, []), (234, 3, 50, 0, 222, 3, [12, 0, 0]), (237, 2, 5, 0, 4, 0, []), (239, 2, 2, 0, 4, 0, []), (241, 3, 20, 0, 255, 1, []), (244, 1, 2, 0, 2, 0, []), (245, 3, 20, 0, 255, 3, []), (248, 1, 3, 0, 0, 0, []), (249, 1, 2, 0, 3, 0, []), (250, 3, 50, 0, 226, 1, [12, 0, 0]), (253, 2, 5, 0, 4, 0, []), (255, 1, 3, 0, 0, 0, []), (256, 1, 2, 0, 1, 0, []), (257, 2, 2, 0, 4, 0, []), (259, 2, 2, 0, 5, 0, []), (261, 3, 50, 0, 239, 3, [12, 0, 0]), (264, 1, 70, 0, 0, 0, [])]
def tk_241 : mK := tk_241_0 ++ (tk_241_1)
/-- CodeExchangeModel.feed(II)I -/
def tk_242 : mK := [(0, 1, 2, 0, 1, 0, []), (1, 1, 0, 0, 0, 0, []), (2, 1, 0, 3, 0, 0, []), (3, 3, 51, 0, 173, 3, [12, 0, 0]), (6, 3, 20, 0, 15, 1, []), (9, 1, 3, 0, 0, 0, []), (10, 1, 0, (-1), 0, 0, []), (11, 3, 50, 0, 172, 1, [12, 0, 0]), (14, 1, 70, 0, 0, 0, []), (15, 1, 3, 0, 0, 0, []), (16, 3, 30, 0, 12, 52, []), (19, 1, 2, 0, 1, 0, []), (20, 1, 34, 0, 0, 0, []), (21, 3, 20, 0, 33, 0, []), (24, 1, 3, 0, 0, 0, []), (25, 3, 30, 0, 12, 61, []), (28, 1, 2, 0, 1, 0, []), (29, 1, 33, 0, 0, 0, []), (30, 3, 20, 0, 40, 0, []), (33, 1, 3, 0, 0, 0, []), (34, 2, 0, (-2), 0, 0, []), (36, 3, 50, 0, 172, 1, [12, 0, 0]), (39, 1, 70, 0, 0, 0, []), (40, 1, 2, 0, 2, 0, []), (41, 1, 0, 0, 0, 0, []), (42, 1, 3, 0, 0, 0, []), (43, 3, 30, 0, 12, 54, []), (46, 1, 2, 0, 1, 0, []), (47, 1, 34, 0, 0, 0, []), (48, 3, 20, 0, 57, 0, []), (51, 3, 0, 65535, 0, 0, []), (54, 3, 22, 0, 60, 0, []), (57, 3, 0, 255, 0, 0, []), (60, 3, 51, 0, 173, 3, [12, 0, 0]), (63, 3, 20, 0, 72, 1, []), (66, 1, 3, 0, 0, 0, []), (67, 1, 0, (-1), 0, 0, []), (68, 3, 50, 0, 172, 1, [12, 0, 0]), (71, 1, 70, 0, 0, 0, []), (72, 1, 3, 0, 0, 0, []), (73, 3, 30, 0, 12, 62, []), (76, 1, 2, 0, 1, 0, []), (77, 1, 33, 0, 0, 0, []), (78, 3, 0, 300, 0, 0, []), (81, 3, 21, 0, 91, 5, []), (84, 1, 3, 0, 0, 0, []), (85, 2, 0, (-6), 0, 0, []), (87, 3, 50, 0, 172, 1, [12, 0, 0]), (90, 1, 70, 0, 0, 0, []), (91, 1, 3, 0, 0, 0, []), (92, 3, 30, 0, 12, 60, []), (95, 1, 2, 0, 1, 0, []), (96, 1, 19, 0, 0, 0, []), (97, 1, 33, 0, 0, 0, []), (98, 1, 0, 1, 0, 0, []), (99, 1, 9, 0, 0, 0, []), (100, 1, 36, 0, 0, 0, []), (101, 1, 3, 0, 0, 0, []), (102, 3, 30, 0, 12, 54, []), (105, 1, 2, 0, 1, 0, []), (106, 1, 34, 0, 0, 0, []), (107, 3, 20, 0, 117, 0, []), (110, 1, 3, 0, 0, 0, []), (111, 1, 2, 0, 1, 0, []), (112, 1, 2, 0, 2, 0, []), (113, 3, 50, 0, 241, 2, [12, 0, 0]), (116, 1, 70, 0, 0, 0, []), (117, 1, 3, 0, 0, 0, []), (118, 3, 30, 0, 12, 59, []), (121, 2, 0, 8, 0, 0, []), (123, 1, 2, 0, 1, 0, []), (124, 1, 9, 0, 0, 2, []), (125, 1, 3, 0, 0, 0, []), (126, 3, 30, 0, 12, 58, []), (129, 1, 2, 0, 1, 0, []), (130, 1, 33, 0, 0, 0, []), (131, 1, 9, 0, 0, 0, []), (132, 1, 2, 0, 2, 0, []), (133, 1, 36, 0, 0, 0, []), (134, 1, 3, 0, 0, 0, []), (135, 3, 30, 0, 12, 58, []), (138, 1, 2, 0, 1, 0, []), (139, 1, 19, 0, 0, 0, []), (140, 1, 33, 0, 0, 0, []), (141, 1, 0, 1, 0, 0, []), (142, 1, 9, 0, 0, 0, []), (143, 1, 36, 0, 0, 0, []), (144, 1, 3, 0, 0, 0, []), (145, 1, 2, 0, 1, 0, []), (146, 1, 0, 0, 0, 0, []), (147, 3, 50, 0, 240, 2, [12, 0, 0]), (150, 1, 70, 0, 0, 0, [])]
/-- CodeExchangeModel.end(I)I -/
def tk_243 : mK := [(0, 1, 2, 0, 1, 0, []), (1, 1, 0, 0, 0, 0, []), (2, 1, 0, 3, 0, 0, []), (3, 3, 51, 0, 173, 3, [12, 0, 0]), (6, 3, 20, 0, 15, 1, []), (9, 1, 3, 0, 0, 0, []), (10, 1, 0, (-1), 0, 0, []), (11, 3, 50, 0, 172, 1, [12, 0, 0]), (14, 1, 70, 0, 0, 0, []), (15, 1, 3, 0, 0, 0, []), (16, 3, 30, 0, 12, 52, []), (19, 1, 2, 0, 1, 0, []), (20, 1, 34, 0, 0, 0, []), (21, 3, 20, 0, 33, 0, []), (24, 1, 3, 0, 0, 0, []), (25, 3, 30, 0, 12, 61, []), (28, 1, 2, 0, 1, 0, []), (29, 1, 33, 0, 0, 0, []), (30, 3, 20, 0, 40, 0, []), (33, 1, 3, 0, 0, 0, []), (34, 2, 0, (-2), 0, 0, []), (36, 3, 50, 0, 172, 1, [12, 0, 0]), (39, 1, 70, 0, 0, 0, []), (40, 1, 3, 0, 0, 0, []), (41, 3, 30, 0, 12, 62, []), (44, 1, 2, 0, 1, 0, []), (45, 1, 33, 0, 0, 0, []), (46, 3, 0, 300, 0, 0, []), (49, 3, 21, 0, 59, 5, []), (52, 1, 3, 0, 0, 0, []), (53, 2, 0, (-6), 0, 0, []), (55, 3, 50, 0, 172, 1, [12, 0, 0]), (58, 1, 70, 0, 0, 0, []), (59, 1, 3, 0, 0, 0, []), (60, 3, 30, 0, 12, 54, []), (63, 1, 2, 0, 1, 0, []), (64, 1, 34, 0, 0, 0, []), (65, 3, 20, 0, 77, 0, []), (68, 1, 3, 0, 0, 0, []), (69, 1, 2, 0, 1, 0, []), (70, 1, 0, (-1), 0, 0, []), (71, 3, 50, 0, 241, 2, [12, 0, 0]), (74, 3, 22, 0, 83, 0, []), (77, 1, 3, 0, 0, 0, []), (78, 1, 2, 0, 1, 0, []), (79, 1, 0, 1, 0, 0, []), (80, 3, 50, 0, 240, 2, [12, 0, 0]), (83, 1, 5, 0, 2, 0, []), (84, 1, 3, 0, 0, 0, []), (85, 3, 30, 0, 12, 57, []), (88, 1, 2, 0, 1, 0, []), (89, 1, 0, 4, 0, 0, []), (90, 1, 36, 0, 0, 0, []), (91, 1, 3, 0, 0, 0, []), (92, 3, 30, 0, 12, 58, []), (95, 1, 2, 0, 1, 0, []), (96, 1, 0, 0, 0, 0, []), (97, 1, 36, 0, 0, 0, []), (98, 1, 3, 0, 0, 0, []), (99, 3, 30, 0, 12, 61, []), (102, 1, 2, 0, 1, 0, []), (103, 1, 33, 0, 0, 0, []), (104, 3, 20, 0, 114, 1, []), (107, 1, 3, 0, 0, 0, []), (108, 3, 30, 0, 12, 61, []), (111, 1, 2, 0, 1, 0, []), (112, 1, 0, 1, 0, 0, []), (113, 1, 36, 0, 0, 0, []), (114, 1, 2, 0, 2, 0, []), (115, 1, 70, 0, 0, 0, [])]
/-- CodeExchangeModel.take(I)I -/
def tk_244 : mK := [(0, 1, 2, 0, 1, 0, []), (1, 1, 0, 0, 0, 0, []), (2, 1, 0, 3, 0, 0, []), (3, 3, 51, 0, 173, 3, [12, 0, 0]), (6, 3, 20, 0, 15, 1, []), (9, 1, 3, 0, 0, 0, []), (10, 1, 0, (-1), 0, 0, []), (11, 3, 50, 0, 172, 1, [12, 0, 0]), (14, 1, 70, 0, 0, 0, []), (15, 1, 3, 0, 0, 0, []), (16, 3, 30, 0, 12, 52, []), (19, 1, 2, 0, 1, 0, []), (20, 1, 34, 0, 0, 0, []), (21, 3, 20, 0, 33, 0, []), (24, 1, 3, 0, 0, 0, []), (25, 3, 30, 0, 12, 62, []), (28, 1, 2, 0, 1, 0, []), (29, 1, 33, 0, 0, 0, []), (30, 3, 20, 0, 40, 1, []), (33, 1, 3, 0, 0, 0, []), (34, 2, 0, (-2), 0, 0, []), (36, 3, 50, 0, 172, 1, [12, 0, 0]), (39, 1, 70, 0, 0, 0, []), (40, 1, 3, 0, 0, 0, []), (41, 3, 30, 0, 12, 63, []), (44, 3, 0, 1200, 0, 0, []), (47, 1, 2, 0, 1, 0, []), (48, 1, 9, 0, 0, 2, []), (49, 1, 33, 0, 0, 0, []), (50, 1, 5, 0, 2, 0, []), (51, 1, 3, 0, 0, 0, []), (52, 3, 30, 0, 12, 62, []), (55, 1, 2, 0, 1, 0, []), (56, 1, 19, 0, 0, 0, []), (57, 1, 33, 0, 0, 0, []), (58, 1, 0, 1, 0, 0, []), (59, 1, 9, 0, 0, 1, []), (60, 1, 36, 0, 0, 0, []), (61, 1, 0, 0, 0, 0, []), (62, 1, 5, 0, 3, 0, []), (63, 1, 2, 0, 3, 0, []), (64, 1, 3, 0, 0, 0, []), (65, 3, 30, 0, 12, 62, []), (68, 1, 2, 0, 1, 0, []), (69, 1, 33, 0, 0, 0, []), (70, 3, 21, 0, 105, 3, []), (73, 1, 3, 0, 0, 0, []), (74, 3, 30, 0, 12, 63, []), (77, 3, 0, 1200, 0, 0, []), (80, 1, 2, 0, 1, 0, []), (81, 1, 9, 0, 0, 2, []), (82, 1, 2, 0, 3, 0, []), (83, 1, 9, 0, 0, 0, []), (84, 1, 3, 0, 0, 0, []), (85, 3, 30, 0, 12, 63, []), (88, 3, 0, 1200, 0, 0, []), (91, 1, 2, 0, 1, 0, []), (92, 1, 9, 0, 0, 2, []), (93, 1, 2, 0, 3, 0, []), (94, 1, 9, 0, 0, 0, []), (95, 1, 0, 1, 0, 0, []), (96, 1, 9, 0, 0, 0, []), (97, 1, 33, 0, 0, 0, []), (98, 1, 36, 0, 0, 0, []), (99, 3, 8, 1, 3, 0, []), (102, 3, 22, 0, 63, 0, []), (105, 1, 2, 0, 2, 0, []), (106, 1, 70, 0, 0, 0, [])]
/-- CodeExchangeModel.machine(II)I -/
def tk_245 : mK := [(0, 1, 2, 0, 1, 0, []), (1, 1, 0, 0, 0, 0, []), (2, 1, 0, 3, 0, 0, []), (3, 3, 51, 0, 173, 3, [12, 0, 0]), (6, 3, 20, 0, 15, 1, []), (9, 1, 3, 0, 0, 0, []), (10, 1, 0, (-1), 0, 0, []), (11, 3, 50, 0, 172, 1, [12, 0, 0]), (14, 1, 70, 0, 0, 0, []), (15, 1, 3, 0, 0, 0, []), (16, 3, 30, 0, 12, 52, []), (19, 1, 2, 0, 1, 0, []), (20, 1, 34, 0, 0, 0, []), (21, 3, 20, 0, 31, 1, []), (24, 1, 3, 0, 0, 0, []), (25, 2, 0, (-2), 0, 0, []), (27, 3, 50, 0, 172, 1, [12, 0, 0]), (30, 1, 70, 0, 0, 0, []), (31, 1, 2, 0, 2, 0, []), (32, 36, 26, 0, 103, 0, [68, 75, 82, 89, 96]), (68, 1, 3, 0, 0, 0, []), (69, 3, 30, 0, 12, 62, []), (72, 1, 2, 0, 1, 0, []), (73, 1, 33, 0, 0, 0, []), (74, 1, 70, 0, 0, 0, []), (75, 1, 3, 0, 0, 0, []), (76, 3, 30, 0, 12, 56, []), (79, 1, 2, 0, 1, 0, []), (80, 1, 33, 0, 0, 0, []), (81, 1, 70, 0, 0, 0, []), (82, 1, 3, 0, 0, 0, []), (83, 3, 30, 0, 12, 57, []), (86, 1, 2, 0, 1, 0, []), (87, 1, 33, 0, 0, 0, []), (88, 1, 70, 0, 0, 0, []), (89, 1, 3, 0, 0, 0, []), (90, 3, 30, 0, 12, 58, []), (93, 1, 2, 0, 1, 0, []), (94, 1, 33, 0, 0, 0, []), (95, 1, 70, 0, 0, 0, []), (96, 1, 3, 0, 0, 0, []), (97, 3, 30, 0, 12, 61, []), (100, 1, 2, 0, 1, 0, []), (101, 1, 33, 0, 0, 0, []), (102, 1, 70, 0, 0, 0, []), (103, 1, 3, 0, 0, 0, []), (104, 1, 0, (-1), 0, 0, []), (105, 3, 50, 0, 172, 1, [12, 0, 0]), (108, 1, 70, 0, 0, 0, [])]
/-- CodeExchangeModel.coverage(III)I -/
def tk_246 : mK := [(0, 1, 3, 0, 0, 0, []), (1, 1, 2, 0, 1, 0, []), (2, 3, 50, 0, 177, 1, [12, 0, 0]), (5, 3, 20, 0, 14, 1, []), (8, 1, 3, 0, 0, 0, []), (9, 1, 0, (-1), 0, 0, []), (10, 3, 50, 0, 172, 1, [12, 0, 0]), (13, 1, 70, 0, 0, 0, []), (14, 1, 3, 0, 0, 0, []), (15, 3, 30, 0, 12, 2, []), (18, 1, 2, 0, 1, 0, []), (19, 1, 34, 0, 0, 0, []), (20, 3, 20, 0, 30, 1, []), (23, 1, 3, 0, 0, 0, []), (24, 2, 0, (-5), 0, 0, []), (26, 3, 50, 0, 172, 1, [12, 0, 0]), (29, 1, 70, 0, 0, 0, []), (30, 1, 2, 0, 2, 0, []), (31, 1, 0, 0, 0, 0, []), (32, 2, 0, 1114111, 0, 0, []), (34, 3, 51, 0, 173, 3, [12, 0, 0]), (37, 3, 20, 0, 63, 0, []), (40, 1, 2, 0, 3, 0, []), (41, 1, 0, 0, 0, 0, []), (42, 2, 0, 1114111, 0, 0, []), (44, 3, 51, 0, 173, 3, [12, 0, 0]), (47, 3, 20, 0, 63, 0, []), (50, 1, 2, 0, 3, 0, []), (51, 1, 2, 0, 2, 0, []), (52, 3, 21, 0, 63, 2, []), (55, 1, 2, 0, 3, 0, []), (56, 1, 2, 0, 2, 0, []), (57, 1, 9, 0, 0, 1, []), (58, 2, 0, 65536, 0, 0, []), (60, 3, 21, 0, 69, 2, []), (63, 1, 3, 0, 0, 0, []), (64, 1, 0, (-1), 0, 0, []), (65, 3, 50, 0, 172, 1, [12, 0, 0]), (68, 1, 70, 0, 0, 0, []), (69, 1, 0, 0, 0, 0, []), (70, 2, 5, 0, 4, 0, []), (72, 1, 2, 0, 2, 0, []), (73, 2, 5, 0, 5, 0, []), (75, 2, 2, 0, 5, 0, []), (77, 1, 2, 0, 3, 0, []), (78, 3, 21, 0, 115, 4, []), (81, 2, 2, 0, 4, 0, []), (83, 2, 2, 0, 5, 0, []), (85, 3, 51, 0, 176, 1, [12, 0, 0]), (88, 3, 20, 0, 105, 0, []), (91, 1, 3, 0, 0, 0, []), (92, 1, 2, 0, 1, 0, []), (93, 2, 2, 0, 5, 0, []), (95, 3, 50, 0, 201, 2, [12, 0, 0]), (98, 3, 20, 0, 105, 0, []), (101, 1, 0, 1, 0, 0, []), (102, 3, 22, 0, 106, 0, []), (105, 1, 0, 0, 0, 0, []), (106, 1, 9, 0, 0, 0, []), (107, 2, 5, 0, 4, 0, []), (109, 3, 8, 1, 5, 0, []), (112, 3, 22, 0, 75, 0, []), (115, 2, 2, 0, 4, 0, []), (117, 1, 70, 0, 0, 0, [])]
/-- CodeExchangeModel.aloneOf(II)I -/
def tk_247 : mK := [(0, 1, 3, 0, 0, 0, []), (1, 1, 2, 0, 1, 0, []), (2, 1, 2, 0, 2, 0, []), (3, 3, 50, 0, 201, 2, [12, 0, 0]), (6, 3, 20, 0, 11, 1, []), (9, 1, 0, (-1), 0, 0, []), (10, 1, 70, 0, 0, 0, []), (11, 1, 3, 0, 0, 0, []), (12, 1, 0, 0, 0, 0, []), (13, 3, 31, 0, 12, 34, []), (16, 1, 3, 0, 0, 0, []), (17, 1, 3, 0, 0, 0, []), (18, 3, 30, 0, 12, 65, []), (21, 3, 31, 0, 12, 36, []), (24, 1, 3, 0, 0, 0, []), (25, 1, 0, 0, 0, 0, []), (26, 3, 31, 0, 12, 37, []), (29, 1, 3, 0, 0, 0, []), (30, 3, 0, 1200, 0, 0, []), (33, 3, 31, 0, 12, 38, []), (36, 1, 3, 0, 0, 0, []), (37, 1, 2, 0, 1, 0, []), (38, 3, 50, 0, 220, 1, [12, 0, 0]), (41, 1, 5, 0, 3, 0, []), (42, 1, 3, 0, 0, 0, []), (43, 1, 2, 0, 1, 0, []), (44, 3, 50, 0, 226, 1, [12, 0, 0]), (47, 3, 20, 0, 61, 1, []), (50, 1, 2, 0, 3, 0, []), (51, 3, 20, 0, 61, 1, []), (54, 1, 3, 0, 0, 0, []), (55, 3, 30, 0, 12, 37, []), (58, 3, 22, 0, 62, 0, []), (61, 1, 0, (-1), 0, 0, []), (62, 1, 70, 0, 0, 0, [])]
/-- CodeExchangeModel.differ(III)I -/
def tk_248 : mK := [(0, 1, 3, 0, 0, 0, []), (1, 1, 2, 0, 1, 0, []), (2, 3, 50, 0, 177, 1, [12, 0, 0]), (5, 3, 20, 0, 16, 0, []), (8, 1, 3, 0, 0, 0, []), (9, 1, 2, 0, 2, 0, []), (10, 3, 50, 0, 177, 1, [12, 0, 0]), (13, 3, 20, 0, 22, 1, []), (16, 1, 3, 0, 0, 0, []), (17, 1, 0, (-1), 0, 0, []), (18, 3, 50, 0, 172, 1, [12, 0, 0]), (21, 1, 70, 0, 0, 0, []), (22, 1, 3, 0, 0, 0, []), (23, 3, 30, 0, 12, 2, []), (26, 1, 2, 0, 1, 0, []), (27, 1, 34, 0, 0, 0, []), (28, 3, 20, 0, 40, 0, []), (31, 1, 3, 0, 0, 0, []), (32, 3, 30, 0, 12, 2, []), (35, 1, 2, 0, 2, 0, []), (36, 1, 34, 0, 0, 0, []), (37, 3, 20, 0, 47, 1, []), (40, 1, 3, 0, 0, 0, []), (41, 2, 0, (-5), 0, 0, []), (43, 3, 50, 0, 172, 1, [12, 0, 0]), (46, 1, 70, 0, 0, 0, []), (47, 1, 2, 0, 3, 0, []), (48, 1, 0, 0, 0, 0, []), (49, 2, 0, 1114111, 0, 0, []), (51, 3, 51, 0, 173, 3, [12, 0, 0]), (54, 3, 20, 0, 63, 1, []), (57, 1, 3, 0, 0, 0, []), (58, 1, 0, (-1), 0, 0, []), (59, 3, 50, 0, 172, 1, [12, 0, 0]), (62, 1, 70, 0, 0, 0, []), (63, 1, 2, 0, 3, 0, []), (64, 2, 5, 0, 4, 0, []), (66, 2, 2, 0, 4, 0, []), (68, 1, 2, 0, 3, 0, []), (69, 3, 0, 4096, 0, 0, []), (72, 1, 9, 0, 0, 0, []), (73, 3, 21, 0, 211, 3, []), (76, 2, 2, 0, 4, 0, []), (78, 2, 0, 1114111, 0, 0, []), (80, 3, 21, 0, 211, 4, []), (83, 2, 2, 0, 4, 0, []), (85, 3, 51, 0, 176, 1, [12, 0, 0]), (88, 3, 20, 0, 94, 1, []), (91, 3, 22, 0, 205, 0, []), (94, 1, 3, 0, 0, 0, []), (95, 1, 2, 0, 1, 0, []), (96, 2, 2, 0, 4, 0, []), (98, 3, 50, 0, 247, 2, [12, 0, 0]), (101, 2, 5, 0, 5, 0, []), (103, 1, 0, 0, 0, 0, []), (104, 2, 5, 0, 6, 0, []), (106, 2, 2, 0, 6, 0, []), (108, 2, 2, 0, 5, 0, []), (110, 3, 21, 0, 133, 3, []), (113, 1, 3, 0, 0, 0, []), (114, 3, 30, 0, 12, 66, []), (117, 2, 2, 0, 6, 0, []), (119, 1, 3, 0, 0, 0, []), (120, 3, 30, 0, 12, 65, []), (123, 2, 2, 0, 6, 0, []), (125, 1, 33, 0, 0, 0, []), (126, 1, 36, 0, 0, 0, []), (127, 3, 8, 1, 6, 0, []), (130, 3, 22, 0, 106, 0, []), (133, 1, 3, 0, 0, 0, []), (134, 1, 2, 0, 2, 0, []), (135, 2, 2, 0, 4, 0, []), (137, 3, 50, 0, 247, 2, [12, 0, 0]), (140, 2, 2, 0, 5, 0, []), (142, 3, 21, 0, 149, 1, []), (145, 1, 0, 1, 0, 0, []), (146, 3, 22, 0, 150, 0, []), (149, 1, 0, 0, 0, 0, []), (150, 2, 5, 0, 6, 0, []), (152, 1, 0, 0, 0, 0, []), (153, 2, 5, 0, 7, 0, []), (155, 2, 2, 0, 7, 0, []), (157, 2, 2, 0, 5, 0, []), (159, 3, 21, 0, 197, 3, []), (162, 2, 2, 0, 6, 0, []), (164, 3, 20, 0, 197, 0, []), (167, 1, 3, 0, 0, 0, []), (168, 3, 30, 0, 12, 66, []), (171, 2, 2, 0, 7, 0, []), (173, 1, 33, 0, 0, 0, []), (174, 1, 3, 0, 0, 0, []), (175, 3, 30, 0, 12, 65, []), (178, 2, 2, 0, 7, 0, []), (180, 1, 33, 0, 0, 0, []), (181, 3, 21, 0, 188, 1, []), (184, 1, 0, 1, 0, 0, []), (185, 3, 22, 0, 189, 0, []), (188, 1, 0, 0, 0, 0, []), (189, 2, 5, 0, 6, 0, []), (191, 3, 8, 1, 7, 0, []), (194, 3, 22, 0, 155, 0, []), (197, 2, 2, 0, 6, 0, []), (199, 3, 20, 0, 205, 1, []), (202, 2, 2, 0, 4, 0, []), (204, 1, 70, 0, 0, 0, []), (205, 3, 8, 1, 4, 0, []), (208, 3, 22, 0, 66, 0, []), (211, 1, 3, 0, 0, 0, []), (212, 2, 0, (-2), 0, 0, []), (214, 3, 50, 0, 172, 1, [12, 0, 0]), (217, 1, 70, 0, 0, 0, [])]
/-- CodeExchangeModel.misread(II)I -/
def tk_249 : mK := [(0, 1, 3, 0, 0, 0, []), (1, 1, 2, 0, 1, 0, []), (2, 3, 50, 0, 177, 1, [12, 0, 0]), (5, 3, 20, 0, 16, 0, []), (8, 1, 3, 0, 0, 0, []), (9, 1, 2, 0, 2, 0, []), (10, 3, 50, 0, 177, 1, [12, 0, 0]), (13, 3, 20, 0, 22, 1, []), (16, 1, 3, 0, 0, 0, []), (17, 1, 0, (-1), 0, 0, []), (18, 3, 50, 0, 172, 1, [12, 0, 0]), (21, 1, 70, 0, 0, 0, []), (22, 1, 3, 0, 0, 0, []), (23, 3, 30, 0, 12, 2, []), (26, 1, 2, 0, 1, 0, []), (27, 1, 34, 0, 0, 0, []), (28, 3, 20, 0, 40, 0, []), (31, 1, 3, 0, 0, 0, []), (32, 3, 30, 0, 12, 2, []), (35, 1, 2, 0, 2, 0, []), (36, 1, 34, 0, 0, 0, []), (37, 3, 20, 0, 47, 1, []), (40, 1, 3, 0, 0, 0, []), (41, 2, 0, (-5), 0, 0, []), (43, 3, 50, 0, 172, 1, [12, 0, 0]), (46, 1, 70, 0, 0, 0, []), (47, 1, 3, 0, 0, 0, []), (48, 1, 2, 0, 1, 0, []), (49, 1, 0, 3, 0, 0, []), (50, 1, 3, 0, 0, 0, []), (51, 3, 30, 0, 12, 43, []), (54, 3, 50, 0, 216, 3, [12, 0, 0]), (57, 1, 5, 0, 3, 0, []), (58, 1, 3, 0, 0, 0, []), (59, 1, 2, 0, 2, 0, []), (60, 1, 0, 3, 0, 0, []), (61, 1, 3, 0, 0, 0, []), (62, 3, 30, 0, 12, 44, []), (65, 3, 50, 0, 216, 3, [12, 0, 0]), (68, 2, 5, 0, 4, 0, []), (70, 1, 2, 0, 3, 0, []), (71, 2, 2, 0, 4, 0, []), (73, 3, 21, 0, 83, 5, []), (76, 1, 2, 0, 3, 0, []), (77, 2, 2, 0, 4, 0, []), (79, 1, 9, 0, 0, 1, []), (80, 3, 22, 0, 87, 0, []), (83, 2, 2, 0, 4, 0, []), (85, 1, 2, 0, 3, 0, []), (86, 1, 9, 0, 0, 1, []), (87, 2, 5, 0, 5, 0, []), (89, 1, 0, 0, 0, 0, []), (90, 2, 5, 0, 6, 0, []), (92, 2, 2, 0, 6, 0, []), (94, 1, 2, 0, 3, 0, []), (95, 3, 21, 0, 138, 3, []), (98, 2, 2, 0, 6, 0, []), (100, 2, 2, 0, 4, 0, []), (102, 3, 21, 0, 138, 3, []), (105, 2, 2, 0, 5, 0, []), (107, 1, 3, 0, 0, 0, []), (108, 3, 30, 0, 12, 43, []), (111, 2, 2, 0, 6, 0, []), (113, 1, 33, 0, 0, 0, []), (114, 1, 3, 0, 0, 0, []), (115, 3, 30, 0, 12, 44, []), (118, 2, 2, 0, 6, 0, []), (120, 1, 33, 0, 0, 0, []), (121, 3, 21, 0, 128, 1, []), (124, 1, 0, 0, 0, 0, []), (125, 3, 22, 0, 129, 0, []), (128, 1, 0, 1, 0, 0, []), (129, 1, 9, 0, 0, 0, []), (130, 2, 5, 0, 5, 0, []), (132, 3, 8, 1, 6, 0, []), (135, 3, 22, 0, 92, 0, []), (138, 2, 2, 0, 5, 0, []), (140, 1, 70, 0, 0, 0, [])]
/-- CodeExchangeModel.faults(I)I -/
def tk_250 : mK := [(0, 1, 3, 0, 0, 0, []), (1, 1, 2, 0, 1, 0, []), (2, 3, 50, 0, 177, 1, [12, 0, 0]), (5, 3, 20, 0, 14, 1, []), (8, 1, 3, 0, 0, 0, []), (9, 1, 0, (-1), 0, 0, []), (10, 3, 50, 0, 172, 1, [12, 0, 0]), (13, 1, 70, 0, 0, 0, []), (14, 1, 3, 0, 0, 0, []), (15, 3, 30, 0, 12, 2, []), (18, 1, 2, 0, 1, 0, []), (19, 1, 34, 0, 0, 0, []), (20, 3, 20, 0, 30, 1, []), (23, 1, 3, 0, 0, 0, []), (24, 2, 0, (-5), 0, 0, []), (26, 3, 50, 0, 172, 1, [12, 0, 0]), (29, 1, 70, 0, 0, 0, []), (30, 1, 3, 0, 0, 0, []), (31, 1, 2, 0, 1, 0, []), (32, 1, 0, 2, 0, 0, []), (33, 1, 3, 0, 0, 0, []), (34, 3, 30, 0, 12, 43, []), (37, 3, 50, 0, 216, 3, [12, 0, 0]), (40, 1, 5, 0, 2, 0, []), (41, 1, 3, 0, 0, 0, []), (42, 3, 30, 0, 12, 39, []), (45, 1, 70, 0, 0, 0, [])]
/-- CodeExchangeModel.detect()I -/
def tk_251 : mK := [(0, 1, 0, (-1), 0, 0, []), (1, 1, 5, 0, 1, 0, []), (2, 1, 0, 0, 0, 0, []), (3, 1, 5, 0, 2, 0, []), (4, 1, 0, 0, 0, 0, []), (5, 1, 5, 0, 3, 0, []), (6, 1, 2, 0, 3, 0, []), (7, 1, 3, 0, 0, 0, []), (8, 3, 30, 0, 12, 0, []), (11, 3, 21, 0, 66, 3, []), (14, 1, 3, 0, 0, 0, []), (15, 3, 30, 0, 12, 2, []), (18, 1, 2, 0, 3, 0, []), (19, 1, 34, 0, 0, 0, []), (20, 3, 20, 0, 26, 1, []), (23, 3, 22, 0, 60, 0, []), (26, 1, 3, 0, 0, 0, []), (27, 1, 2, 0, 3, 0, []), (28, 1, 0, 2, 0, 0, []), (29, 1, 3, 0, 0, 0, []), (30, 3, 30, 0, 12, 43, []), (33, 3, 50, 0, 216, 3, [12, 0, 0]), (36, 2, 5, 0, 4, 0, []), (38, 1, 2, 0, 1, 0, []), (39, 3, 20, 0, 53, 2, []), (42, 1, 3, 0, 0, 0, []), (43, 3, 30, 0, 12, 39, []), (46, 1, 2, 0, 2, 0, []), (47, 3, 21, 0, 53, 2, []), (50, 3, 22, 0, 60, 0, []), (53, 1, 2, 0, 3, 0, []), (54, 1, 5, 0, 1, 0, []), (55, 1, 3, 0, 0, 0, []), (56, 3, 30, 0, 12, 39, []), (59, 1, 5, 0, 2, 0, []), (60, 3, 8, 1, 3, 0, []), (63, 3, 22, 0, 6, 0, []), (66, 1, 2, 0, 1, 0, []), (67, 3, 20, 0, 79, 3, []), (70, 1, 3, 0, 0, 0, []), (71, 2, 0, (-2), 0, 0, []), (73, 3, 50, 0, 172, 1, [12, 0, 0]), (76, 3, 22, 0, 80, 0, []), (79, 1, 2, 0, 1, 0, []), (80, 1, 70, 0, 0, 0, [])]
/-- CodeExchangeModel.lengths(II)I -/
def tk_252 : mK := [(0, 1, 3, 0, 0, 0, []), (1, 1, 2, 0, 1, 0, []), (2, 3, 50, 0, 177, 1, [12, 0, 0]), (5, 3, 20, 0, 14, 1, []), (8, 1, 3, 0, 0, 0, []), (9, 1, 0, (-1), 0, 0, []), (10, 3, 50, 0, 172, 1, [12, 0, 0]), (13, 1, 70, 0, 0, 0, []), (14, 1, 3, 0, 0, 0, []), (15, 3, 30, 0, 12, 2, []), (18, 1, 2, 0, 1, 0, []), (19, 1, 34, 0, 0, 0, []), (20, 3, 20, 0, 30, 1, []), (23, 1, 3, 0, 0, 0, []), (24, 2, 0, (-5), 0, 0, []), (26, 3, 50, 0, 172, 1, [12, 0, 0]), (29, 1, 70, 0, 0, 0, []), (30, 1, 2, 0, 2, 0, []), (31, 1, 0, 0, 0, 0, []), (32, 1, 0, 1, 0, 0, []), (33, 3, 51, 0, 173, 3, [12, 0, 0]), (36, 3, 20, 0, 45, 1, []), (39, 1, 3, 0, 0, 0, []), (40, 1, 0, (-1), 0, 0, []), (41, 3, 50, 0, 172, 1, [12, 0, 0]), (44, 1, 70, 0, 0, 0, []), (45, 1, 0, (-1), 0, 0, []), (46, 1, 5, 0, 3, 0, []), (47, 1, 0, 0, 0, 0, []), (48, 2, 5, 0, 4, 0, []), (50, 2, 2, 0, 4, 0, []), (52, 1, 0, 4, 0, 0, []), (53, 3, 21, 0, 167, 3, []), (56, 1, 3, 0, 0, 0, []), (57, 1, 2, 0, 1, 0, []), (58, 3, 50, 0, 194, 1, [12, 0, 0]), (61, 1, 3, 0, 0, 0, []), (62, 3, 30, 0, 12, 29, []), (65, 2, 2, 0, 4, 0, []), (67, 1, 34, 0, 0, 0, []), (68, 3, 20, 0, 161, 0, []), (71, 1, 3, 0, 0, 0, []), (72, 3, 30, 0, 12, 1, []), (75, 1, 2, 0, 1, 0, []), (76, 1, 33, 0, 0, 0, []), (77, 3, 20, 0, 88, 0, []), (80, 2, 2, 0, 4, 0, []), (82, 3, 20, 0, 88, 5, []), (85, 3, 22, 0, 161, 0, []), (88, 1, 3, 0, 0, 0, []), (89, 1, 0, 1, 0, 0, []), (90, 3, 31, 0, 12, 48, []), (93, 1, 3, 0, 0, 0, []), (94, 1, 2, 0, 1, 0, []), (95, 1, 0, 0, 0, 0, []), (96, 1, 3, 0, 0, 0, []), (97, 3, 30, 0, 12, 17, []), (100, 1, 3, 0, 0, 0, []), (101, 3, 30, 0, 12, 16, []), (104, 2, 2, 0, 4, 0, []), (106, 3, 0, 1000000, 0, 0, []), (109, 3, 50, 0, 227, 6, [12, 0, 0]), (112, 2, 5, 0, 5, 0, []), (114, 1, 3, 0, 0, 0, []), (115, 1, 0, 0, 0, 0, []), (116, 3, 31, 0, 12, 48, []), (119, 2, 2, 0, 5, 0, []), (121, 3, 20, 0, 131, 3, []), (124, 1, 3, 0, 0, 0, []), (125, 2, 2, 0, 5, 0, []), (127, 3, 50, 0, 172, 1, [12, 0, 0]), (130, 1, 70, 0, 0, 0, []), (131, 1, 2, 0, 3, 0, []), (132, 3, 20, 0, 154, 2, []), (135, 1, 2, 0, 2, 0, []), (136, 3, 20, 0, 148, 1, []), (139, 2, 2, 0, 5, 0, []), (141, 1, 2, 0, 3, 0, []), (142, 3, 21, 0, 159, 3, []), (145, 3, 22, 0, 154, 0, []), (148, 2, 2, 0, 5, 0, []), (150, 1, 2, 0, 3, 0, []), (151, 3, 21, 0, 159, 5, []), (154, 2, 2, 0, 5, 0, []), (156, 3, 22, 0, 160, 0, []), (159, 1, 2, 0, 3, 0, []), (160, 1, 5, 0, 3, 0, []), (161, 3, 8, 1, 4, 0, []), (164, 3, 22, 0, 50, 0, []), (167, 1, 2, 0, 3, 0, []), (168, 1, 70, 0, 0, 0, [])]
/-- CodeExchangeModel.sumOf([II)I -/
def tk_253 : mK := [(0, 1, 1, 0, 0, 0, []), (1, 1, 7, 0, 3, 0, []), (2, 1, 0, 0, 0, 0, []), (3, 2, 5, 0, 5, 0, []), (5, 2, 2, 0, 5, 0, []), (7, 1, 2, 0, 2, 0, []), (8, 3, 21, 0, 31, 3, []), (11, 1, 4, 0, 3, 0, []), (12, 2, 2, 0, 5, 0, []), (14, 1, 15, 0, 0, 0, []), (15, 1, 1, 1, 0, 0, []), (16, 1, 12, 0, 0, 0, []), (17, 1, 3, 0, 1, 0, []), (18, 2, 2, 0, 5, 0, []), (20, 1, 33, 0, 0, 0, []), (21, 1, 15, 0, 0, 0, []), (22, 1, 12, 0, 0, 2, []), (23, 1, 12, 0, 0, 0, []), (24, 1, 7, 0, 3, 0, []), (25, 3, 8, 1, 5, 0, []), (28, 3, 22, 0, 5, 0, []), (31, 1, 4, 0, 3, 0, []), (32, 3, 1, 65521, 0, 0, []), (35, 1, 13, 0, 0, 0, []), (36, 1, 16, 0, 0, 0, []), (37, 1, 70, 0, 0, 0, [])]
/-- CodeExchangeModel.send(I)I -/
def tk_254_0 : mK := [(0, 1, 3, 0, 0, 0, []), (1, 1, 2, 0, 1, 0, []), (2, 3, 50, 0, 177, 1, [12, 0, 0]), (5, 3, 20, 0, 14, 1, []), (8, 1, 3, 0, 0, 0, []), (9, 1, 0, (-1), 0, 0, []), (10, 3, 50, 0, 172, 1, [12, 0, 0]), (13, 1, 70, 0, 0, 0, []), (14, 1, 3, 0, 0, 0, []), (15, 3, 30, 0, 12, 1, []), (18, 1, 2, 0, 1, 0, []), (19, 1, 33, 0, 0, 0, []), (20, 3, 20, 0, 30, 0, []), (23, 1, 3, 0, 0, 0, []), (24, 2, 0, (-3), 0, 0, []), (26, 3, 50, 0, 172, 1, [12, 0, 0]), (29, 1, 70, 0, 0, 0, []), (30, 1, 3, 0, 0, 0, []), (31, 3, 30, 0, 12, 2, []), (34, 1, 2, 0, 1, 0, []), (35, 1, 34, 0, 0, 0, []), (36, 3, 20, 0, 46, 1, []), (39, 1, 3, 0, 0, 0, []), (40, 2, 0, (-5), 0, 0, []), (42, 3, 50, 0, 172, 1, [12, 0, 0]), (45, 1, 70, 0, 0, 0, []), (46, 1, 3, 0, 0, 0, []), (47, 1, 3, 0, 0, 0, []), (48, 3, 30, 0, 12, 45, []), (51, 3, 31, 0, 12, 36, []), (54, 1, 3, 0, 0, 0, []), (55, 1, 0, 0, 0, 0, []), (56, 3, 31, 0, 12, 37, []), (59, 1, 3, 0, 0, 0, []), (60, 1, 3, 0, 0, 0, []), (61, 3, 30, 0, 12, 3, []), (64, 1, 2, 0, 1, 0, []), (65, 1, 33, 0, 0, 0, []), (66, 3, 50, 0, 210, 1, [12, 0, 0]), (69, 2, 0, 100, 0, 0, []), (71, 1, 2, 0, 1, 0, []), (72, 1, 9, 0, 0, 2, []), (73, 1, 5, 0, 2, 0, []), (74, 1, 2, 0, 2, 0, []), (75, 2, 0, 100, 0, 0, []), (77, 1, 2, 0, 1, 0, []), (78, 1, 9, 0, 0, 2, []), (79, 1, 3, 0, 0, 0, []), (80, 3, 30, 0, 12, 3, []), (83, 1, 2, 0, 1, 0, []), (84, 1, 33, 0, 0, 0, []), (85, 1, 9, 0, 0, 0, []), (86, 3, 21, 0, 202, 3, []), (89, 1, 3, 0, 0, 0, []), (90, 1, 3, 0, 0, 0, []), (91, 3, 30, 0, 12, 5, []), (94, 1, 2, 0, 2, 0, []), (95, 1, 33, 0, 0, 0, []), (96, 3, 50, 0, 210, 1, [12, 0, 0]), (99, 1, 3, 0, 0, 0, []), (100, 1, 3, 0, 0, 0, []), (101, 3, 30, 0, 12, 6, []), (104, 1, 2, 0, 2, 0, []), (105, 1, 33, 0, 0, 0, []), (106, 3, 50, 0, 210, 1, [12, 0, 0]), (109, 1, 3, 0, 0, 0, []), (110, 3, 30, 0, 12, 6, []), (113, 1, 2, 0, 2, 0, []), (114, 1, 33, 0, 0, 0, []), (115, 1, 0, 1, 0, 0, []), (116, 1, 9, 0, 0, 1, []), (117, 1, 5, 0, 3, 0, []), (118, 1, 2, 0, 3, 0, []), (119, 3, 20, 0, 147, 2, []), (122, 1, 3, 0, 0, 0, []), (123, 1, 3, 0, 0, 0, []), (124, 3, 30, 0, 12, 7, []), (127, 1, 2, 0, 2, 0, []), (128, 1, 33, 0, 0, 0, []), (129, 2, 0, 8, 0, 0, []), (131, 1, 2, 0, 3, 0, []), (132, 1, 9, 0, 0, 2, []), (133, 1, 9, 0, 0, 7, []), (134, 3, 0, 255, 0, 0, []), (137, 1, 9, 0, 0, 3, []), (138, 3, 50, 0, 210, 1, [12, 0, 0]), (141, 3, 8, (-1), 3, 0, []), (144, 3, 22, 0, 118, 0, []), (147, 1, 0, 2, 0, 0, []), (148, 1, 5, 0, 3, 0, []), (149, 1, 2, 0, 3, 0, []), (150, 3, 20, 0, 178, 2, []), (153, 1, 3, 0, 0, 0, []), (154, 1, 3, 0, 0, 0, []), (155, 3, 30, 0, 12, 8, []), (158, 1, 2, 0, 2, 0, []), (159, 1, 33, 0, 0, 0, []), (160, 2, 0, 8, 0, 0, []), (162, 1, 2, 0, 3, 0, []), (163, 1, 9, 0, 0, 2, [])]
def tk_254_1 : mK := [(164, 1, 9, 0, 0, 7, []), (165, 3, 0, 255, 0, 0, []), (168, 1, 9, 0, 0, 3, []), (169, 3, 50, 0, 210, 1, [12, 0, 0]), (172, 3, 8, (-1), 3, 0, []), (175, 3, 22, 0, 149, 0, []), (178, 1, 3, 0, 0, 0, []), (179, 1, 3, 0, 0, 0, []), (180, 3, 30, 0, 12, 9, []), (183, 1, 2, 0, 2, 0, []), (184, 1, 34, 0, 0, 0, []), (185, 3, 20, 0, 192, 0, []), (188, 1, 0, 1, 0, 0, []), (189, 3, 22, 0, 193, 0, []), (192, 1, 0, 0, 0, 0, []), (193, 3, 50, 0, 210, 1, [12, 0, 0]), (196, 3, 8, 1, 2, 0, []), (199, 3, 22, 0, 74, 0, []), (202, 1, 3, 0, 0, 0, []), (203, 1, 3, 0, 0, 0, []), (204, 3, 30, 0, 12, 4, []), (207, 1, 2, 0, 1, 0, []), (208, 1, 33, 0, 0, 0, []), (209, 3, 50, 0, 210, 1, [12, 0, 0]), (212, 2, 0, 10, 0, 0, []), (214, 1, 2, 0, 1, 0, []), (215, 1, 9, 0, 0, 2, []), (216, 1, 5, 0, 2, 0, []), (217, 1, 2, 0, 2, 0, []), (218, 2, 0, 10, 0, 0, []), (220, 1, 2, 0, 1, 0, []), (221, 1, 9, 0, 0, 2, []), (222, 1, 3, 0, 0, 0, []), (223, 3, 30, 0, 12, 4, []), (226, 1, 2, 0, 1, 0, []), (227, 1, 33, 0, 0, 0, []), (228, 1, 9, 0, 0, 0, []), (229, 3, 21, 0, 286, 3, []), (232, 1, 3, 0, 0, 0, []), (233, 1, 3, 0, 0, 0, []), (234, 3, 30, 0, 12, 10, []), (237, 1, 2, 0, 2, 0, []), (238, 1, 33, 0, 0, 0, []), (239, 3, 50, 0, 210, 1, [12, 0, 0]), (242, 1, 3, 0, 0, 0, []), (243, 1, 3, 0, 0, 0, []), (244, 3, 30, 0, 12, 11, []), (247, 1, 2, 0, 2, 0, []), (248, 1, 33, 0, 0, 0, []), (249, 3, 50, 0, 210, 1, [12, 0, 0]), (252, 1, 3, 0, 0, 0, []), (253, 1, 3, 0, 0, 0, []), (254, 3, 30, 0, 12, 12, []), (257, 1, 2, 0, 2, 0, []), (258, 1, 33, 0, 0, 0, []), (259, 3, 50, 0, 210, 1, [12, 0, 0]), (262, 1, 3, 0, 0, 0, []), (263, 1, 3, 0, 0, 0, []), (264, 3, 30, 0, 12, 13, []), (267, 1, 2, 0, 2, 0, []), (268, 1, 34, 0, 0, 0, []), (269, 3, 20, 0, 276, 0, []), (272, 1, 0, 1, 0, 0, []), (273, 3, 22, 0, 277, 0, []), (276, 1, 0, 0, 0, 0, []), (277, 3, 50, 0, 210, 1, [12, 0, 0]), (280, 3, 8, 1, 2, 0, []), (283, 3, 22, 0, 217, 0, []), (286, 1, 3, 0, 0, 0, []), (287, 1, 3, 0, 0, 0, []), (288, 3, 30, 0, 12, 45, []), (291, 1, 3, 0, 0, 0, []), (292, 3, 30, 0, 12, 37, []), (295, 3, 50, 0, 253, 2, [12, 0, 0]), (298, 1, 5, 0, 2, 0, []), (299, 1, 3, 0, 0, 0, []), (300, 1, 2, 0, 2, 0, []), (301, 2, 0, 8, 0, 0, []), (303, 1, 9, 0, 0, 7, []), (304, 3, 50, 0, 210, 1, [12, 0, 0]), (307, 1, 3, 0, 0, 0, []), (308, 1, 2, 0, 2, 0, []), (309, 3, 0, 255, 0, 0, []), (312, 1, 9, 0, 0, 3, []), (313, 3, 50, 0, 210, 1, [12, 0, 0]), (316, 1, 3, 0, 0, 0, []), (317, 1, 3, 0, 0, 0, []), (318, 3, 30, 0, 12, 45, []), (321, 1, 3, 0, 0, 0, []), (322, 3, 30, 0, 12, 37, []), (325, 1, 0, 2, 0, 0, []), (326, 3, 50, 0, 228, 3, [12, 0, 0]), (329, 1, 70, 0, 0, 0, [])]
def tk_254 : mK := tk_254_0 ++ (tk_254_1)
/-- CodeExchangeModel.next()I -/
def tk_255 : mK := [(0, 1, 3, 0, 0, 0, []), (1, 3, 30, 0, 12, 67, []), (4, 1, 3, 0, 0, 0, []), (5, 3, 30, 0, 12, 68, []), (8, 3, 21, 0, 23, 3, []), (11, 1, 3, 0, 0, 0, []), (12, 3, 30, 0, 12, 15, []), (15, 1, 3, 0, 0, 0, []), (16, 3, 30, 0, 12, 67, []), (19, 1, 33, 0, 0, 0, []), (20, 3, 22, 0, 24, 0, []), (23, 1, 0, (-1), 0, 0, []), (24, 1, 5, 0, 1, 0, []), (25, 1, 3, 0, 0, 0, []), (26, 1, 17, 0, 0, 0, []), (27, 3, 30, 0, 12, 67, []), (30, 1, 0, 1, 0, 0, []), (31, 1, 9, 0, 0, 0, []), (32, 3, 31, 0, 12, 67, []), (35, 1, 2, 0, 1, 0, []), (36, 1, 70, 0, 0, 0, [])]
/-- CodeExchangeModel.takeIn(I)Z -/
def tk_256 : mK := [(0, 1, 3, 0, 0, 0, []), (1, 1, 0, 0, 0, 0, []), (2, 3, 31, 0, 12, 67, []), (5, 1, 3, 0, 0, 0, []), (6, 1, 3, 0, 0, 0, []), (7, 3, 30, 0, 12, 14, []), (10, 1, 0, 2, 0, 0, []), (11, 1, 9, 0, 0, 1, []), (12, 3, 31, 0, 12, 68, []), (15, 1, 3, 0, 0, 0, []), (16, 3, 30, 0, 12, 3, []), (19, 1, 2, 0, 1, 0, []), (20, 1, 0, 0, 0, 0, []), (21, 1, 36, 0, 0, 0, []), (22, 1, 3, 0, 0, 0, []), (23, 3, 30, 0, 12, 4, []), (26, 1, 2, 0, 1, 0, []), (27, 1, 0, 0, 0, 0, []), (28, 1, 36, 0, 0, 0, []), (29, 1, 3, 0, 0, 0, []), (30, 3, 50, 0, 255, 0, [12, 0, 0]), (33, 1, 5, 0, 2, 0, []), (34, 1, 2, 0, 2, 0, []), (35, 1, 0, 0, 0, 0, []), (36, 2, 0, 100, 0, 0, []), (38, 3, 51, 0, 173, 3, [12, 0, 0]), (41, 3, 20, 0, 46, 1, []), (44, 1, 0, 0, 0, 0, []), (45, 1, 70, 0, 1, 0, []), (46, 1, 0, 0, 0, 0, []), (47, 1, 5, 0, 3, 0, []), (48, 1, 2, 0, 3, 0, []), (49, 1, 2, 0, 2, 0, []), (50, 3, 21, 0, 69, 3, []), (53, 1, 3, 0, 0, 0, []), (54, 1, 2, 0, 1, 0, []), (55, 3, 50, 0, 257, 1, [12, 0, 0]), (58, 3, 20, 0, 63, 1, []), (61, 1, 0, 0, 0, 0, []), (62, 1, 70, 0, 1, 0, []), (63, 3, 8, 1, 3, 0, []), (66, 3, 22, 0, 48, 0, []), (69, 1, 3, 0, 0, 0, []), (70, 3, 50, 0, 255, 0, [12, 0, 0]), (73, 1, 5, 0, 3, 0, []), (74, 1, 2, 0, 3, 0, []), (75, 1, 0, 0, 0, 0, []), (76, 2, 0, 10, 0, 0, []), (78, 3, 51, 0, 173, 3, [12, 0, 0]), (81, 3, 20, 0, 86, 1, []), (84, 1, 0, 0, 0, 0, []), (85, 1, 70, 0, 1, 0, []), (86, 1, 0, 0, 0, 0, []), (87, 2, 5, 0, 4, 0, []), (89, 2, 2, 0, 4, 0, []), (91, 1, 2, 0, 3, 0, []), (92, 3, 21, 0, 111, 3, []), (95, 1, 3, 0, 0, 0, []), (96, 1, 2, 0, 1, 0, []), (97, 3, 50, 0, 258, 1, [12, 0, 0]), (100, 3, 20, 0, 105, 1, []), (103, 1, 0, 0, 0, 0, []), (104, 1, 70, 0, 1, 0, []), (105, 3, 8, 1, 4, 0, []), (108, 3, 22, 0, 89, 0, []), (111, 1, 3, 0, 0, 0, []), (112, 3, 30, 0, 12, 67, []), (115, 1, 3, 0, 0, 0, []), (116, 3, 30, 0, 12, 68, []), (119, 3, 21, 0, 134, 1, []), (122, 1, 3, 0, 0, 0, []), (123, 1, 2, 0, 1, 0, []), (124, 3, 50, 0, 197, 1, [12, 0, 0]), (127, 3, 20, 0, 134, 0, []), (130, 1, 0, 1, 0, 0, []), (131, 3, 22, 0, 135, 0, []), (134, 1, 0, 0, 0, 0, []), (135, 1, 70, 0, 1, 0, [])]
/-- CodeExchangeModel.takeEntry(I)Z -/
def tk_257_0 : mK := [(0, 1, 3, 0, 0, 0, []), (1, 3, 50, 0, 255, 0, [12, 0, 0]), (4, 1, 5, 0, 2, 0, []), (5, 1, 3, 0, 0, 0, []), (6, 3, 50, 0, 255, 0, [12, 0, 0]), (9, 1, 5, 0, 3, 0, []), (10, 1, 2, 0, 2, 0, []), (11, 1, 0, 0, 0, 0, []), (12, 1, 0, 3, 0, 0, []), (13, 3, 51, 0, 173, 3, [12, 0, 0]), (16, 3, 20, 0, 28, 0, []), (19, 1, 2, 0, 3, 0, []), (20, 1, 0, 1, 0, 0, []), (21, 1, 0, 3, 0, 0, []), (22, 3, 51, 0, 173, 3, [12, 0, 0]), (25, 3, 20, 0, 30, 1, []), (28, 1, 0, 0, 0, 0, []), (29, 1, 70, 0, 1, 0, []), (30, 1, 0, 0, 0, 0, []), (31, 2, 5, 0, 4, 0, []), (33, 1, 0, 0, 0, 0, []), (34, 2, 5, 0, 5, 0, []), (36, 2, 2, 0, 5, 0, []), (38, 1, 2, 0, 3, 0, []), (39, 3, 21, 0, 64, 3, []), (42, 2, 2, 0, 4, 0, []), (44, 2, 0, 8, 0, 0, []), (46, 1, 9, 0, 0, 6, []), (47, 1, 3, 0, 0, 0, []), (48, 3, 50, 0, 255, 0, [12, 0, 0]), (51, 3, 0, 255, 0, 0, []), (54, 1, 9, 0, 0, 3, []), (55, 1, 9, 0, 0, 4, []), (56, 2, 5, 0, 4, 0, []), (58, 3, 8, 1, 5, 0, []), (61, 3, 22, 0, 36, 0, []), (64, 1, 0, 0, 0, 0, []), (65, 2, 5, 0, 5, 0, []), (67, 1, 0, 0, 0, 0, []), (68, 2, 5, 0, 6, 0, []), (70, 2, 2, 0, 6, 0, []), (72, 1, 0, 3, 0, 0, []), (73, 3, 21, 0, 98, 3, []), (76, 2, 2, 0, 5, 0, []), (78, 2, 0, 8, 0, 0, []), (80, 1, 9, 0, 0, 6, []), (81, 1, 3, 0, 0, 0, []), (82, 3, 50, 0, 255, 0, [12, 0, 0]), (85, 3, 0, 255, 0, 0, []), (88, 1, 9, 0, 0, 3, []), (89, 1, 9, 0, 0, 4, []), (90, 2, 5, 0, 5, 0, []), (92, 3, 8, 1, 6, 0, []), (95, 3, 22, 0, 70, 0, []), (98, 1, 3, 0, 0, 0, []), (99, 3, 50, 0, 255, 0, [12, 0, 0]), (102, 2, 5, 0, 6, 0, []), (104, 2, 2, 0, 6, 0, []), (106, 3, 20, 0, 135, 2, []), (109, 2, 2, 0, 6, 0, []), (111, 1, 0, 1, 0, 0, []), (112, 3, 21, 0, 135, 4, []), (115, 2, 2, 0, 5, 0, []), (117, 3, 51, 0, 176, 1, [12, 0, 0]), (120, 3, 20, 0, 135, 0, []), (123, 1, 3, 0, 0, 0, []), (124, 1, 2, 0, 1, 0, []), (125, 1, 2, 0, 2, 0, []), (126, 2, 2, 0, 4, 0, []), (128, 1, 2, 0, 3, 0, []), (129, 3, 50, 0, 184, 4, [12, 0, 0]), (132, 3, 20, 0, 137, 2, []), (135, 1, 0, 0, 0, 0, []), (136, 1, 70, 0, 1, 0, []), (137, 2, 0, 100, 0, 0, []), (139, 1, 2, 0, 1, 0, []), (140, 1, 9, 0, 0, 2, []), (141, 1, 3, 0, 0, 0, []), (142, 3, 30, 0, 12, 3, []), (145, 1, 2, 0, 1, 0, []), (146, 1, 33, 0, 0, 0, []), (147, 1, 9, 0, 0, 0, []), (148, 2, 5, 0, 7, 0, []), (150, 1, 3, 0, 0, 0, []), (151, 3, 30, 0, 12, 5, []), (154, 2, 2, 0, 7, 0, []), (156, 1, 2, 0, 2, 0, []), (157, 1, 36, 0, 0, 0, []), (158, 1, 3, 0, 0, 0, []), (159, 3, 30, 0, 12, 6, []), (162, 2, 2, 0, 7, 0, []), (164, 1, 2, 0, 3, 0, []), (165, 1, 36, 0, 0, 0, []), (166, 1, 3, 0, 0, 0, []), (167, 3, 30, 0, 12, 7, []), (170, 2, 2, 0, 7, 0, []), (172, 2, 2, 0, 4, 0, []), (174, 1, 36, 0, 0, 0, []), (175, 1, 3, 0, 0, 0, []), (176, 3, 30, 0, 12, 8, [])]
def tk_257_1 : mK := [(179, 2, 2, 0, 7, 0, []), (181, 2, 2, 0, 5, 0, []), (183, 1, 36, 0, 0, 0, []), (184, 1, 3, 0, 0, 0, []), (185, 3, 30, 0, 12, 9, []), (188, 2, 2, 0, 7, 0, []), (190, 2, 2, 0, 6, 0, []), (192, 1, 0, 1, 0, 0, []), (193, 3, 21, 0, 200, 1, []), (196, 1, 0, 1, 0, 0, []), (197, 3, 22, 0, 201, 0, []), (200, 1, 0, 0, 0, 0, []), (201, 1, 37, 0, 0, 0, []), (202, 1, 3, 0, 0, 0, []), (203, 3, 30, 0, 12, 3, []), (206, 1, 2, 0, 1, 0, []), (207, 1, 19, 0, 0, 0, []), (208, 1, 33, 0, 0, 0, []), (209, 1, 0, 1, 0, 0, []), (210, 1, 9, 0, 0, 0, []), (211, 1, 36, 0, 0, 0, []), (212, 1, 0, 1, 0, 0, []), (213, 1, 70, 0, 1, 0, [])]
def tk_257 : mK := tk_257_0 ++ (tk_257_1)
/-- CodeExchangeModel.takeShift(I)Z -/
def tk_258 : mK := [(0, 1, 3, 0, 0, 0, []), (1, 3, 50, 0, 255, 0, [12, 0, 0]), (4, 1, 5, 0, 2, 0, []), (5, 1, 3, 0, 0, 0, []), (6, 3, 50, 0, 255, 0, [12, 0, 0]), (9, 1, 5, 0, 3, 0, []), (10, 1, 3, 0, 0, 0, []), (11, 3, 50, 0, 255, 0, [12, 0, 0]), (14, 2, 5, 0, 4, 0, []), (16, 1, 3, 0, 0, 0, []), (17, 3, 50, 0, 255, 0, [12, 0, 0]), (20, 2, 5, 0, 5, 0, []), (22, 1, 2, 0, 2, 0, []), (23, 1, 0, 0, 0, 0, []), (24, 1, 0, 3, 0, 0, []), (25, 3, 51, 0, 173, 3, [12, 0, 0]), (28, 3, 20, 0, 71, 0, []), (31, 1, 2, 0, 3, 0, []), (32, 3, 20, 0, 71, 2, []), (35, 2, 2, 0, 4, 0, []), (37, 1, 0, 0, 0, 0, []), (38, 1, 0, 3, 0, 0, []), (39, 3, 51, 0, 173, 3, [12, 0, 0]), (42, 3, 20, 0, 71, 0, []), (45, 1, 2, 0, 2, 0, []), (46, 2, 2, 0, 4, 0, []), (48, 3, 21, 0, 71, 0, []), (51, 2, 2, 0, 5, 0, []), (53, 1, 0, 0, 0, 0, []), (54, 1, 0, 1, 0, 0, []), (55, 3, 51, 0, 173, 3, [12, 0, 0]), (58, 3, 20, 0, 71, 0, []), (61, 1, 3, 0, 0, 0, []), (62, 1, 2, 0, 1, 0, []), (63, 1, 2, 0, 2, 0, []), (64, 1, 2, 0, 3, 0, []), (65, 3, 50, 0, 185, 3, [12, 0, 0]), (68, 3, 20, 0, 73, 2, []), (71, 1, 0, 0, 0, 0, []), (72, 1, 70, 0, 1, 0, []), (73, 2, 0, 10, 0, 0, []), (75, 1, 2, 0, 1, 0, []), (76, 1, 9, 0, 0, 2, []), (77, 1, 3, 0, 0, 0, []), (78, 3, 30, 0, 12, 4, []), (81, 1, 2, 0, 1, 0, []), (82, 1, 33, 0, 0, 0, []), (83, 1, 9, 0, 0, 0, []), (84, 2, 5, 0, 6, 0, []), (86, 1, 3, 0, 0, 0, []), (87, 3, 30, 0, 12, 10, []), (90, 2, 2, 0, 6, 0, []), (92, 1, 2, 0, 2, 0, []), (93, 1, 36, 0, 0, 0, []), (94, 1, 3, 0, 0, 0, []), (95, 3, 30, 0, 12, 11, []), (98, 2, 2, 0, 6, 0, []), (100, 1, 2, 0, 3, 0, []), (101, 1, 36, 0, 0, 0, []), (102, 1, 3, 0, 0, 0, []), (103, 3, 30, 0, 12, 12, []), (106, 2, 2, 0, 6, 0, []), (108, 2, 2, 0, 4, 0, []), (110, 1, 36, 0, 0, 0, []), (111, 1, 3, 0, 0, 0, []), (112, 3, 30, 0, 12, 13, []), (115, 2, 2, 0, 6, 0, []), (117, 2, 2, 0, 5, 0, []), (119, 1, 0, 1, 0, 0, []), (120, 3, 21, 0, 127, 1, []), (123, 1, 0, 1, 0, 0, []), (124, 3, 22, 0, 128, 0, []), (127, 1, 0, 0, 0, 0, []), (128, 1, 37, 0, 0, 0, []), (129, 1, 3, 0, 0, 0, []), (130, 3, 30, 0, 12, 4, []), (133, 1, 2, 0, 1, 0, []), (134, 1, 19, 0, 0, 0, []), (135, 1, 33, 0, 0, 0, []), (136, 1, 0, 1, 0, 0, []), (137, 1, 9, 0, 0, 0, []), (138, 1, 36, 0, 0, 0, []), (139, 1, 0, 1, 0, 0, []), (140, 1, 70, 0, 1, 0, [])]
/-- CodeExchangeModel.receive()I -/
def tk_259 : mK := [(0, 1, 3, 0, 0, 0, []), (1, 3, 30, 0, 12, 0, []), (4, 2, 0, 10, 0, 0, []), (6, 3, 21, 0, 16, 1, []), (9, 1, 3, 0, 0, 0, []), (10, 2, 0, (-6), 0, 0, []), (12, 3, 50, 0, 172, 1, [12, 0, 0]), (15, 1, 70, 0, 0, 0, []), (16, 1, 3, 0, 0, 0, []), (17, 3, 30, 0, 12, 14, []), (20, 1, 0, 4, 0, 0, []), (21, 3, 21, 0, 67, 2, []), (24, 1, 3, 0, 0, 0, []), (25, 1, 3, 0, 0, 0, []), (26, 3, 30, 0, 12, 15, []), (29, 1, 3, 0, 0, 0, []), (30, 3, 30, 0, 12, 14, []), (33, 1, 0, 2, 0, 0, []), (34, 1, 9, 0, 0, 1, []), (35, 3, 50, 0, 253, 2, [12, 0, 0]), (38, 1, 3, 0, 0, 0, []), (39, 3, 30, 0, 12, 15, []), (42, 1, 3, 0, 0, 0, []), (43, 3, 30, 0, 12, 14, []), (46, 1, 0, 2, 0, 0, []), (47, 1, 9, 0, 0, 1, []), (48, 1, 33, 0, 0, 0, []), (49, 2, 0, 8, 0, 0, []), (51, 1, 9, 0, 0, 6, []), (52, 1, 3, 0, 0, 0, []), (53, 3, 30, 0, 12, 15, []), (56, 1, 3, 0, 0, 0, []), (57, 3, 30, 0, 12, 14, []), (60, 1, 0, 1, 0, 0, []), (61, 1, 9, 0, 0, 1, []), (62, 1, 33, 0, 0, 0, []), (63, 1, 9, 0, 0, 4, []), (64, 3, 21, 0, 74, 0, []), (67, 1, 3, 0, 0, 0, []), (68, 2, 0, (-13), 0, 0, []), (70, 3, 50, 0, 172, 1, [12, 0, 0]), (73, 1, 70, 0, 0, 0, []), (74, 1, 3, 0, 0, 0, []), (75, 1, 3, 0, 0, 0, []), (76, 3, 30, 0, 12, 0, []), (79, 3, 50, 0, 256, 1, [12, 0, 0]), (82, 3, 20, 0, 92, 1, []), (85, 1, 3, 0, 0, 0, []), (86, 2, 0, (-8), 0, 0, []), (88, 3, 50, 0, 172, 1, [12, 0, 0]), (91, 1, 70, 0, 0, 0, []), (92, 1, 3, 0, 0, 0, []), (93, 3, 30, 0, 12, 1, []), (96, 1, 3, 0, 0, 0, []), (97, 3, 30, 0, 12, 0, []), (100, 1, 0, 0, 0, 0, []), (101, 1, 36, 0, 0, 0, []), (102, 1, 3, 0, 0, 0, []), (103, 3, 30, 0, 12, 2, []), (106, 1, 3, 0, 0, 0, []), (107, 3, 30, 0, 12, 0, []), (110, 1, 0, 1, 0, 0, []), (111, 1, 37, 0, 0, 0, []), (112, 1, 3, 0, 0, 0, []), (113, 1, 17, 0, 0, 0, []), (114, 3, 30, 0, 12, 0, []), (117, 1, 0, 1, 0, 0, []), (118, 1, 9, 0, 0, 0, []), (119, 3, 31, 0, 12, 0, []), (122, 1, 3, 0, 0, 0, []), (123, 3, 30, 0, 12, 0, []), (126, 1, 0, 1, 0, 0, []), (127, 1, 9, 0, 0, 1, []), (128, 1, 70, 0, 0, 0, [])]
/-- CodeExchangeModel.told(I)I -/
def tk_260 : mK := [(0, 1, 2, 0, 1, 0, []), (1, 59, 26, 0, 109, 0, [60, 65, 65, 65, 74, 79, 84, 89, 94, 99, 104]), (60, 1, 3, 0, 0, 0, []), (61, 3, 30, 0, 12, 22, []), (64, 1, 70, 0, 0, 0, []), (65, 1, 3, 0, 0, 0, []), (66, 3, 30, 0, 12, 23, []), (69, 1, 2, 0, 1, 0, []), (70, 1, 0, 1, 0, 0, []), (71, 1, 9, 0, 0, 1, []), (72, 1, 33, 0, 0, 0, []), (73, 1, 70, 0, 0, 0, []), (74, 1, 3, 0, 0, 0, []), (75, 3, 30, 0, 12, 0, []), (78, 1, 70, 0, 0, 0, []), (79, 1, 3, 0, 0, 0, []), (80, 3, 30, 0, 12, 14, []), (83, 1, 70, 0, 0, 0, []), (84, 1, 3, 0, 0, 0, []), (85, 3, 30, 0, 12, 16, []), (88, 1, 70, 0, 0, 0, []), (89, 1, 3, 0, 0, 0, []), (90, 3, 30, 0, 12, 18, []), (93, 1, 70, 0, 0, 0, []), (94, 1, 3, 0, 0, 0, []), (95, 3, 30, 0, 12, 19, []), (98, 1, 70, 0, 0, 0, []), (99, 1, 3, 0, 0, 0, []), (100, 3, 30, 0, 12, 25, []), (103, 1, 70, 0, 0, 0, []), (104, 1, 3, 0, 0, 0, []), (105, 3, 30, 0, 12, 24, []), (108, 1, 70, 0, 0, 0, []), (109, 1, 3, 0, 0, 0, []), (110, 1, 0, (-1), 0, 0, []), (111, 3, 50, 0, 172, 1, [12, 0, 0]), (114, 1, 70, 0, 0, 0, [])]
/-- java/util/Arrays.fill([II)V -/
def tk_261 : mK := [(0, 1, 0, 0, 0, 0, []), (1, 1, 5, 0, 2, 0, []), (2, 1, 3, 0, 0, 0, []), (3, 1, 39, 0, 0, 0, []), (4, 1, 5, 0, 3, 0, []), (5, 1, 2, 0, 2, 0, []), (6, 1, 2, 0, 3, 0, []), (7, 3, 21, 0, 20, 3, []), (10, 1, 3, 0, 0, 0, []), (11, 1, 2, 0, 2, 0, []), (12, 1, 2, 0, 1, 0, []), (13, 1, 36, 0, 0, 0, []), (14, 3, 8, 1, 2, 0, []), (17, 3, 22, 0, 5, 0, []), (20, 1, 72, 0, 0, 0, [])]
/-- CodeExchangeLaw.law([I)Z -/
def tk_262_0 : mK := [(0, 3, 42, 0, 11, 17, []), (3, 1, 17, 0, 0, 0, []), (4, 3, 52, 0, 107, 0, [11, 94, 118085]), (7, 1, 6, 0, 1, 0, []), (8, 3, 42, 0, 12, 69, []), (11, 1, 17, 0, 0, 0, []), (12, 3, 52, 0, 171, 0, [12, 80, 60000]), (15, 1, 6, 0, 2, 0, []), (16, 1, 0, 0, 0, 0, []), (17, 1, 5, 0, 3, 0, []), (18, 1, 2, 0, 3, 0, []), (19, 1, 3, 0, 0, 0, []), (20, 1, 39, 0, 0, 0, []), (21, 2, 0, 6, 0, 0, []), (23, 1, 9, 0, 0, 1, []), (24, 3, 21, 0, 1284, 4, []), (27, 1, 3, 0, 0, 0, []), (28, 1, 2, 0, 3, 0, []), (29, 1, 33, 0, 0, 0, []), (30, 2, 0, 31, 0, 0, []), (32, 1, 9, 0, 0, 3, []), (33, 139, 26, 0, 1278, 0, [172, 195, 218, 281, 360, 413, 436, 469, 503, 566, 629, 652, 685, 718, 771, 794, 827, 850, 919, 952, 975, 998, 1031, 1074, 1117, 1150, 1173, 1186, 1219, 1242, 1255]), (172, 1, 3, 0, 1, 0, []), (173, 1, 3, 0, 0, 0, []), (174, 1, 2, 0, 3, 0, []), (175, 1, 0, 1, 0, 0, []), (176, 1, 9, 0, 0, 0, []), (177, 1, 33, 0, 0, 0, []), (178, 3, 50, 0, 108, 1, [11, 20, 1863]), (181, 1, 3, 0, 2, 0, []), (182, 1, 3, 0, 0, 0, []), (183, 1, 2, 0, 3, 0, []), (184, 1, 0, 1, 0, 0, []), (185, 1, 9, 0, 0, 0, []), (186, 1, 33, 0, 0, 0, []), (187, 3, 50, 0, 178, 1, [12, 0, 0]), (190, 3, 21, 0, 1278, 0, []), (193, 1, 0, 0, 0, 0, []), (194, 1, 70, 0, 1, 0, []), (195, 1, 3, 0, 1, 0, []), (196, 1, 3, 0, 0, 0, []), (197, 1, 2, 0, 3, 0, []), (198, 1, 0, 1, 0, 0, []), (199, 1, 9, 0, 0, 0, []), (200, 1, 33, 0, 0, 0, []), (201, 3, 50, 0, 109, 1, [11, 20, 1863]), (204, 1, 3, 0, 2, 0, []), (205, 1, 3, 0, 0, 0, []), (206, 1, 2, 0, 3, 0, []), (207, 1, 0, 1, 0, 0, []), (208, 1, 9, 0, 0, 0, []), (209, 1, 33, 0, 0, 0, []), (210, 3, 50, 0, 181, 1, [12, 0, 0]), (213, 3, 21, 0, 1278, 0, []), (216, 1, 0, 0, 0, 0, []), (217, 1, 70, 0, 1, 0, []), (218, 1, 3, 0, 1, 0, []), (219, 1, 3, 0, 0, 0, []), (220, 1, 2, 0, 3, 0, []), (221, 1, 0, 1, 0, 0, []), (222, 1, 9, 0, 0, 0, []), (223, 1, 33, 0, 0, 0, []), (224, 1, 3, 0, 0, 0, []), (225, 1, 2, 0, 3, 0, []), (226, 1, 0, 2, 0, 0, []), (227, 1, 9, 0, 0, 0, []), (228, 1, 33, 0, 0, 0, []), (229, 1, 3, 0, 0, 0, []), (230, 1, 2, 0, 3, 0, []), (231, 1, 0, 3, 0, 0, []), (232, 1, 9, 0, 0, 0, []), (233, 1, 33, 0, 0, 0, []), (234, 1, 3, 0, 0, 0, []), (235, 1, 2, 0, 3, 0, []), (236, 1, 0, 4, 0, 0, []), (237, 1, 9, 0, 0, 0, []), (238, 1, 33, 0, 0, 0, []), (239, 1, 3, 0, 0, 0, []), (240, 1, 2, 0, 3, 0, []), (241, 1, 0, 5, 0, 0, []), (242, 1, 9, 0, 0, 0, []), (243, 1, 33, 0, 0, 0, []), (244, 3, 50, 0, 110, 5, [11, 0, 0]), (247, 1, 3, 0, 2, 0, []), (248, 1, 3, 0, 0, 0, []), (249, 1, 2, 0, 3, 0, []), (250, 1, 0, 1, 0, 0, []), (251, 1, 9, 0, 0, 0, []), (252, 1, 33, 0, 0, 0, []), (253, 1, 3, 0, 0, 0, []), (254, 1, 2, 0, 3, 0, []), (255, 1, 0, 2, 0, 0, []), (256, 1, 9, 0, 0, 0, []), (257, 1, 33, 0, 0, 0, []), (258, 1, 3, 0, 0, 0, []), (259, 1, 2, 0, 3, 0, []), (260, 1, 0, 3, 0, 0, []), (261, 1, 9, 0, 0, 0, []), (262, 1, 33, 0, 0, 0, []), (263, 1, 3, 0, 0, 0, [])]
def tk_262_1 : mK := [(264, 1, 2, 0, 3, 0, []), (265, 1, 0, 4, 0, 0, []), (266, 1, 9, 0, 0, 0, []), (267, 1, 33, 0, 0, 0, []), (268, 1, 3, 0, 0, 0, []), (269, 1, 2, 0, 3, 0, []), (270, 1, 0, 5, 0, 0, []), (271, 1, 9, 0, 0, 0, []), (272, 1, 33, 0, 0, 0, []), (273, 3, 50, 0, 186, 5, [12, 0, 0]), (276, 3, 21, 0, 1278, 0, []), (279, 1, 0, 0, 0, 0, []), (280, 1, 70, 0, 1, 0, []), (281, 1, 3, 0, 1, 0, []), (282, 1, 3, 0, 0, 0, []), (283, 1, 2, 0, 3, 0, []), (284, 1, 0, 1, 0, 0, []), (285, 1, 9, 0, 0, 0, []), (286, 1, 33, 0, 0, 0, []), (287, 1, 3, 0, 0, 0, []), (288, 1, 2, 0, 3, 0, []), (289, 1, 0, 2, 0, 0, []), (290, 1, 9, 0, 0, 0, []), (291, 1, 33, 0, 0, 0, []), (292, 1, 3, 0, 0, 0, []), (293, 1, 2, 0, 3, 0, []), (294, 1, 0, 3, 0, 0, []), (295, 1, 9, 0, 0, 0, []), (296, 1, 33, 0, 0, 0, []), (297, 1, 3, 0, 0, 0, []), (298, 1, 2, 0, 3, 0, []), (299, 1, 0, 4, 0, 0, []), (300, 1, 9, 0, 0, 0, []), (301, 1, 33, 0, 0, 0, []), (302, 1, 3, 0, 0, 0, []), (303, 1, 2, 0, 3, 0, []), (304, 1, 0, 5, 0, 0, []), (305, 1, 9, 0, 0, 0, []), (306, 1, 33, 0, 0, 0, []), (307, 3, 20, 0, 314, 0, []), (310, 1, 0, 1, 0, 0, []), (311, 3, 22, 0, 315, 0, []), (314, 1, 0, 0, 0, 0, []), (315, 3, 50, 0, 111, 5, [11, 0, 0]), (318, 1, 3, 0, 2, 0, []), (319, 1, 3, 0, 0, 0, []), (320, 1, 2, 0, 3, 0, []), (321, 1, 0, 1, 0, 0, []), (322, 1, 9, 0, 0, 0, []), (323, 1, 33, 0, 0, 0, []), (324, 1, 3, 0, 0, 0, []), (325, 1, 2, 0, 3, 0, []), (326, 1, 0, 2, 0, 0, []), (327, 1, 9, 0, 0, 0, []), (328, 1, 33, 0, 0, 0, []), (329, 1, 3, 0, 0, 0, []), (330, 1, 2, 0, 3, 0, []), (331, 1, 0, 3, 0, 0, []), (332, 1, 9, 0, 0, 0, []), (333, 1, 33, 0, 0, 0, []), (334, 1, 3, 0, 0, 0, []), (335, 1, 2, 0, 3, 0, []), (336, 1, 0, 4, 0, 0, []), (337, 1, 9, 0, 0, 0, []), (338, 1, 33, 0, 0, 0, []), (339, 1, 3, 0, 0, 0, []), (340, 1, 2, 0, 3, 0, []), (341, 1, 0, 5, 0, 0, []), (342, 1, 9, 0, 0, 0, []), (343, 1, 33, 0, 0, 0, []), (344, 3, 20, 0, 351, 0, []), (347, 1, 0, 1, 0, 0, []), (348, 3, 22, 0, 352, 0, []), (351, 1, 0, 0, 0, 0, []), (352, 3, 50, 0, 187, 5, [12, 0, 0]), (355, 3, 21, 0, 1278, 0, []), (358, 1, 0, 0, 0, 0, []), (359, 1, 70, 0, 1, 0, []), (360, 1, 3, 0, 1, 0, []), (361, 1, 3, 0, 0, 0, []), (362, 1, 2, 0, 3, 0, []), (363, 1, 0, 1, 0, 0, []), (364, 1, 9, 0, 0, 0, []), (365, 1, 33, 0, 0, 0, []), (366, 1, 3, 0, 0, 0, []), (367, 1, 2, 0, 3, 0, []), (368, 1, 0, 2, 0, 0, []), (369, 1, 9, 0, 0, 0, []), (370, 1, 33, 0, 0, 0, []), (371, 1, 3, 0, 0, 0, []), (372, 1, 2, 0, 3, 0, []), (373, 1, 0, 3, 0, 0, []), (374, 1, 9, 0, 0, 0, []), (375, 1, 33, 0, 0, 0, []), (376, 1, 3, 0, 0, 0, []), (377, 1, 2, 0, 3, 0, []), (378, 1, 0, 4, 0, 0, []), (379, 1, 9, 0, 0, 0, []), (380, 1, 33, 0, 0, 0, []), (381, 3, 50, 0, 112, 4, [11, 0, 0])]
def tk_262_2 : mK := [(384, 1, 3, 0, 2, 0, []), (385, 1, 3, 0, 0, 0, []), (386, 1, 2, 0, 3, 0, []), (387, 1, 0, 1, 0, 0, []), (388, 1, 9, 0, 0, 0, []), (389, 1, 33, 0, 0, 0, []), (390, 1, 3, 0, 0, 0, []), (391, 1, 2, 0, 3, 0, []), (392, 1, 0, 2, 0, 0, []), (393, 1, 9, 0, 0, 0, []), (394, 1, 33, 0, 0, 0, []), (395, 1, 3, 0, 0, 0, []), (396, 1, 2, 0, 3, 0, []), (397, 1, 0, 3, 0, 0, []), (398, 1, 9, 0, 0, 0, []), (399, 1, 33, 0, 0, 0, []), (400, 1, 3, 0, 0, 0, []), (401, 1, 2, 0, 3, 0, []), (402, 1, 0, 4, 0, 0, []), (403, 1, 9, 0, 0, 0, []), (404, 1, 33, 0, 0, 0, []), (405, 3, 50, 0, 188, 4, [12, 0, 0]), (408, 3, 21, 0, 1278, 0, []), (411, 1, 0, 0, 0, 0, []), (412, 1, 70, 0, 1, 0, []), (413, 1, 3, 0, 1, 0, []), (414, 1, 3, 0, 0, 0, []), (415, 1, 2, 0, 3, 0, []), (416, 1, 0, 1, 0, 0, []), (417, 1, 9, 0, 0, 0, []), (418, 1, 33, 0, 0, 0, []), (419, 3, 50, 0, 113, 1, [11, 0, 0]), (422, 1, 3, 0, 2, 0, []), (423, 1, 3, 0, 0, 0, []), (424, 1, 2, 0, 3, 0, []), (425, 1, 0, 1, 0, 0, []), (426, 1, 9, 0, 0, 0, []), (427, 1, 33, 0, 0, 0, []), (428, 3, 50, 0, 198, 1, [12, 0, 0]), (431, 3, 21, 0, 1278, 0, []), (434, 1, 0, 0, 0, 0, []), (435, 1, 70, 0, 1, 0, []), (436, 1, 3, 0, 1, 0, []), (437, 1, 3, 0, 0, 0, []), (438, 1, 2, 0, 3, 0, []), (439, 1, 0, 1, 0, 0, []), (440, 1, 9, 0, 0, 0, []), (441, 1, 33, 0, 0, 0, []), (442, 1, 3, 0, 0, 0, []), (443, 1, 2, 0, 3, 0, []), (444, 1, 0, 2, 0, 0, []), (445, 1, 9, 0, 0, 0, []), (446, 1, 33, 0, 0, 0, []), (447, 3, 50, 0, 114, 2, [11, 0, 0]), (450, 1, 3, 0, 2, 0, []), (451, 1, 3, 0, 0, 0, []), (452, 1, 2, 0, 3, 0, []), (453, 1, 0, 1, 0, 0, []), (454, 1, 9, 0, 0, 0, []), (455, 1, 33, 0, 0, 0, []), (456, 1, 3, 0, 0, 0, []), (457, 1, 2, 0, 3, 0, []), (458, 1, 0, 2, 0, 0, []), (459, 1, 9, 0, 0, 0, []), (460, 1, 33, 0, 0, 0, []), (461, 3, 50, 0, 199, 2, [12, 0, 0]), (464, 3, 21, 0, 1278, 0, []), (467, 1, 0, 0, 0, 0, []), (468, 1, 70, 0, 1, 0, []), (469, 1, 3, 0, 1, 0, []), (470, 1, 3, 0, 0, 0, []), (471, 1, 2, 0, 3, 0, []), (472, 1, 0, 1, 0, 0, []), (473, 1, 9, 0, 0, 0, []), (474, 1, 33, 0, 0, 0, []), (475, 1, 3, 0, 0, 0, []), (476, 1, 2, 0, 3, 0, []), (477, 1, 0, 2, 0, 0, []), (478, 1, 9, 0, 0, 0, []), (479, 1, 33, 0, 0, 0, []), (480, 3, 50, 0, 115, 2, [11, 0, 0]), (483, 1, 3, 0, 2, 0, []), (484, 1, 3, 0, 0, 0, []), (485, 1, 2, 0, 3, 0, []), (486, 1, 0, 1, 0, 0, []), (487, 1, 9, 0, 0, 0, []), (488, 1, 33, 0, 0, 0, []), (489, 1, 3, 0, 0, 0, []), (490, 1, 2, 0, 3, 0, []), (491, 1, 0, 2, 0, 0, []), (492, 1, 9, 0, 0, 0, []), (493, 1, 33, 0, 0, 0, []), (494, 3, 50, 0, 206, 2, [12, 0, 0]), (497, 1, 24, 0, 0, 0, []), (498, 3, 20, 0, 1278, 0, []), (501, 1, 0, 0, 0, 0, []), (502, 1, 70, 0, 1, 0, []), (503, 1, 3, 0, 1, 0, []), (504, 1, 3, 0, 0, 0, []), (505, 1, 2, 0, 3, 0, [])]
def tk_262_3 : mK := [(506, 1, 0, 1, 0, 0, []), (507, 1, 9, 0, 0, 0, []), (508, 1, 33, 0, 0, 0, []), (509, 1, 15, 0, 0, 0, []), (510, 2, 0, 32, 0, 0, []), (512, 1, 14, 0, 0, 0, []), (513, 1, 3, 0, 0, 0, []), (514, 1, 2, 0, 3, 0, []), (515, 1, 0, 2, 0, 0, []), (516, 1, 9, 0, 0, 0, []), (517, 1, 33, 0, 0, 0, []), (518, 1, 15, 0, 0, 0, []), (519, 3, 1, 4294967295, 0, 0, []), (522, 1, 12, 0, 0, 3, []), (523, 1, 12, 0, 0, 4, []), (524, 1, 3, 0, 0, 0, []), (525, 1, 2, 0, 3, 0, []), (526, 1, 0, 3, 0, 0, []), (527, 1, 9, 0, 0, 0, []), (528, 1, 33, 0, 0, 0, []), (529, 3, 50, 0, 116, 2, [11, 0, 0]), (532, 1, 3, 0, 2, 0, []), (533, 1, 3, 0, 0, 0, []), (534, 1, 2, 0, 3, 0, []), (535, 1, 0, 1, 0, 0, []), (536, 1, 9, 0, 0, 0, []), (537, 1, 33, 0, 0, 0, []), (538, 1, 15, 0, 0, 0, []), (539, 2, 0, 32, 0, 0, []), (541, 1, 14, 0, 0, 0, []), (542, 1, 3, 0, 0, 0, []), (543, 1, 2, 0, 3, 0, []), (544, 1, 0, 2, 0, 0, []), (545, 1, 9, 0, 0, 0, []), (546, 1, 33, 0, 0, 0, []), (547, 1, 15, 0, 0, 0, []), (548, 3, 1, 4294967295, 0, 0, []), (551, 1, 12, 0, 0, 3, []), (552, 1, 12, 0, 0, 4, []), (553, 1, 3, 0, 0, 0, []), (554, 1, 2, 0, 3, 0, []), (555, 1, 0, 3, 0, 0, []), (556, 1, 9, 0, 0, 0, []), (557, 1, 33, 0, 0, 0, []), (558, 3, 50, 0, 207, 2, [12, 0, 0]), (561, 3, 21, 0, 1278, 0, []), (564, 1, 0, 0, 0, 0, []), (565, 1, 70, 0, 1, 0, []), (566, 1, 3, 0, 1, 0, []), (567, 1, 3, 0, 0, 0, []), (568, 1, 2, 0, 3, 0, []), (569, 1, 0, 1, 0, 0, []), (570, 1, 9, 0, 0, 0, []), (571, 1, 33, 0, 0, 0, []), (572, 1, 15, 0, 0, 0, []), (573, 2, 0, 32, 0, 0, []), (575, 1, 14, 0, 0, 0, []), (576, 1, 3, 0, 0, 0, []), (577, 1, 2, 0, 3, 0, []), (578, 1, 0, 2, 0, 0, []), (579, 1, 9, 0, 0, 0, []), (580, 1, 33, 0, 0, 0, []), (581, 1, 15, 0, 0, 0, []), (582, 3, 1, 4294967295, 0, 0, []), (585, 1, 12, 0, 0, 3, []), (586, 1, 12, 0, 0, 4, []), (587, 1, 3, 0, 0, 0, []), (588, 1, 2, 0, 3, 0, []), (589, 1, 0, 3, 0, 0, []), (590, 1, 9, 0, 0, 0, []), (591, 1, 33, 0, 0, 0, []), (592, 3, 50, 0, 117, 2, [11, 0, 0]), (595, 1, 3, 0, 2, 0, []), (596, 1, 3, 0, 0, 0, []), (597, 1, 2, 0, 3, 0, []), (598, 1, 0, 1, 0, 0, []), (599, 1, 9, 0, 0, 0, []), (600, 1, 33, 0, 0, 0, []), (601, 1, 15, 0, 0, 0, []), (602, 2, 0, 32, 0, 0, []), (604, 1, 14, 0, 0, 0, []), (605, 1, 3, 0, 0, 0, []), (606, 1, 2, 0, 3, 0, []), (607, 1, 0, 2, 0, 0, []), (608, 1, 9, 0, 0, 0, []), (609, 1, 33, 0, 0, 0, []), (610, 1, 15, 0, 0, 0, []), (611, 3, 1, 4294967295, 0, 0, []), (614, 1, 12, 0, 0, 3, []), (615, 1, 12, 0, 0, 4, []), (616, 1, 3, 0, 0, 0, []), (617, 1, 2, 0, 3, 0, []), (618, 1, 0, 3, 0, 0, []), (619, 1, 9, 0, 0, 0, []), (620, 1, 33, 0, 0, 0, []), (621, 3, 50, 0, 208, 2, [12, 0, 0]), (624, 3, 21, 0, 1278, 0, []), (627, 1, 0, 0, 0, 0, []), (628, 1, 70, 0, 1, 0, []), (629, 1, 3, 0, 1, 0, [])]
def tk_262_4 : mK := [(630, 1, 3, 0, 0, 0, []), (631, 1, 2, 0, 3, 0, []), (632, 1, 0, 1, 0, 0, []), (633, 1, 9, 0, 0, 0, []), (634, 1, 33, 0, 0, 0, []), (635, 3, 50, 0, 118, 1, [11, 0, 0]), (638, 1, 3, 0, 2, 0, []), (639, 1, 3, 0, 0, 0, []), (640, 1, 2, 0, 3, 0, []), (641, 1, 0, 1, 0, 0, []), (642, 1, 9, 0, 0, 0, []), (643, 1, 33, 0, 0, 0, []), (644, 3, 50, 0, 209, 1, [12, 0, 0]), (647, 3, 21, 0, 1278, 0, []), (650, 1, 0, 0, 0, 0, []), (651, 1, 70, 0, 1, 0, []), (652, 1, 3, 0, 1, 0, []), (653, 1, 3, 0, 0, 0, []), (654, 1, 2, 0, 3, 0, []), (655, 1, 0, 1, 0, 0, []), (656, 1, 9, 0, 0, 0, []), (657, 1, 33, 0, 0, 0, []), (658, 1, 3, 0, 0, 0, []), (659, 1, 2, 0, 3, 0, []), (660, 1, 0, 2, 0, 0, []), (661, 1, 9, 0, 0, 0, []), (662, 1, 33, 0, 0, 0, []), (663, 3, 50, 0, 119, 2, [11, 0, 0]), (666, 1, 3, 0, 2, 0, []), (667, 1, 3, 0, 0, 0, []), (668, 1, 2, 0, 3, 0, []), (669, 1, 0, 1, 0, 0, []), (670, 1, 9, 0, 0, 0, []), (671, 1, 33, 0, 0, 0, []), (672, 1, 3, 0, 0, 0, []), (673, 1, 2, 0, 3, 0, []), (674, 1, 0, 2, 0, 0, []), (675, 1, 9, 0, 0, 0, []), (676, 1, 33, 0, 0, 0, []), (677, 3, 50, 0, 229, 2, [12, 0, 0]), (680, 3, 21, 0, 1278, 0, []), (683, 1, 0, 0, 0, 0, []), (684, 1, 70, 0, 1, 0, []), (685, 1, 3, 0, 1, 0, []), (686, 1, 3, 0, 0, 0, []), (687, 1, 2, 0, 3, 0, []), (688, 1, 0, 1, 0, 0, []), (689, 1, 9, 0, 0, 0, []), (690, 1, 33, 0, 0, 0, []), (691, 1, 3, 0, 0, 0, []), (692, 1, 2, 0, 3, 0, []), (693, 1, 0, 2, 0, 0, []), (694, 1, 9, 0, 0, 0, []), (695, 1, 33, 0, 0, 0, []), (696, 3, 50, 0, 120, 2, [11, 0, 0]), (699, 1, 3, 0, 2, 0, []), (700, 1, 3, 0, 0, 0, []), (701, 1, 2, 0, 3, 0, []), (702, 1, 0, 1, 0, 0, []), (703, 1, 9, 0, 0, 0, []), (704, 1, 33, 0, 0, 0, []), (705, 1, 3, 0, 0, 0, []), (706, 1, 2, 0, 3, 0, []), (707, 1, 0, 2, 0, 0, []), (708, 1, 9, 0, 0, 0, []), (709, 1, 33, 0, 0, 0, []), (710, 3, 50, 0, 230, 2, [12, 0, 0]), (713, 3, 21, 0, 1278, 0, []), (716, 1, 0, 0, 0, 0, []), (717, 1, 70, 0, 1, 0, []), (718, 1, 3, 0, 1, 0, []), (719, 1, 3, 0, 0, 0, []), (720, 1, 2, 0, 3, 0, []), (721, 1, 0, 1, 0, 0, []), (722, 1, 9, 0, 0, 0, []), (723, 1, 33, 0, 0, 0, []), (724, 1, 3, 0, 0, 0, []), (725, 1, 2, 0, 3, 0, []), (726, 1, 0, 2, 0, 0, []), (727, 1, 9, 0, 0, 0, []), (728, 1, 33, 0, 0, 0, []), (729, 1, 3, 0, 0, 0, []), (730, 1, 2, 0, 3, 0, []), (731, 1, 0, 3, 0, 0, []), (732, 1, 9, 0, 0, 0, []), (733, 1, 33, 0, 0, 0, []), (734, 1, 3, 0, 0, 0, []), (735, 1, 2, 0, 3, 0, []), (736, 1, 0, 4, 0, 0, []), (737, 1, 9, 0, 0, 0, []), (738, 1, 33, 0, 0, 0, []), (739, 3, 50, 0, 121, 4, [11, 0, 0]), (742, 1, 3, 0, 2, 0, []), (743, 1, 3, 0, 0, 0, []), (744, 1, 2, 0, 3, 0, []), (745, 1, 0, 1, 0, 0, []), (746, 1, 9, 0, 0, 0, []), (747, 1, 33, 0, 0, 0, []), (748, 1, 3, 0, 0, 0, []), (749, 1, 2, 0, 3, 0, [])]
def tk_262_5 : mK := [(750, 1, 0, 2, 0, 0, []), (751, 1, 9, 0, 0, 0, []), (752, 1, 33, 0, 0, 0, []), (753, 1, 3, 0, 0, 0, []), (754, 1, 2, 0, 3, 0, []), (755, 1, 0, 3, 0, 0, []), (756, 1, 9, 0, 0, 0, []), (757, 1, 33, 0, 0, 0, []), (758, 1, 3, 0, 0, 0, []), (759, 1, 2, 0, 3, 0, []), (760, 1, 0, 4, 0, 0, []), (761, 1, 9, 0, 0, 0, []), (762, 1, 33, 0, 0, 0, []), (763, 3, 50, 0, 231, 4, [12, 0, 0]), (766, 3, 21, 0, 1278, 0, []), (769, 1, 0, 0, 0, 0, []), (770, 1, 70, 0, 1, 0, []), (771, 1, 3, 0, 1, 0, []), (772, 1, 3, 0, 0, 0, []), (773, 1, 2, 0, 3, 0, []), (774, 1, 0, 1, 0, 0, []), (775, 1, 9, 0, 0, 0, []), (776, 1, 33, 0, 0, 0, []), (777, 3, 50, 0, 122, 1, [11, 0, 0]), (780, 1, 3, 0, 2, 0, []), (781, 1, 3, 0, 0, 0, []), (782, 1, 2, 0, 3, 0, []), (783, 1, 0, 1, 0, 0, []), (784, 1, 9, 0, 0, 0, []), (785, 1, 33, 0, 0, 0, []), (786, 3, 50, 0, 232, 1, [12, 0, 0]), (789, 3, 21, 0, 1278, 0, []), (792, 1, 0, 0, 0, 0, []), (793, 1, 70, 0, 1, 0, []), (794, 1, 3, 0, 1, 0, []), (795, 1, 3, 0, 0, 0, []), (796, 1, 2, 0, 3, 0, []), (797, 1, 0, 1, 0, 0, []), (798, 1, 9, 0, 0, 0, []), (799, 1, 33, 0, 0, 0, []), (800, 1, 3, 0, 0, 0, []), (801, 1, 2, 0, 3, 0, []), (802, 1, 0, 2, 0, 0, []), (803, 1, 9, 0, 0, 0, []), (804, 1, 33, 0, 0, 0, []), (805, 3, 50, 0, 123, 2, [11, 0, 0]), (808, 1, 3, 0, 2, 0, []), (809, 1, 3, 0, 0, 0, []), (810, 1, 2, 0, 3, 0, []), (811, 1, 0, 1, 0, 0, []), (812, 1, 9, 0, 0, 0, []), (813, 1, 33, 0, 0, 0, []), (814, 1, 3, 0, 0, 0, []), (815, 1, 2, 0, 3, 0, []), (816, 1, 0, 2, 0, 0, []), (817, 1, 9, 0, 0, 0, []), (818, 1, 33, 0, 0, 0, []), (819, 3, 50, 0, 233, 2, [12, 0, 0]), (822, 3, 21, 0, 1278, 0, []), (825, 1, 0, 0, 0, 0, []), (826, 1, 70, 0, 1, 0, []), (827, 1, 3, 0, 1, 0, []), (828, 1, 3, 0, 0, 0, []), (829, 1, 2, 0, 3, 0, []), (830, 1, 0, 1, 0, 0, []), (831, 1, 9, 0, 0, 0, []), (832, 1, 33, 0, 0, 0, []), (833, 3, 50, 0, 124, 1, [11, 0, 0]), (836, 1, 3, 0, 2, 0, []), (837, 1, 3, 0, 0, 0, []), (838, 1, 2, 0, 3, 0, []), (839, 1, 0, 1, 0, 0, []), (840, 1, 9, 0, 0, 0, []), (841, 1, 33, 0, 0, 0, []), (842, 3, 50, 0, 236, 1, [12, 0, 0]), (845, 3, 21, 0, 1278, 0, []), (848, 1, 0, 0, 0, 0, []), (849, 1, 70, 0, 1, 0, []), (850, 1, 3, 0, 1, 0, []), (851, 1, 3, 0, 0, 0, []), (852, 1, 2, 0, 3, 0, []), (853, 1, 0, 1, 0, 0, []), (854, 1, 9, 0, 0, 0, []), (855, 1, 33, 0, 0, 0, []), (856, 1, 3, 0, 0, 0, []), (857, 1, 2, 0, 3, 0, []), (858, 1, 0, 2, 0, 0, []), (859, 1, 9, 0, 0, 0, []), (860, 1, 33, 0, 0, 0, []), (861, 1, 3, 0, 0, 0, []), (862, 1, 2, 0, 3, 0, []), (863, 1, 0, 3, 0, 0, []), (864, 1, 9, 0, 0, 0, []), (865, 1, 33, 0, 0, 0, []), (866, 3, 20, 0, 873, 0, []), (869, 1, 0, 1, 0, 0, []), (870, 3, 22, 0, 874, 0, []), (873, 1, 0, 0, 0, 0, []), (874, 1, 3, 0, 0, 0, []), (875, 1, 2, 0, 3, 0, [])]
def tk_262_6 : mK := [(876, 1, 0, 4, 0, 0, []), (877, 1, 9, 0, 0, 0, []), (878, 1, 33, 0, 0, 0, []), (879, 3, 50, 0, 125, 4, [11, 0, 0]), (882, 1, 3, 0, 2, 0, []), (883, 1, 3, 0, 0, 0, []), (884, 1, 2, 0, 3, 0, []), (885, 1, 0, 1, 0, 0, []), (886, 1, 9, 0, 0, 0, []), (887, 1, 33, 0, 0, 0, []), (888, 1, 3, 0, 0, 0, []), (889, 1, 2, 0, 3, 0, []), (890, 1, 0, 2, 0, 0, []), (891, 1, 9, 0, 0, 0, []), (892, 1, 33, 0, 0, 0, []), (893, 1, 3, 0, 0, 0, []), (894, 1, 2, 0, 3, 0, []), (895, 1, 0, 3, 0, 0, []), (896, 1, 9, 0, 0, 0, []), (897, 1, 33, 0, 0, 0, []), (898, 3, 20, 0, 905, 0, []), (901, 1, 0, 1, 0, 0, []), (902, 3, 22, 0, 906, 0, []), (905, 1, 0, 0, 0, 0, []), (906, 1, 3, 0, 0, 0, []), (907, 1, 2, 0, 3, 0, []), (908, 1, 0, 4, 0, 0, []), (909, 1, 9, 0, 0, 0, []), (910, 1, 33, 0, 0, 0, []), (911, 3, 50, 0, 237, 4, [12, 0, 0]), (914, 3, 21, 0, 1278, 0, []), (917, 1, 0, 0, 0, 0, []), (918, 1, 70, 0, 1, 0, []), (919, 1, 3, 0, 1, 0, []), (920, 1, 3, 0, 0, 0, []), (921, 1, 2, 0, 3, 0, []), (922, 1, 0, 1, 0, 0, []), (923, 1, 9, 0, 0, 0, []), (924, 1, 33, 0, 0, 0, []), (925, 1, 3, 0, 0, 0, []), (926, 1, 2, 0, 3, 0, []), (927, 1, 0, 2, 0, 0, []), (928, 1, 9, 0, 0, 0, []), (929, 1, 33, 0, 0, 0, []), (930, 3, 50, 0, 126, 2, [11, 0, 0]), (933, 1, 3, 0, 2, 0, []), (934, 1, 3, 0, 0, 0, []), (935, 1, 2, 0, 3, 0, []), (936, 1, 0, 1, 0, 0, []), (937, 1, 9, 0, 0, 0, []), (938, 1, 33, 0, 0, 0, []), (939, 1, 3, 0, 0, 0, []), (940, 1, 2, 0, 3, 0, []), (941, 1, 0, 2, 0, 0, []), (942, 1, 9, 0, 0, 0, []), (943, 1, 33, 0, 0, 0, []), (944, 3, 50, 0, 242, 2, [12, 0, 0]), (947, 3, 21, 0, 1278, 0, []), (950, 1, 0, 0, 0, 0, []), (951, 1, 70, 0, 1, 0, []), (952, 1, 3, 0, 1, 0, []), (953, 1, 3, 0, 0, 0, []), (954, 1, 2, 0, 3, 0, []), (955, 1, 0, 1, 0, 0, []), (956, 1, 9, 0, 0, 0, []), (957, 1, 33, 0, 0, 0, []), (958, 3, 50, 0, 127, 1, [11, 0, 0]), (961, 1, 3, 0, 2, 0, []), (962, 1, 3, 0, 0, 0, []), (963, 1, 2, 0, 3, 0, []), (964, 1, 0, 1, 0, 0, []), (965, 1, 9, 0, 0, 0, []), (966, 1, 33, 0, 0, 0, []), (967, 3, 50, 0, 243, 1, [12, 0, 0]), (970, 3, 21, 0, 1278, 0, []), (973, 1, 0, 0, 0, 0, []), (974, 1, 70, 0, 1, 0, []), (975, 1, 3, 0, 1, 0, []), (976, 1, 3, 0, 0, 0, []), (977, 1, 2, 0, 3, 0, []), (978, 1, 0, 1, 0, 0, []), (979, 1, 9, 0, 0, 0, []), (980, 1, 33, 0, 0, 0, []), (981, 3, 50, 0, 128, 1, [11, 0, 0]), (984, 1, 3, 0, 2, 0, []), (985, 1, 3, 0, 0, 0, []), (986, 1, 2, 0, 3, 0, []), (987, 1, 0, 1, 0, 0, []), (988, 1, 9, 0, 0, 0, []), (989, 1, 33, 0, 0, 0, []), (990, 3, 50, 0, 244, 1, [12, 0, 0]), (993, 3, 21, 0, 1278, 0, []), (996, 1, 0, 0, 0, 0, []), (997, 1, 70, 0, 1, 0, []), (998, 1, 3, 0, 1, 0, []), (999, 1, 3, 0, 0, 0, []), (1000, 1, 2, 0, 3, 0, []), (1001, 1, 0, 1, 0, 0, []), (1002, 1, 9, 0, 0, 0, []), (1003, 1, 33, 0, 0, 0, [])]
def tk_262_7 : mK := [(1004, 1, 3, 0, 0, 0, []), (1005, 1, 2, 0, 3, 0, []), (1006, 1, 0, 2, 0, 0, []), (1007, 1, 9, 0, 0, 0, []), (1008, 1, 33, 0, 0, 0, []), (1009, 3, 50, 0, 129, 2, [11, 0, 0]), (1012, 1, 3, 0, 2, 0, []), (1013, 1, 3, 0, 0, 0, []), (1014, 1, 2, 0, 3, 0, []), (1015, 1, 0, 1, 0, 0, []), (1016, 1, 9, 0, 0, 0, []), (1017, 1, 33, 0, 0, 0, []), (1018, 1, 3, 0, 0, 0, []), (1019, 1, 2, 0, 3, 0, []), (1020, 1, 0, 2, 0, 0, []), (1021, 1, 9, 0, 0, 0, []), (1022, 1, 33, 0, 0, 0, []), (1023, 3, 50, 0, 245, 2, [12, 0, 0]), (1026, 3, 21, 0, 1278, 0, []), (1029, 1, 0, 0, 0, 0, []), (1030, 1, 70, 0, 1, 0, []), (1031, 1, 3, 0, 1, 0, []), (1032, 1, 3, 0, 0, 0, []), (1033, 1, 2, 0, 3, 0, []), (1034, 1, 0, 1, 0, 0, []), (1035, 1, 9, 0, 0, 0, []), (1036, 1, 33, 0, 0, 0, []), (1037, 1, 3, 0, 0, 0, []), (1038, 1, 2, 0, 3, 0, []), (1039, 1, 0, 2, 0, 0, []), (1040, 1, 9, 0, 0, 0, []), (1041, 1, 33, 0, 0, 0, []), (1042, 1, 3, 0, 0, 0, []), (1043, 1, 2, 0, 3, 0, []), (1044, 1, 0, 3, 0, 0, []), (1045, 1, 9, 0, 0, 0, []), (1046, 1, 33, 0, 0, 0, []), (1047, 3, 50, 0, 130, 3, [11, 0, 0]), (1050, 1, 3, 0, 2, 0, []), (1051, 1, 3, 0, 0, 0, []), (1052, 1, 2, 0, 3, 0, []), (1053, 1, 0, 1, 0, 0, []), (1054, 1, 9, 0, 0, 0, []), (1055, 1, 33, 0, 0, 0, []), (1056, 1, 3, 0, 0, 0, []), (1057, 1, 2, 0, 3, 0, []), (1058, 1, 0, 2, 0, 0, []), (1059, 1, 9, 0, 0, 0, []), (1060, 1, 33, 0, 0, 0, []), (1061, 1, 3, 0, 0, 0, []), (1062, 1, 2, 0, 3, 0, []), (1063, 1, 0, 3, 0, 0, []), (1064, 1, 9, 0, 0, 0, []), (1065, 1, 33, 0, 0, 0, []), (1066, 3, 50, 0, 246, 3, [12, 0, 0]), (1069, 3, 21, 0, 1278, 0, []), (1072, 1, 0, 0, 0, 0, []), (1073, 1, 70, 0, 1, 0, []), (1074, 1, 3, 0, 1, 0, []), (1075, 1, 3, 0, 0, 0, []), (1076, 1, 2, 0, 3, 0, []), (1077, 1, 0, 1, 0, 0, []), (1078, 1, 9, 0, 0, 0, []), (1079, 1, 33, 0, 0, 0, []), (1080, 1, 3, 0, 0, 0, []), (1081, 1, 2, 0, 3, 0, []), (1082, 1, 0, 2, 0, 0, []), (1083, 1, 9, 0, 0, 0, []), (1084, 1, 33, 0, 0, 0, []), (1085, 1, 3, 0, 0, 0, []), (1086, 1, 2, 0, 3, 0, []), (1087, 1, 0, 3, 0, 0, []), (1088, 1, 9, 0, 0, 0, []), (1089, 1, 33, 0, 0, 0, []), (1090, 3, 50, 0, 131, 3, [11, 0, 0]), (1093, 1, 3, 0, 2, 0, []), (1094, 1, 3, 0, 0, 0, []), (1095, 1, 2, 0, 3, 0, []), (1096, 1, 0, 1, 0, 0, []), (1097, 1, 9, 0, 0, 0, []), (1098, 1, 33, 0, 0, 0, []), (1099, 1, 3, 0, 0, 0, []), (1100, 1, 2, 0, 3, 0, []), (1101, 1, 0, 2, 0, 0, []), (1102, 1, 9, 0, 0, 0, []), (1103, 1, 33, 0, 0, 0, []), (1104, 1, 3, 0, 0, 0, []), (1105, 1, 2, 0, 3, 0, []), (1106, 1, 0, 3, 0, 0, []), (1107, 1, 9, 0, 0, 0, []), (1108, 1, 33, 0, 0, 0, []), (1109, 3, 50, 0, 248, 3, [12, 0, 0]), (1112, 3, 21, 0, 1278, 0, []), (1115, 1, 0, 0, 0, 0, []), (1116, 1, 70, 0, 1, 0, []), (1117, 1, 3, 0, 1, 0, []), (1118, 1, 3, 0, 0, 0, []), (1119, 1, 2, 0, 3, 0, []), (1120, 1, 0, 1, 0, 0, []), (1121, 1, 9, 0, 0, 0, [])]
def tk_262_8 : mK := [(1122, 1, 33, 0, 0, 0, []), (1123, 1, 3, 0, 0, 0, []), (1124, 1, 2, 0, 3, 0, []), (1125, 1, 0, 2, 0, 0, []), (1126, 1, 9, 0, 0, 0, []), (1127, 1, 33, 0, 0, 0, []), (1128, 3, 50, 0, 132, 2, [11, 0, 0]), (1131, 1, 3, 0, 2, 0, []), (1132, 1, 3, 0, 0, 0, []), (1133, 1, 2, 0, 3, 0, []), (1134, 1, 0, 1, 0, 0, []), (1135, 1, 9, 0, 0, 0, []), (1136, 1, 33, 0, 0, 0, []), (1137, 1, 3, 0, 0, 0, []), (1138, 1, 2, 0, 3, 0, []), (1139, 1, 0, 2, 0, 0, []), (1140, 1, 9, 0, 0, 0, []), (1141, 1, 33, 0, 0, 0, []), (1142, 3, 50, 0, 249, 2, [12, 0, 0]), (1145, 3, 21, 0, 1278, 0, []), (1148, 1, 0, 0, 0, 0, []), (1149, 1, 70, 0, 1, 0, []), (1150, 1, 3, 0, 1, 0, []), (1151, 1, 3, 0, 0, 0, []), (1152, 1, 2, 0, 3, 0, []), (1153, 1, 0, 1, 0, 0, []), (1154, 1, 9, 0, 0, 0, []), (1155, 1, 33, 0, 0, 0, []), (1156, 3, 50, 0, 133, 1, [11, 0, 0]), (1159, 1, 3, 0, 2, 0, []), (1160, 1, 3, 0, 0, 0, []), (1161, 1, 2, 0, 3, 0, []), (1162, 1, 0, 1, 0, 0, []), (1163, 1, 9, 0, 0, 0, []), (1164, 1, 33, 0, 0, 0, []), (1165, 3, 50, 0, 250, 1, [12, 0, 0]), (1168, 3, 21, 0, 1278, 0, []), (1171, 1, 0, 0, 0, 0, []), (1172, 1, 70, 0, 1, 0, []), (1173, 1, 3, 0, 1, 0, []), (1174, 3, 50, 0, 134, 0, [11, 0, 0]), (1177, 1, 3, 0, 2, 0, []), (1178, 3, 50, 0, 251, 0, [12, 0, 0]), (1181, 3, 21, 0, 1278, 0, []), (1184, 1, 0, 0, 0, 0, []), (1185, 1, 70, 0, 1, 0, []), (1186, 1, 3, 0, 1, 0, []), (1187, 1, 3, 0, 0, 0, []), (1188, 1, 2, 0, 3, 0, []), (1189, 1, 0, 1, 0, 0, []), (1190, 1, 9, 0, 0, 0, []), (1191, 1, 33, 0, 0, 0, []), (1192, 1, 3, 0, 0, 0, []), (1193, 1, 2, 0, 3, 0, []), (1194, 1, 0, 2, 0, 0, []), (1195, 1, 9, 0, 0, 0, []), (1196, 1, 33, 0, 0, 0, []), (1197, 3, 50, 0, 135, 2, [11, 0, 0]), (1200, 1, 3, 0, 2, 0, []), (1201, 1, 3, 0, 0, 0, []), (1202, 1, 2, 0, 3, 0, []), (1203, 1, 0, 1, 0, 0, []), (1204, 1, 9, 0, 0, 0, []), (1205, 1, 33, 0, 0, 0, []), (1206, 1, 3, 0, 0, 0, []), (1207, 1, 2, 0, 3, 0, []), (1208, 1, 0, 2, 0, 0, []), (1209, 1, 9, 0, 0, 0, []), (1210, 1, 33, 0, 0, 0, []), (1211, 3, 50, 0, 252, 2, [12, 0, 0]), (1214, 3, 21, 0, 1278, 0, []), (1217, 1, 0, 0, 0, 0, []), (1218, 1, 70, 0, 1, 0, []), (1219, 1, 3, 0, 1, 0, []), (1220, 1, 3, 0, 0, 0, []), (1221, 1, 2, 0, 3, 0, []), (1222, 1, 0, 1, 0, 0, []), (1223, 1, 9, 0, 0, 0, []), (1224, 1, 33, 0, 0, 0, []), (1225, 3, 50, 0, 136, 1, [11, 0, 0]), (1228, 1, 3, 0, 2, 0, []), (1229, 1, 3, 0, 0, 0, []), (1230, 1, 2, 0, 3, 0, []), (1231, 1, 0, 1, 0, 0, []), (1232, 1, 9, 0, 0, 0, []), (1233, 1, 33, 0, 0, 0, []), (1234, 3, 50, 0, 254, 1, [12, 0, 0]), (1237, 3, 21, 0, 1278, 0, []), (1240, 1, 0, 0, 0, 0, []), (1241, 1, 70, 0, 1, 0, []), (1242, 1, 3, 0, 1, 0, []), (1243, 3, 50, 0, 137, 0, [11, 20, 1863]), (1246, 1, 3, 0, 2, 0, []), (1247, 3, 50, 0, 259, 0, [12, 0, 0]), (1250, 3, 21, 0, 1278, 0, []), (1253, 1, 0, 0, 0, 0, []), (1254, 1, 70, 0, 1, 0, []), (1255, 1, 3, 0, 1, 0, []), (1256, 1, 3, 0, 0, 0, []), (1257, 1, 2, 0, 3, 0, [])]
def tk_262_9 : mK := [(1258, 1, 0, 1, 0, 0, []), (1259, 1, 9, 0, 0, 0, []), (1260, 1, 33, 0, 0, 0, []), (1261, 3, 50, 0, 138, 1, [11, 0, 0]), (1264, 1, 3, 0, 2, 0, []), (1265, 1, 3, 0, 0, 0, []), (1266, 1, 2, 0, 3, 0, []), (1267, 1, 0, 1, 0, 0, []), (1268, 1, 9, 0, 0, 0, []), (1269, 1, 33, 0, 0, 0, []), (1270, 3, 50, 0, 260, 1, [12, 0, 0]), (1273, 3, 21, 0, 1278, 0, []), (1276, 1, 0, 0, 0, 0, []), (1277, 1, 70, 0, 1, 0, []), (1278, 3, 8, 6, 3, 0, []), (1281, 3, 22, 0, 18, 0, []), (1284, 1, 0, 1, 0, 0, []), (1285, 1, 70, 0, 1, 0, [])]
def tk_262 : mK := tk_262_0 ++ (tk_262_1 ++ (tk_262_2 ++ (tk_262_3 ++ (tk_262_4 ++ (tk_262_5 ++ (tk_262_6 ++ (tk_262_7 ++ (tk_262_8 ++ (tk_262_9)))))))))
end
section
abbrev mr_0 : mR := (⟨"CodeExchange$Entries", "<init>", "(I)V"⟩, prog_2_method_1_code, 3, none, 0, 2, 2, 5, 500, tk_0, 222, 221, 0)
abbrev mr_1 : mR := (⟨"CodeExchange$Entries", "slotOf", "(III)I"⟩, prog_2_method_2_code, 5, (some .int), 0, 4, 0, 0, 0, tk_1, 586, 584, 585)
abbrev mr_2 : mR := (⟨"CodeExchange$Entries", "put", "(IIIIIZ)V"⟩, prog_2_method_3_code, 7, none, 0, 7, 0, 0, 0, tk_2, 551, 549, 550)
abbrev mr_3 : mR := (⟨"CodeExchange$Entries", "removeAt", "(I)V"⟩, prog_2_method_4_code, 3, none, 0, 2, 0, 0, 0, tk_3, 607, 605, 606)
abbrev mr_4 : mR := (⟨"CodeExchange$Entries", "copyFrom", "(LCodeExchange$Entries;)V"⟩, prog_2_method_5_code, 3, none, 0, 2, 0, 0, 0, tk_4, 547, 545, 546)
abbrev mr_5 : mR := (⟨"CodeExchange$Entries", "preferredOf", "(I)I"⟩, prog_2_method_6_code, 4, (some .int), 0, 2, 0, 0, 0, tk_5, 658, 656, 657)
abbrev mr_6 : mR := (⟨"CodeExchange$Entries", "writeTo", "(LCodeExchange$Row;)V"⟩, prog_2_method_7_code, 3, none, 0, 2, 0, 0, 0, tk_6, 1179, 1177, 1178)
abbrev mr_7 : mR := (⟨"CodeExchange$Entries", "readFrom", "(LCodeExchange$Row;II)I"⟩, prog_2_method_8_code, 12, (some .int), 0, 4, 0, 0, 0, tk_7, 1204, 1202, 1203)
abbrev mr_8 : mR := (⟨"CodeExchange$Forms", "textOf", "(II)J"⟩, prog_3_method_2_code, 6, (some .long), 1, 2, 1, 0, 0, tk_8, 736, 735, 0)
abbrev mr_9 : mR := (⟨"CodeExchange$Forms", "unitText", "(II)I"⟩, prog_3_method_3_code, 2, (some .int), 1, 2, 1, 0, 0, tk_9, 747, 746, 0)
abbrev mr_10 : mR := (⟨"CodeExchange$Forms", "fewText", "(I)J"⟩, prog_3_method_4_code, 6, (some .long), 1, 1, 1, 0, 0, tk_10, 739, 738, 0)
abbrev mr_11 : mR := (⟨"CodeExchange$Forms", "findUnits", "(Z[IIILCodeExchange$Found;)V"⟩, prog_3_method_5_code, 6, none, 1, 5, 1, 0, 0, tk_11, 826, 825, 0)
abbrev mr_12 : mR := (⟨"CodeExchange$Forms", "findLowHalf", "(Z[IIILCodeExchange$Found;)V"⟩, prog_3_method_6_code, 9, none, 1, 5, 1, 0, 0, tk_12, 844, 843, 0)
abbrev mr_13 : mR := (⟨"CodeExchange$Forms", "unitAt", "(Z[II)I"⟩, prog_3_method_7_code, 3, (some .int), 1, 3, 1, 0, 0, tk_13, 838, 837, 0)
abbrev mr_14 : mR := (⟨"CodeExchange$Forms", "findFew", "([IIILCodeExchange$Found;)V"⟩, prog_3_method_8_code, 9, none, 1, 4, 1, 0, 0, tk_14, 856, 855, 0)
abbrev mr_15 : mR := (⟨"CodeExchange$Forms", "fewLength", "(I)I"⟩, prog_3_method_9_code, 1, (some .int), 1, 1, 1, 0, 0, tk_15, 859, 858, 0)
abbrev mr_16 : mR := (⟨"CodeExchange$Forms", "holdsPoint", "(III)Z"⟩, prog_3_method_10_code, 4, (some .boolean), 1, 3, 1, 0, 0, tk_16, 863, 862, 0)
abbrev mr_17 : mR := (⟨"CodeExchange$Found", "<init>", "()V"⟩, prog_4_method_1_code, 1, none, 2, 1, 2, 0, 0, tk_17, 333, 332, 0)
abbrev mr_18 : mR := (⟨"CodeExchange$Found", "setNone", "()V"⟩, prog_4_method_2_code, 1, none, 2, 1, 0, 0, 0, tk_18, 823, 821, 822)
abbrev mr_19 : mR := (⟨"CodeExchange$Found", "setPart", "()V"⟩, prog_4_method_3_code, 1, none, 2, 1, 0, 0, 0, tk_19, 835, 833, 834)
abbrev mr_20 : mR := (⟨"CodeExchange$Found", "setWhole", "(II)V"⟩, prog_4_method_4_code, 3, none, 2, 3, 0, 0, 0, tk_20, 852, 850, 851)
abbrev mr_21 : mR := (⟨"CodeExchange$Found", "setShift", "(IZ)V"⟩, prog_4_method_5_code, 3, none, 2, 3, 0, 0, 0, tk_21, 881, 879, 880)
abbrev mr_22 : mR := (⟨"CodeExchange$Machine", "<init>", "(LCodeExchange$Rules;LCodeExchange$Page;)V"⟩, prog_5_method_1_code, 3, none, 3, 3, 2, 11, 18457, tk_22, 416, 415, 0)
abbrev mr_23 : mR := (⟨"CodeExchange$Machine", "start", "(LCodeExchange$Page;ZI)V"⟩, prog_5_method_2_code, 4, none, 3, 4, 0, 0, 0, tk_23, 1037, 1035, 1036)
abbrev mr_24 : mR := (⟨"CodeExchange$Machine", "takeFirst", "()I"⟩, prog_5_method_3_code, 2, (some .int), 3, 1, 0, 0, 0, tk_24, 1104, 1102, 1103)
abbrev mr_25 : mR := (⟨"CodeExchange$Machine", "pour", "(LCodeExchange$Row;)V"⟩, prog_5_method_4_code, 3, none, 3, 2, 0, 0, 0, tk_25, 1066, 1065, 44)
abbrev mr_26 : mR := (⟨"CodeExchange$Machine", "stopAt", "(II)I"⟩, prog_5_method_5_code, 3, (some .int), 3, 3, 0, 0, 0, tk_26, 1062, 1061, 43)
abbrev mr_27 : mR := (⟨"CodeExchange$Machine", "acceptByte", "(I)I"⟩, prog_5_method_6_code, 2, (some .int), 3, 2, 0, 0, 0, tk_27, 1072, 1070, 1071)
abbrev mr_28 : mR := (⟨"CodeExchange$Machine", "endBytes", "()I"⟩, prog_5_method_7_code, 2, (some .int), 3, 1, 0, 0, 0, tk_28, 1096, 1094, 1095)
abbrev mr_29 : mR := (⟨"CodeExchange$Machine", "readKept", "(Z)I"⟩, prog_5_method_8_code, 3, (some .int), 3, 2, 0, 0, 0, tk_29, 1076, 1075, 45)
abbrev mr_30 : mR := (⟨"CodeExchange$Machine", "acceptUnit", "(I)I"⟩, prog_5_method_9_code, 2, (some .int), 3, 2, 0, 0, 0, tk_30, 1051, 1049, 1050)
abbrev mr_31 : mR := (⟨"CodeExchange$Machine", "endUnits", "()I"⟩, prog_5_method_10_code, 1, (some .int), 3, 1, 0, 0, 0, tk_31, 1091, 1089, 1090)
abbrev mr_32 : mR := (⟨"CodeExchange$Machine", "writeOut", "(III)I"⟩, prog_5_method_11_code, 4, (some .int), 3, 4, 0, 0, 0, tk_32, 1057, 1056, 42)
abbrev mr_33 : mR := (⟨"CodeExchange$Page", "<init>", "(I)V"⟩, prog_6_method_1_code, 3, none, 4, 2, 2, 19, 1853, tk_33, 194, 193, 0)
abbrev mr_34 : mR := (⟨"CodeExchange$Page", "isGood", "([I)Z"⟩, prog_6_method_2_code, 2, (some .boolean), 4, 2, 0, 0, 0, tk_34, 619, 617, 618)
abbrev mr_35 : mR := (⟨"CodeExchange$Page", "note", "([IIII)Z"⟩, prog_6_method_3_code, 4, (some .boolean), 4, 4, 1, 0, 0, tk_35, 649, 648, 0)
abbrev mr_36 : mR := (⟨"CodeExchange$Page", "clashes", "([I)Z"⟩, prog_6_method_4_code, 5, (some .boolean), 4, 2, 0, 0, 0, tk_36, 623, 622, 5)
abbrev mr_37 : mR := (⟨"CodeExchange$Page", "numberOf", "(I)I"⟩, prog_6_method_5_code, 2, (some .int), 4, 2, 0, 0, 0, tk_37, 646, 645, 10)
abbrev mr_38 : mR := (⟨"CodeExchange$Page", "stateOf", "(I)I"⟩, prog_6_method_6_code, 2, (some .int), 4, 2, 0, 0, 0, tk_38, 631, 630, 7)
abbrev mr_39 : mR := (⟨"CodeExchange$Page", "textOf", "(I)I"⟩, prog_6_method_7_code, 2, (some .int), 4, 2, 0, 0, 0, tk_39, 642, 641, 9)
abbrev mr_40 : mR := (⟨"CodeExchange$Page", "lengthOf", "(I)I"⟩, prog_6_method_8_code, 2, (some .int), 4, 2, 0, 0, 0, tk_40, 635, 634, 8)
abbrev mr_41 : mR := (⟨"CodeExchange$Page", "clash", "(II)Z"⟩, prog_6_method_9_code, 4, (some .boolean), 4, 3, 0, 0, 0, tk_41, 627, 626, 6)
abbrev mr_42 : mR := (⟨"CodeExchange$Page", "isUnsure", "([I)Z"⟩, prog_6_method_10_code, 4, (some .boolean), 4, 2, 0, 0, 0, tk_42, 653, 652, 11)
abbrev mr_43 : mR := (⟨"CodeExchange$Page", "isStuck", "([I)Z"⟩, prog_6_method_11_code, 4, (some .boolean), 4, 2, 0, 0, 0, tk_43, 662, 661, 12)
abbrev mr_44 : mR := (⟨"CodeExchange$Page", "isCutOff", "([I)Z"⟩, prog_6_method_12_code, 5, (some .boolean), 4, 2, 0, 0, 0, tk_44, 674, 673, 13)
abbrev mr_45 : mR := (⟨"CodeExchange$Page", "settle", "()V"⟩, prog_6_method_13_code, 3, none, 4, 1, 0, 0, 0, tk_45, 682, 680, 681)
abbrev mr_46 : mR := (⟨"CodeExchange$Page", "chain", "(III)V"⟩, prog_6_method_14_code, 5, none, 4, 4, 0, 0, 0, tk_46, 717, 716, 18)
abbrev mr_47 : mR := (⟨"CodeExchange$Page", "sortIn", "(I)V"⟩, prog_6_method_15_code, 3, none, 4, 2, 0, 0, 0, tk_47, 721, 720, 19)
abbrev mr_48 : mR := (⟨"CodeExchange$Page", "isReached", "(I)Z"⟩, prog_6_method_16_code, 2, (some .boolean), 4, 2, 0, 0, 0, tk_48, 1171, 1169, 1170)
abbrev mr_49 : mR := (⟨"CodeExchange$Page", "placeFrom", "(I)I"⟩, prog_6_method_17_code, 5, (some .int), 4, 2, 0, 0, 0, tk_49, 757, 756, 21)
abbrev mr_50 : mR := (⟨"CodeExchange$Page", "slotOf", "(I)I"⟩, prog_6_method_18_code, 4, (some .int), 4, 2, 0, 0, 0, tk_50, 753, 751, 752)
abbrev mr_51 : mR := (⟨"CodeExchange$Page", "textAt", "(I)J"⟩, prog_6_method_19_code, 2, (some .long), 4, 2, 0, 0, 0, tk_51, 761, 759, 760)
abbrev mr_52 : mR := (⟨"CodeExchange$Page", "stateAt", "(I)I"⟩, prog_6_method_20_code, 2, (some .int), 4, 2, 0, 0, 0, tk_52, 936, 934, 935)
abbrev mr_53 : mR := (⟨"CodeExchange$Page", "pointFrom", "(I)I"⟩, prog_6_method_21_code, 3, (some .int), 4, 2, 0, 0, 0, tk_53, 1128, 1126, 1127)
abbrev mr_54 : mR := (⟨"CodeExchange$Page", "pointsWithin", "(II)I"⟩, prog_6_method_22_code, 4, (some .int), 4, 3, 0, 0, 0, tk_54, 1116, 1114, 1115)
abbrev mr_55 : mR := (⟨"CodeExchange$Page", "find", "(IZ[IIILCodeExchange$Found;)V"⟩, prog_6_method_23_code, 7, none, 4, 7, 0, 0, 0, tk_55, 819, 817, 818)
abbrev mr_56 : mR := (⟨"CodeExchange$Page", "findItem", "(IZ[IIILCodeExchange$Found;)V"⟩, prog_6_method_24_code, 11, none, 4, 7, 0, 0, 0, tk_56, 868, 867, 24)
abbrev mr_57 : mR := (⟨"CodeExchange$Page", "tryEntry", "(I[IIILCodeExchange$Found;)V"⟩, prog_6_method_25_code, 8, none, 4, 6, 0, 0, 0, tk_57, 872, 871, 25)
abbrev mr_58 : mR := (⟨"CodeExchange$Reader", "<init>", "(LCodeExchange$Rules;LCodeExchange$Page;)V"⟩, prog_7_method_1_code, 3, none, 5, 3, 2, 1, 5, tk_58, 327, 326, 0)
abbrev mr_59 : mR := (⟨"CodeExchange$Reader", "open", "(LCodeExchange$Page;I)V"⟩, prog_7_method_2_code, 3, none, 5, 3, 0, 0, 0, tk_59, 811, 809, 810)
abbrev mr_60 : mR := (⟨"CodeExchange$Reader", "step", "([IIIZLCodeExchange$Row;)I"⟩, prog_7_method_3_code, 7, (some .int), 5, 6, 0, 0, 0, tk_60, 815, 813, 814)
abbrev mr_61 : mR := (⟨"CodeExchange$Reader", "passOver", "(ILCodeExchange$Row;)I"⟩, prog_7_method_4_code, 3, (some .int), 5, 3, 0, 0, 0, tk_61, 893, 892, 26)
abbrev mr_62 : mR := (⟨"CodeExchange$Routes", "<init>", "()V"⟩, prog_8_method_1_code, 1, none, 6, 1, 2, 4, 64, tk_62, 200, 199, 0)
abbrev mr_63 : mR := (⟨"CodeExchange$Routes", "slotOf", "(II)I"⟩, prog_8_method_2_code, 2, (some .int), 6, 2, 1, 0, 0, tk_63, 708, 707, 0)
abbrev mr_64 : mR := (⟨"CodeExchange$Routes", "plan", "(LCodeExchange$Shifts;)V"⟩, prog_8_method_3_code, 4, none, 6, 2, 0, 0, 0, tk_64, 686, 684, 685)
abbrev mr_65 : mR := (⟨"CodeExchange$Routes", "stateOf", "(I)I"⟩, prog_8_method_4_code, 1, (some .int), 6, 1, 1, 0, 0, tk_65, 696, 695, 0)
abbrev mr_66 : mR := (⟨"CodeExchange$Routes", "stepsBy", "(LCodeExchange$Shifts;II)I"⟩, prog_8_method_5_code, 4, (some .int), 6, 4, 0, 0, 0, tk_66, 700, 699, 15)
abbrev mr_67 : mR := (⟨"CodeExchange$Routes", "measure", "(LCodeExchange$Shifts;I)V"⟩, prog_8_method_6_code, 6, none, 6, 3, 0, 0, 0, tk_67, 690, 689, 14)
abbrev mr_68 : mR := (⟨"CodeExchange$Routes", "walk", "(LCodeExchange$Shifts;II)V"⟩, prog_8_method_7_code, 8, none, 6, 4, 0, 0, 0, tk_68, 705, 704, 16)
abbrev mr_69 : mR := (⟨"CodeExchange$Routes", "leastShift", "(LCodeExchange$Shifts;III)I"⟩, prog_8_method_8_code, 7, (some .int), 6, 5, 0, 0, 0, tk_69, 712, 711, 17)
abbrev mr_70 : mR := (⟨"CodeExchange$Row", "<init>", "(I)V"⟩, prog_9_method_1_code, 2, none, 7, 2, 2, 1, 6000, tk_70, 132, 131, 0)
abbrev mr_71 : mR := (⟨"CodeExchange$Row", "clear", "()V"⟩, prog_9_method_2_code, 1, none, 7, 1, 0, 0, 0, tk_71, 785, 783, 784)
abbrev mr_72 : mR := (⟨"CodeExchange$Row", "add", "(I)Z"⟩, prog_9_method_3_code, 2, (some .boolean), 7, 2, 0, 0, 0, tk_72, 769, 767, 768)
abbrev mr_73 : mR := (⟨"CodeExchange$Row", "addAll", "(LCodeExchange$Row;)Z"⟩, prog_9_method_4_code, 2, (some .boolean), 7, 2, 0, 0, 0, tk_73, 793, 791, 792)
abbrev mr_74 : mR := (⟨"CodeExchange$Row", "addNumber", "(II)V"⟩, prog_9_method_5_code, 4, none, 7, 3, 0, 0, 0, tk_74, 945, 943, 944)
abbrev mr_75 : mR := (⟨"CodeExchange$Row", "addPoint", "(I)V"⟩, prog_9_method_6_code, 2, none, 7, 2, 0, 0, 0, tk_75, 885, 883, 884)
abbrev mr_76 : mR := (⟨"CodeExchange$Row", "numberAt", "(II)I"⟩, prog_9_method_7_code, 3, (some .int), 7, 3, 0, 0, 0, tk_76, 1199, 1197, 1198)
abbrev mr_77 : mR := (⟨"CodeExchange$Row", "packed", "([III)I"⟩, prog_9_method_8_code, 5, (some .int), 7, 3, 1, 0, 0, tk_77, 875, 874, 0)
abbrev mr_78 : mR := (⟨"CodeExchange$Row", "pointAt", "(I)I"⟩, prog_9_method_9_code, 4, (some .int), 7, 2, 0, 0, 0, tk_78, 919, 917, 918)
abbrev mr_79 : mR := (⟨"CodeExchange$Row", "isSame", "(LCodeExchange$Row;)Z"⟩, prog_9_method_10_code, 3, (some .boolean), 7, 2, 0, 0, 0, tk_79, 1142, 1140, 1141)
abbrev mr_80 : mR := (⟨"CodeExchange$Rules", "<init>", "()V"⟩, prog_10_method_1_code, 1, none, 8, 1, 2, 4, 287, tk_80, 161, 160, 0)
abbrev mr_81 : mR := (⟨"CodeExchange$Rules", "slotOf", "(I)I"⟩, prog_10_method_2_code, 3, (some .int), 8, 2, 0, 0, 0, tk_81, 962, 961, 32)
abbrev mr_82 : mR := (⟨"CodeExchange$Rules", "replace", "(ILCodeExchange$Row;)I"⟩, prog_10_method_3_code, 5, (some .int), 8, 3, 0, 0, 0, tk_82, 999, 997, 998)
abbrev mr_83 : mR := (⟨"CodeExchange$Rules", "remove", "(I)V"⟩, prog_10_method_4_code, 2, none, 8, 2, 0, 0, 0, tk_83, 1003, 1002, 35)
abbrev mr_84 : mR := (⟨"CodeExchange$Rules", "stage", "(ILCodeExchange$Row;)V"⟩, prog_10_method_5_code, 4, none, 8, 3, 0, 0, 0, tk_84, 1012, 1011, 37)
abbrev mr_85 : mR := (⟨"CodeExchange$Rules", "copy", "(II)V"⟩, prog_10_method_6_code, 3, none, 8, 3, 0, 0, 0, tk_85, 1007, 1006, 36)
abbrev mr_86 : mR := (⟨"CodeExchange$Rules", "stagedFinding", "(I)I"⟩, prog_10_method_7_code, 5, (some .int), 8, 2, 0, 0, 0, tk_86, 1017, 1016, 38)
abbrev mr_87 : mR := (⟨"CodeExchange$Rules", "stands", "(II)Z"⟩, prog_10_method_8_code, 3, (some .boolean), 8, 3, 0, 0, 0, tk_87, 1022, 1021, 39)
abbrev mr_88 : mR := (⟨"CodeExchange$Rules", "wholeOf", "(I)I"⟩, prog_10_method_9_code, 6, (some .int), 8, 2, 0, 0, 0, tk_88, 1026, 1025, 40)
abbrev mr_89 : mR := (⟨"CodeExchange$Rules", "pushParts", "(ILCodeExchange$Row;)Z"⟩, prog_10_method_10_code, 6, (some .boolean), 8, 3, 0, 0, 0, tk_89, 958, 956, 957)
abbrev mr_90 : mR := (⟨"CodeExchange$Shifts", "<init>", "(I)V"⟩, prog_11_method_1_code, 3, none, 9, 2, 2, 4, 40, tk_90, 256, 255, 0)
abbrev mr_91 : mR := (⟨"CodeExchange$Shifts", "slotOf", "(II)I"⟩, prog_11_method_2_code, 4, (some .int), 9, 3, 0, 0, 0, tk_91, 598, 596, 597)
abbrev mr_92 : mR := (⟨"CodeExchange$Shifts", "add", "(IIIZ)V"⟩, prog_11_method_3_code, 5, none, 9, 5, 0, 0, 0, tk_92, 559, 557, 558)
abbrev mr_93 : mR := (⟨"CodeExchange$Shifts", "removeAt", "(I)V"⟩, prog_11_method_4_code, 3, none, 9, 2, 0, 0, 0, tk_93, 611, 609, 610)
abbrev mr_94 : mR := (⟨"CodeExchange$Shifts", "copyFrom", "(LCodeExchange$Shifts;)V"⟩, prog_11_method_5_code, 3, none, 9, 2, 0, 0, 0, tk_94, 555, 553, 554)
abbrev mr_95 : mR := (⟨"CodeExchange$Shifts", "reachedStates", "()I"⟩, prog_11_method_6_code, 4, (some .int), 9, 1, 0, 0, 0, tk_95, 666, 664, 665)
abbrev mr_96 : mR := (⟨"CodeExchange$Shifts", "homingStates", "()I"⟩, prog_11_method_7_code, 4, (some .int), 9, 1, 0, 0, 0, tk_96, 670, 668, 669)
abbrev mr_97 : mR := (⟨"CodeExchange$Shifts", "singleGoals", "(I)I"⟩, prog_11_method_8_code, 4, (some .int), 9, 2, 0, 0, 0, tk_97, 678, 676, 677)
abbrev mr_98 : mR := (⟨"CodeExchange$Shifts", "writeTo", "(LCodeExchange$Row;)V"⟩, prog_11_method_9_code, 3, none, 9, 2, 0, 0, 0, tk_98, 1185, 1183, 1184)
abbrev mr_99 : mR := (⟨"CodeExchange$Shifts", "readFrom", "(LCodeExchange$Row;II)I"⟩, prog_11_method_10_code, 11, (some .int), 9, 4, 0, 0, 0, tk_99, 1212, 1210, 1211)
abbrev mr_100 : mR := (⟨"CodeExchange$Writer", "<init>", "(LCodeExchange$Rules;LCodeExchange$Page;)V"⟩, prog_12_method_1_code, 3, none, 10, 3, 2, 4, 12004, tk_100, 387, 386, 0)
abbrev mr_101 : mR := (⟨"CodeExchange$Writer", "open", "(LCodeExchange$Page;II)V"⟩, prog_12_method_2_code, 4, none, 10, 4, 0, 0, 0, tk_101, 910, 908, 909)
abbrev mr_102 : mR := (⟨"CodeExchange$Writer", "write", "(II)Z"⟩, prog_12_method_3_code, 3, (some .boolean), 10, 3, 0, 0, 0, tk_102, 927, 925, 926)
abbrev mr_103 : mR := (⟨"CodeExchange$Writer", "finish", "()V"⟩, prog_12_method_4_code, 1, none, 10, 1, 0, 0, 0, tk_103, 970, 968, 969)
abbrev mr_104 : mR := (⟨"CodeExchange$Writer", "put", "(I)Z"⟩, prog_12_method_5_code, 5, (some .boolean), 10, 2, 0, 0, 0, tk_104, 931, 930, 29)
abbrev mr_105 : mR := (⟨"CodeExchange$Writer", "shiftTo", "(I)V"⟩, prog_12_method_6_code, 3, none, 10, 2, 0, 0, 0, tk_105, 940, 939, 30)
abbrev mr_106 : mR := (⟨"CodeExchange$Writer", "spell", "(I)Z"⟩, prog_12_method_7_code, 6, (some .boolean), 10, 2, 0, 0, 0, tk_106, 954, 953, 31)
abbrev mr_107 : mR := (⟨"CodeExchange", "<init>", "()V"⟩, prog_1_method_1_code, 4, none, 11, 1, 2, 94, 118085, tk_107, 122, 121, 0)
abbrev mr_108 : mR := (⟨"CodeExchange", "page", "(I)I"⟩, prog_1_method_2_code, 2, (some .int), 11, 2, 0, 20, 1863, tk_108, 523, 521, 522)
abbrev mr_109 : mR := (⟨"CodeExchange", "derive", "(I)I"⟩, prog_1_method_3_code, 4, (some .int), 11, 2, 0, 20, 1863, tk_109, 535, 533, 534)
abbrev mr_110 : mR := (⟨"CodeExchange", "entry", "(IIIII)I"⟩, prog_1_method_4_code, 11, (some .int), 11, 6, 0, 0, 0, tk_110, 563, 561, 562)
abbrev mr_111 : mR := (⟨"CodeExchange", "shift", "(IIIIZ)I"⟩, prog_1_method_5_code, 8, (some .int), 11, 6, 0, 0, 0, tk_111, 591, 589, 590)
abbrev mr_112 : mR := (⟨"CodeExchange", "drop", "(IIII)I"⟩, prog_1_method_6_code, 8, (some .int), 11, 5, 0, 0, 0, tk_112, 603, 601, 602)
abbrev mr_113 : mR := (⟨"CodeExchange", "close", "(I)I"⟩, prog_1_method_7_code, 3, (some .int), 11, 2, 0, 0, 0, tk_113, 615, 613, 614)
abbrev mr_114 : mR := (⟨"CodeExchange", "size", "(II)I"⟩, prog_1_method_8_code, 4, (some .int), 11, 3, 0, 0, 0, tk_114, 725, 723, 724)
abbrev mr_115 : mR := (⟨"CodeExchange", "code", "(II)J"⟩, prog_1_method_9_code, 6, (some .long), 11, 3, 0, 0, 0, tk_115, 729, 727, 728)
abbrev mr_116 : mR := (⟨"CodeExchange", "bytesIn", "(JI)I"⟩, prog_1_method_10_code, 5, (some .int), 11, 3, 0, 0, 0, tk_116, 765, 763, 764)
abbrev mr_117 : mR := (⟨"CodeExchange", "unitsIn", "(JI)I"⟩, prog_1_method_11_code, 5, (some .int), 11, 3, 0, 0, 0, tk_117, 773, 771, 772)
abbrev mr_118 : mR := (⟨"CodeExchange", "fill", "(I)I"⟩, prog_1_method_12_code, 2, (some .int), 11, 2, 0, 0, 0, tk_118, 778, 776, 777)
abbrev mr_119 : mR := (⟨"CodeExchange", "decode", "(II)I"⟩, prog_1_method_13_code, 4, (some .int), 11, 3, 0, 0, 0, tk_119, 800, 798, 799)
abbrev mr_120 : mR := (⟨"CodeExchange", "encode", "(II)I"⟩, prog_1_method_14_code, 4, (some .int), 11, 3, 0, 0, 0, tk_120, 903, 901, 902)
abbrev mr_121 : mR := (⟨"CodeExchange", "transcode", "(IIII)I"⟩, prog_1_method_15_code, 6, (some .int), 11, 5, 0, 0, 0, tk_121, 974, 972, 973)
abbrev mr_122 : mR := (⟨"CodeExchange", "result", "(I)I"⟩, prog_1_method_16_code, 2, (some .int), 11, 2, 0, 0, 0, tk_122, 983, 981, 982)
abbrev mr_123 : mR := (⟨"CodeExchange", "sign", "(II)I"⟩, prog_1_method_17_code, 4, (some .int), 11, 3, 0, 0, 0, tk_123, 987, 985, 986)
abbrev mr_124 : mR := (⟨"CodeExchange", "fallback", "(I)I"⟩, prog_1_method_18_code, 3, (some .int), 11, 2, 0, 0, 0, tk_124, 991, 989, 990)
abbrev mr_125 : mR := (⟨"CodeExchange", "begin", "(IIZI)I"⟩, prog_1_method_19_code, 6, (some .int), 11, 5, 0, 0, 0, tk_125, 1030, 1028, 1029)
abbrev mr_126 : mR := (⟨"CodeExchange", "feed", "(II)I"⟩, prog_1_method_20_code, 5, (some .int), 11, 3, 0, 0, 0, tk_126, 1043, 1041, 1042)
abbrev mr_127 : mR := (⟨"CodeExchange", "end", "(I)I"⟩, prog_1_method_21_code, 4, (some .int), 11, 2, 0, 0, 0, tk_127, 1087, 1085, 1086)
abbrev mr_128 : mR := (⟨"CodeExchange", "take", "(I)I"⟩, prog_1_method_22_code, 2, (some .int), 11, 2, 0, 0, 0, tk_128, 1100, 1098, 1099)
abbrev mr_129 : mR := (⟨"CodeExchange", "machine", "(II)I"⟩, prog_1_method_23_code, 4, (some .int), 11, 3, 0, 0, 0, tk_129, 1108, 1106, 1107)
abbrev mr_130 : mR := (⟨"CodeExchange", "coverage", "(III)I"⟩, prog_1_method_24_code, 5, (some .int), 11, 4, 0, 0, 0, tk_130, 1112, 1110, 1111)
abbrev mr_131 : mR := (⟨"CodeExchange", "differ", "(III)I"⟩, prog_1_method_25_code, 9, (some .int), 11, 4, 0, 0, 0, tk_131, 1123, 1121, 1122)
abbrev mr_132 : mR := (⟨"CodeExchange", "misread", "(II)I"⟩, prog_1_method_26_code, 9, (some .int), 11, 3, 0, 0, 0, tk_132, 1146, 1144, 1145)
abbrev mr_133 : mR := (⟨"CodeExchange", "faults", "(I)I"⟩, prog_1_method_27_code, 3, (some .int), 11, 2, 0, 0, 0, tk_133, 1151, 1149, 1150)
abbrev mr_134 : mR := (⟨"CodeExchange", "detect", "()I"⟩, prog_1_method_28_code, 5, (some .int), 11, 1, 0, 0, 0, tk_134, 1159, 1157, 1158)
abbrev mr_135 : mR := (⟨"CodeExchange", "lengths", "(II)I"⟩, prog_1_method_29_code, 7, (some .int), 11, 3, 0, 0, 0, tk_135, 1163, 1161, 1162)
abbrev mr_136 : mR := (⟨"CodeExchange", "send", "(I)I"⟩, prog_1_method_30_code, 3, (some .int), 11, 2, 0, 0, 0, tk_136, 1175, 1173, 1174)
abbrev mr_137 : mR := (⟨"CodeExchange", "receive", "()I"⟩, prog_1_method_31_code, 4, (some .int), 11, 1, 0, 20, 1863, tk_137, 1195, 1193, 1194)
abbrev mr_138 : mR := (⟨"CodeExchange", "told", "(I)I"⟩, prog_1_method_32_code, 2, (some .int), 11, 2, 0, 0, 0, tk_138, 1218, 1216, 1217)
abbrev mr_139 : mR := (⟨"CodeExchange", "answer", "(I)I"⟩, prog_1_method_33_code, 2, (some .int), 11, 2, 0, 0, 0, tk_139, 527, 526, 0)
abbrev mr_140 : mR := (⟨"CodeExchange", "isHalf", "(I)Z"⟩, prog_1_method_34_code, 1, (some .boolean), 11, 1, 1, 0, 0, tk_140, 580, 579, 0)
abbrev mr_141 : mR := (⟨"CodeExchange", "isHighHalf", "(I)Z"⟩, prog_1_method_35_code, 1, (some .boolean), 11, 1, 1, 0, 0, tk_141, 841, 840, 0)
abbrev mr_142 : mR := (⟨"CodeExchange", "isLowHalf", "(I)Z"⟩, prog_1_method_36_code, 1, (some .boolean), 11, 1, 1, 0, 0, tk_142, 829, 828, 0)
abbrev mr_143 : mR := (⟨"CodeExchange", "joined", "(II)I"⟩, prog_1_method_37_code, 2, (some .int), 11, 2, 1, 0, 0, tk_143, 847, 846, 0)
abbrev mr_144 : mR := (⟨"CodeExchange", "lowHalvesOf", "(I)I"⟩, prog_1_method_38_code, 1, (some .int), 11, 1, 1, 0, 0, tk_144, 966, 965, 0)
abbrev mr_145 : mR := (⟨"CodeExchange", "isPoint", "(I)Z"⟩, prog_1_method_39_code, 1, (some .boolean), 11, 1, 1, 0, 0, tk_145, 576, 575, 0)
abbrev mr_146 : mR := (⟨"CodeExchange", "isByte", "(I)Z"⟩, prog_1_method_40_code, 1, (some .boolean), 11, 1, 1, 0, 0, tk_146, 594, 593, 0)
abbrev mr_147 : mR := (⟨"CodeExchange", "isState", "(I)Z"⟩, prog_1_method_41_code, 1, (some .boolean), 11, 1, 1, 0, 0, tk_147, 573, 572, 0)
abbrev mr_148 : mR := (⟨"CodeExchange", "isText", "(III)Z"⟩, prog_1_method_42_code, 3, (some .boolean), 11, 3, 1, 0, 0, tk_148, 570, 569, 0)
abbrev mr_149 : mR := (⟨"CodeExchange", "isReadRule", "(I)Z"⟩, prog_1_method_43_code, 1, (some .boolean), 11, 1, 1, 0, 0, tk_149, 803, 802, 0)
abbrev mr_150 : mR := (⟨"CodeExchange", "isWriteRule", "(I)Z"⟩, prog_1_method_44_code, 1, (some .boolean), 11, 1, 1, 0, 0, tk_150, 906, 905, 0)
abbrev mr_151 : mR := (⟨"CodeExchange", "isMachine", "(I)Z"⟩, prog_1_method_45_code, 1, (some .boolean), 11, 1, 1, 0, 0, tk_151, 1033, 1032, 0)
abbrev mr_152 : mR := (⟨"CodeExchange", "isPage", "(I)Z"⟩, prog_1_method_46_code, 2, (some .boolean), 11, 2, 0, 0, 0, tk_152, 543, 542, 3)
abbrev mr_153 : mR := (⟨"CodeExchange", "addPage", "(LCodeExchange$Page;)I"⟩, prog_1_method_47_code, 3, (some .int), 11, 2, 0, 0, 0, tk_153, 531, 530, 1)
abbrev mr_154 : mR := (⟨"CodeExchange", "tableFinding", "(I)I"⟩, prog_1_method_48_code, 2, (some .int), 11, 2, 0, 0, 0, tk_154, 539, 538, 2)
abbrev mr_155 : mR := (⟨"CodeExchange", "openTableFinding", "(I)I"⟩, prog_1_method_49_code, 3, (some .int), 11, 2, 0, 0, 0, tk_155, 567, 566, 4)
abbrev mr_156 : mR := (⟨"CodeExchange", "closedFinding", "(I)I"⟩, prog_1_method_50_code, 2, (some .int), 11, 2, 0, 0, 0, tk_156, 733, 732, 20)
abbrev mr_157 : mR := (⟨"CodeExchange", "bothClosedFinding", "(II)I"⟩, prog_1_method_51_code, 3, (some .int), 11, 3, 0, 0, 0, tk_157, 978, 977, 33)
abbrev mr_158 : mR := (⟨"CodeExchange", "goingFinding", "(I)I"⟩, prog_1_method_52_code, 2, (some .int), 11, 2, 0, 0, 0, tk_158, 1047, 1046, 41)
abbrev mr_159 : mR := (⟨"CodeExchange", "emptied", "(LCodeExchange$Row;)I"⟩, prog_1_method_53_code, 2, (some .int), 11, 1, 1, 0, 0, tk_159, 781, 780, 0)
abbrev mr_160 : mR := (⟨"CodeExchange", "resultTo", "(LCodeExchange$Row;I)I"⟩, prog_1_method_54_code, 3, (some .int), 11, 3, 0, 0, 0, tk_160, 789, 788, 22)
abbrev mr_161 : mR := (⟨"CodeExchange", "keepWork", "(II)I"⟩, prog_1_method_55_code, 4, (some .int), 11, 3, 0, 0, 0, tk_161, 899, 898, 27)
abbrev mr_162 : mR := (⟨"CodeExchange", "readAll", "(LCodeExchange$Page;ILCodeExchange$Row;)I"⟩, prog_1_method_56_code, 6, (some .int), 11, 4, 0, 0, 0, tk_162, 807, 806, 23)
abbrev mr_163 : mR := (⟨"CodeExchange", "malformedBytes", "(LCodeExchange$Page;)I"⟩, prog_1_method_57_code, 2, (some .int), 11, 2, 0, 0, 0, tk_163, 1155, 1154, 49)
abbrev mr_164 : mR := (⟨"CodeExchange", "writeAll", "(LCodeExchange$Row;)I"⟩, prog_1_method_58_code, 4, (some .int), 11, 2, 0, 0, 0, tk_164, 915, 914, 28)
abbrev mr_165 : mR := (⟨"CodeExchange", "writtenLength", "(LCodeExchange$Page;I)I"⟩, prog_1_method_59_code, 6, (some .int), 11, 3, 0, 0, 0, tk_165, 1167, 1166, 50)
abbrev mr_166 : mR := (⟨"CodeExchange", "writtenApart", "(LCodeExchange$Page;LCodeExchange$Page;I)Z"⟩, prog_1_method_60_code, 6, (some .boolean), 11, 4, 0, 0, 0, tk_166, 1134, 1133, 47)
abbrev mr_167 : mR := (⟨"CodeExchange", "writeAlone", "(LCodeExchange$Page;ILCodeExchange$Row;)Z"⟩, prog_1_method_61_code, 4, (some .boolean), 11, 4, 0, 0, 0, tk_167, 1138, 1137, 48)
abbrev mr_168 : mR := (⟨"CodeExchange", "fedAnswer", "(LCodeExchange$Machine;I)I"⟩, prog_1_method_62_code, 3, (some .int), 11, 3, 0, 0, 0, tk_168, 1083, 1082, 46)
abbrev mr_169 : mR := (⟨"CodeExchange", "unitsAreParts", "()Z"⟩, prog_1_method_63_code, 3, (some .boolean), 11, 1, 0, 0, 0, tk_169, 995, 994, 34)
abbrev mr_170 : mR := (⟨"CodeExchange", "checkSum", "(LCodeExchange$Row;I)I"⟩, prog_1_method_64_code, 4, (some .int), 11, 2, 1, 0, 0, tk_170, 1189, 1188, 0)
abbrev mr_171 : mR := (⟨"CodeExchangeModel", "<init>", "()V"⟩, prog_14_method_1_code, 1, none, 12, 1, 2, 80, 60000, tk_171, 1223, 1222, 0)
abbrev mr_172 : mR := (⟨"CodeExchangeModel", "tell", "(I)I"⟩, prog_14_method_2_code, 2, (some .int), 12, 2, 0, 0, 0, tk_172, 1444, 1443, 51)
abbrev mr_173 : mR := (⟨"CodeExchangeModel", "in", "(III)Z"⟩, prog_14_method_3_code, 3, (some .boolean), 12, 3, 1, 0, 0, tk_173, 1440, 1439, 0)
abbrev mr_174 : mR := (⟨"CodeExchangeModel", "isHigh", "(I)Z"⟩, prog_14_method_4_code, 1, (some .boolean), 12, 1, 1, 0, 0, tk_174, 1608, 1607, 0)
abbrev mr_175 : mR := (⟨"CodeExchangeModel", "isLow", "(I)Z"⟩, prog_14_method_5_code, 1, (some .boolean), 12, 1, 1, 0, 0, tk_175, 1605, 1604, 0)
abbrev mr_176 : mR := (⟨"CodeExchangeModel", "isPoint", "(I)Z"⟩, prog_14_method_6_code, 1, (some .boolean), 12, 1, 1, 0, 0, tk_176, 1474, 1473, 0)
abbrev mr_177 : mR := (⟨"CodeExchangeModel", "isPage", "(I)Z"⟩, prog_14_method_7_code, 2, (some .boolean), 12, 2, 0, 0, 0, tk_177, 1452, 1451, 52)
abbrev mr_178 : mR := (⟨"CodeExchangeModel", "page", "(I)I"⟩, prog_14_method_8_code, 2, (some .int), 12, 2, 0, 0, 0, tk_178, 1437, 1435, 1436)
abbrev mr_179 : mR := (⟨"CodeExchangeModel", "copyEntry", "(II)V"⟩, prog_14_method_9_code, 3, none, 12, 3, 0, 0, 0, tk_179, 1456, 1455, 53)
abbrev mr_180 : mR := (⟨"CodeExchangeModel", "copyShift", "(II)V"⟩, prog_14_method_10_code, 3, none, 12, 3, 0, 0, 0, tk_180, 1460, 1459, 54)
abbrev mr_181 : mR := (⟨"CodeExchangeModel", "derive", "(I)I"⟩, prog_14_method_11_code, 4, (some .int), 12, 2, 0, 0, 0, tk_181, 1448, 1446, 1447)
abbrev mr_182 : mR := (⟨"CodeExchangeModel", "fixed", "(I)I"⟩, prog_14_method_12_code, 2, (some .int), 12, 2, 0, 0, 0, tk_182, 1468, 1467, 55)
abbrev mr_183 : mR := (⟨"CodeExchangeModel", "isText", "(III)Z"⟩, prog_14_method_13_code, 3, (some .boolean), 12, 3, 1, 0, 0, tk_183, 1471, 1470, 0)
abbrev mr_184 : mR := (⟨"CodeExchangeModel", "entryOf", "(IIII)I"⟩, prog_14_method_14_code, 6, (some .int), 12, 5, 0, 0, 0, tk_184, 1481, 1480, 56)
abbrev mr_185 : mR := (⟨"CodeExchangeModel", "shiftOf", "(III)I"⟩, prog_14_method_15_code, 5, (some .int), 12, 4, 0, 0, 0, tk_185, 1489, 1488, 57)
abbrev mr_186 : mR := (⟨"CodeExchangeModel", "entry", "(IIIII)I"⟩, prog_14_method_16_code, 10, (some .int), 12, 6, 0, 0, 0, tk_186, 1464, 1462, 1463)
abbrev mr_187 : mR := (⟨"CodeExchangeModel", "shift", "(IIIIZ)I"⟩, prog_14_method_17_code, 8, (some .int), 12, 6, 0, 0, 0, tk_187, 1485, 1483, 1484)
abbrev mr_188 : mR := (⟨"CodeExchangeModel", "drop", "(IIII)I"⟩, prog_14_method_18_code, 7, (some .int), 12, 5, 0, 0, 0, tk_188, 1493, 1491, 1492)
abbrev mr_189 : mR := (⟨"CodeExchangeModel", "stateOf", "(II)I"⟩, prog_14_method_19_code, 3, (some .int), 12, 3, 0, 0, 0, tk_189, 1505, 1504, 59)
abbrev mr_190 : mR := (⟨"CodeExchangeModel", "manyOf", "(II)I"⟩, prog_14_method_20_code, 3, (some .int), 12, 3, 0, 0, 0, tk_190, 1513, 1512, 61)
abbrev mr_191 : mR := (⟨"CodeExchangeModel", "bytesOf", "(II)I"⟩, prog_14_method_21_code, 3, (some .int), 12, 3, 0, 0, 0, tk_191, 1517, 1516, 62)
abbrev mr_192 : mR := (⟨"CodeExchangeModel", "numberOf", "(II)I"⟩, prog_14_method_22_code, 3, (some .int), 12, 3, 0, 0, 0, tk_192, 1521, 1520, 63)
abbrev mr_193 : mR := (⟨"CodeExchangeModel", "begins", "(III)Z"⟩, prog_14_method_23_code, 6, (some .boolean), 12, 4, 0, 0, 0, tk_193, 1509, 1508, 60)
abbrev mr_194 : mR := (⟨"CodeExchangeModel", "reach", "(I)V"⟩, prog_14_method_24_code, 4, none, 12, 2, 0, 0, 0, tk_194, 1529, 1528, 65)
abbrev mr_195 : mR := (⟨"CodeExchangeModel", "comesHome", "(II)Z"⟩, prog_14_method_25_code, 6, (some .boolean), 12, 3, 0, 0, 0, tk_195, 1533, 1532, 66)
abbrev mr_196 : mR := (⟨"CodeExchangeModel", "breaks", "(III)Z"⟩, prog_14_method_26_code, 4, (some .boolean), 12, 4, 0, 0, 0, tk_196, 1525, 1524, 64)
abbrev mr_197 : mR := (⟨"CodeExchangeModel", "isGood", "(I)Z"⟩, prog_14_method_27_code, 8, (some .boolean), 12, 2, 0, 0, 0, tk_197, 1501, 1500, 58)
abbrev mr_198 : mR := (⟨"CodeExchangeModel", "close", "(I)I"⟩, prog_14_method_28_code, 4, (some .int), 12, 2, 0, 0, 0, tk_198, 1497, 1495, 1496)
abbrev mr_199 : mR := (⟨"CodeExchangeModel", "size", "(II)I"⟩, prog_14_method_29_code, 3, (some .int), 12, 3, 0, 0, 0, tk_199, 1537, 1535, 1536)
abbrev mr_200 : mR := (⟨"CodeExchangeModel", "text", "(IJ)V"⟩, prog_14_method_30_code, 5, none, 12, 3, 0, 0, 0, tk_200, 1550, 1549, 68)
abbrev mr_201 : mR := (⟨"CodeExchangeModel", "find", "(II)Z"⟩, prog_14_method_31_code, 4, (some .boolean), 12, 3, 0, 0, 0, tk_201, 1545, 1544, 67)
abbrev mr_202 : mR := (⟨"CodeExchangeModel", "first", "(I)I"⟩, prog_14_method_32_code, 1, (some .int), 12, 1, 1, 0, 0, tk_202, 1554, 1553, 0)
abbrev mr_203 : mR := (⟨"CodeExchangeModel", "second", "(I)I"⟩, prog_14_method_33_code, 1, (some .int), 12, 1, 1, 0, 0, tk_203, 1557, 1556, 0)
abbrev mr_204 : mR := (⟨"CodeExchangeModel", "turned", "(I)I"⟩, prog_14_method_34_code, 1, (some .int), 12, 1, 1, 0, 0, tk_204, 1561, 1560, 0)
abbrev mr_205 : mR := (⟨"CodeExchangeModel", "few", "(I)V"⟩, prog_14_method_35_code, 4, none, 12, 2, 0, 0, 0, tk_205, 1565, 1564, 69)
abbrev mr_206 : mR := (⟨"CodeExchangeModel", "code", "(II)J"⟩, prog_14_method_36_code, 6, (some .long), 12, 3, 0, 0, 0, tk_206, 1541, 1539, 1540)
abbrev mr_207 : mR := (⟨"CodeExchangeModel", "bytesIn", "(JI)I"⟩, prog_14_method_37_code, 5, (some .int), 12, 3, 0, 0, 0, tk_207, 1569, 1567, 1568)
abbrev mr_208 : mR := (⟨"CodeExchangeModel", "unitsIn", "(JI)I"⟩, prog_14_method_38_code, 5, (some .int), 12, 3, 0, 0, 0, tk_208, 1573, 1571, 1572)
abbrev mr_209 : mR := (⟨"CodeExchangeModel", "fill", "(I)I"⟩, prog_14_method_39_code, 3, (some .int), 12, 2, 0, 0, 0, tk_209, 1578, 1576, 1577)
abbrev mr_210 : mR := (⟨"CodeExchangeModel", "put", "(I)V"⟩, prog_14_method_40_code, 2, none, 12, 2, 0, 0, 0, tk_210, 1617, 1616, 76)
abbrev mr_211 : mR := (⟨"CodeExchangeModel", "putUnits", "(I)V"⟩, prog_14_method_41_code, 2, none, 12, 2, 0, 0, 0, tk_211, 1613, 1612, 75)
abbrev mr_212 : mR := (⟨"CodeExchangeModel", "look", "(I[III)I"⟩, prog_14_method_42_code, 10, (some .int), 12, 5, 0, 0, 0, tk_212, 1594, 1593, 72)
abbrev mr_213 : mR := (⟨"CodeExchangeModel", "lookUnits", "(Z[III)I"⟩, prog_14_method_43_code, 8, (some .int), 12, 5, 0, 0, 0, tk_213, 1602, 1601, 74)
abbrev mr_214 : mR := (⟨"CodeExchangeModel", "lookFew", "([III)I"⟩, prog_14_method_44_code, 11, (some .int), 12, 4, 0, 0, 0, tk_214, 1598, 1597, 73)
abbrev mr_215 : mR := (⟨"CodeExchangeModel", "readOne", "(II[IIIZ)I"⟩, prog_14_method_45_code, 8, (some .int), 12, 7, 0, 0, 0, tk_215, 1590, 1589, 71)
abbrev mr_216 : mR := (⟨"CodeExchangeModel", "readAll", "(II[I)I"⟩, prog_14_method_46_code, 6, (some .int), 12, 4, 0, 0, 0, tk_216, 1586, 1585, 70)
abbrev mr_217 : mR := (⟨"CodeExchangeModel", "leads", "(IIIIZ)Z"⟩, prog_14_method_47_code, 9, (some .boolean), 12, 6, 0, 0, 0, tk_217, 1645, 1644, 82)
abbrev mr_218 : mR := (⟨"CodeExchangeModel", "putByte", "(I)I"⟩, prog_14_method_48_code, 2, (some .int), 12, 2, 0, 0, 0, tk_218, 1649, 1648, 83)
abbrev mr_219 : mR := (⟨"CodeExchangeModel", "go", "(IIZ)I"⟩, prog_14_method_49_code, 6, (some .int), 12, 4, 0, 0, 0, tk_219, 1641, 1640, 81)
abbrev mr_220 : mR := (⟨"CodeExchangeModel", "putPoint", "(I)I"⟩, prog_14_method_50_code, 4, (some .int), 12, 2, 0, 0, 0, tk_220, 1637, 1636, 80)
abbrev mr_221 : mR := (⟨"CodeExchangeModel", "fallbackOf", "(I)I"⟩, prog_14_method_51_code, 3, (some .int), 12, 2, 0, 0, 0, tk_221, 1657, 1656, 85)
abbrev mr_222 : mR := (⟨"CodeExchangeModel", "writePoint", "(III)I"⟩, prog_14_method_52_code, 4, (some .int), 12, 4, 0, 0, 0, tk_222, 1633, 1632, 79)
abbrev mr_223 : mR := (⟨"CodeExchangeModel", "falls", "(II)Z"⟩, prog_14_method_53_code, 6, (some .boolean), 12, 3, 0, 0, 0, tk_223, 1653, 1652, 84)
abbrev mr_224 : mR := (⟨"CodeExchangeModel", "fall", "(II)I"⟩, prog_14_method_54_code, 6, (some .int), 12, 3, 0, 0, 0, tk_224, 1661, 1660, 86)
abbrev mr_225 : mR := (⟨"CodeExchangeModel", "writeLone", "(III)I"⟩, prog_14_method_55_code, 4, (some .int), 12, 4, 0, 0, 0, tk_225, 1665, 1664, 87)
abbrev mr_226 : mR := (⟨"CodeExchangeModel", "goHome", "(I)I"⟩, prog_14_method_56_code, 2, (some .int), 12, 2, 0, 0, 0, tk_226, 1670, 1669, 88)
abbrev mr_227 : mR := (⟨"CodeExchangeModel", "writeAll", "(II[IIII)I"⟩, prog_14_method_57_code, 11, (some .int), 12, 7, 0, 0, 0, tk_227, 1629, 1628, 78)
abbrev mr_228 : mR := (⟨"CodeExchangeModel", "resultOf", "([III)I"⟩, prog_14_method_58_code, 5, (some .int), 12, 4, 0, 0, 0, tk_228, 1621, 1620, 77)
abbrev mr_229 : mR := (⟨"CodeExchangeModel", "decode", "(II)I"⟩, prog_14_method_59_code, 4, (some .int), 12, 3, 0, 0, 0, tk_229, 1582, 1580, 1581)
abbrev mr_230 : mR := (⟨"CodeExchangeModel", "encode", "(II)I"⟩, prog_14_method_60_code, 4, (some .int), 12, 3, 0, 0, 0, tk_230, 1625, 1623, 1624)
abbrev mr_231 : mR := (⟨"CodeExchangeModel", "transcode", "(IIII)I"⟩, prog_14_method_61_code, 7, (some .int), 12, 5, 0, 0, 0, tk_231, 1674, 1672, 1673)
abbrev mr_232 : mR := (⟨"CodeExchangeModel", "result", "(I)I"⟩, prog_14_method_62_code, 2, (some .int), 12, 2, 0, 0, 0, tk_232, 1678, 1676, 1677)
abbrev mr_233 : mR := (⟨"CodeExchangeModel", "sign", "(II)I"⟩, prog_14_method_63_code, 4, (some .int), 12, 3, 0, 0, 0, tk_233, 1682, 1680, 1681)
abbrev mr_234 : mR := (⟨"CodeExchangeModel", "comesBack", "(I)Z"⟩, prog_14_method_64_code, 6, (some .boolean), 12, 2, 0, 0, 0, tk_234, 1690, 1689, 89)
abbrev mr_235 : mR := (⟨"CodeExchangeModel", "length", "(I[I)I"⟩, prog_14_method_65_code, 6, (some .int), 12, 3, 0, 0, 0, tk_235, 1694, 1693, 90)
abbrev mr_236 : mR := (⟨"CodeExchangeModel", "fallback", "(I)I"⟩, prog_14_method_66_code, 9, (some .int), 12, 2, 0, 0, 0, tk_236, 1686, 1684, 1685)
abbrev mr_237 : mR := (⟨"CodeExchangeModel", "begin", "(IIZI)I"⟩, prog_14_method_67_code, 5, (some .int), 12, 5, 0, 0, 0, tk_237, 1698, 1696, 1697)
abbrev mr_238 : mR := (⟨"CodeExchangeModel", "load", "(I)V"⟩, prog_14_method_68_code, 3, none, 12, 2, 0, 0, 0, tk_238, 1711, 1710, 92)
abbrev mr_239 : mR := (⟨"CodeExchangeModel", "store", "(III)I"⟩, prog_14_method_69_code, 5, (some .int), 12, 4, 0, 0, 0, tk_239, 1715, 1714, 93)
abbrev mr_240 : mR := (⟨"CodeExchangeModel", "reads", "(IZ)I"⟩, prog_14_method_70_code, 7, (some .int), 12, 3, 0, 0, 0, tk_240, 1719, 1718, 94)
abbrev mr_241 : mR := (⟨"CodeExchangeModel", "writes", "(II)I"⟩, prog_14_method_71_code, 7, (some .int), 12, 3, 0, 0, 0, tk_241, 1707, 1706, 91)
abbrev mr_242 : mR := (⟨"CodeExchangeModel", "feed", "(II)I"⟩, prog_14_method_72_code, 3, (some .int), 12, 3, 0, 0, 0, tk_242, 1702, 1700, 1701)
abbrev mr_243 : mR := (⟨"CodeExchangeModel", "end", "(I)I"⟩, prog_14_method_73_code, 3, (some .int), 12, 2, 0, 0, 0, tk_243, 1723, 1721, 1722)
abbrev mr_244 : mR := (⟨"CodeExchangeModel", "take", "(I)I"⟩, prog_14_method_74_code, 4, (some .int), 12, 2, 0, 0, 0, tk_244, 1727, 1725, 1726)
abbrev mr_245 : mR := (⟨"CodeExchangeModel", "machine", "(II)I"⟩, prog_14_method_75_code, 3, (some .int), 12, 3, 0, 0, 0, tk_245, 1731, 1729, 1730)
abbrev mr_246 : mR := (⟨"CodeExchangeModel", "coverage", "(III)I"⟩, prog_14_method_76_code, 6, (some .int), 12, 4, 0, 0, 0, tk_246, 1735, 1733, 1734)
abbrev mr_247 : mR := (⟨"CodeExchangeModel", "aloneOf", "(II)I"⟩, prog_14_method_77_code, 4, (some .int), 12, 3, 0, 0, 0, tk_247, 1743, 1742, 95)
abbrev mr_248 : mR := (⟨"CodeExchangeModel", "differ", "(III)I"⟩, prog_14_method_78_code, 8, (some .int), 12, 4, 0, 0, 0, tk_248, 1739, 1737, 1738)
abbrev mr_249 : mR := (⟨"CodeExchangeModel", "misread", "(II)I"⟩, prog_14_method_79_code, 7, (some .int), 12, 3, 0, 0, 0, tk_249, 1747, 1745, 1746)
abbrev mr_250 : mR := (⟨"CodeExchangeModel", "faults", "(I)I"⟩, prog_14_method_80_code, 3, (some .int), 12, 2, 0, 0, 0, tk_250, 1751, 1749, 1750)
abbrev mr_251 : mR := (⟨"CodeExchangeModel", "detect", "()I"⟩, prog_14_method_81_code, 5, (some .int), 12, 1, 0, 0, 0, tk_251, 1755, 1753, 1754)
abbrev mr_252 : mR := (⟨"CodeExchangeModel", "lengths", "(II)I"⟩, prog_14_method_82_code, 6, (some .int), 12, 3, 0, 0, 0, tk_252, 1759, 1757, 1758)
abbrev mr_253 : mR := (⟨"CodeExchangeModel", "sumOf", "([II)I"⟩, prog_14_method_83_code, 6, (some .int), 12, 3, 0, 0, 0, tk_253, 1768, 1767, 96)
abbrev mr_254 : mR := (⟨"CodeExchangeModel", "send", "(I)I"⟩, prog_14_method_84_code, 4, (some .int), 12, 2, 0, 0, 0, tk_254, 1764, 1762, 1763)
abbrev mr_255 : mR := (⟨"CodeExchangeModel", "next", "()I"⟩, prog_14_method_85_code, 2, (some .int), 12, 1, 0, 0, 0, tk_255, 1781, 1780, 98)
abbrev mr_256 : mR := (⟨"CodeExchangeModel", "takeIn", "(I)Z"⟩, prog_14_method_86_code, 5, (some .boolean), 12, 2, 0, 0, 0, tk_256, 1777, 1776, 97)
abbrev mr_257 : mR := (⟨"CodeExchangeModel", "takeEntry", "(I)Z"⟩, prog_14_method_87_code, 8, (some .boolean), 12, 2, 0, 0, 0, tk_257, 1785, 1784, 99)
abbrev mr_258 : mR := (⟨"CodeExchangeModel", "takeShift", "(I)Z"⟩, prog_14_method_88_code, 7, (some .boolean), 12, 2, 0, 0, 0, tk_258, 1789, 1788, 100)
abbrev mr_259 : mR := (⟨"CodeExchangeModel", "receive", "()I"⟩, prog_14_method_89_code, 1, (some .int), 12, 1, 0, 0, 0, tk_259, 1773, 1771, 1772)
abbrev mr_260 : mR := (⟨"CodeExchangeModel", "told", "(I)I"⟩, prog_14_method_90_code, 2, (some .int), 12, 2, 0, 0, 0, tk_260, 1793, 1791, 1792)
abbrev mr_261 : mR := (⟨"java/util/Arrays", "fill", "([II)V"⟩, prog_17_method_103_code, 4, none, 14, 2, 1, 0, 0, tk_261, 693, 692, 0)
abbrev mr_262 : mR := (⟨"CodeExchangeLaw", "law", "([I)Z"⟩, code, 4, (some .boolean), 13, 1, 1, 600000, 7302250, tk_262, 0, 0, 0)
def mT_0 : List mR := [mr_0, mr_1, mr_2, mr_3, mr_4, mr_5, mr_6, mr_7, mr_8, mr_9, mr_10, mr_11, mr_12, mr_13, mr_14, mr_15, mr_16, mr_17, mr_18, mr_19]
def mT_1 : List mR := [mr_20, mr_21, mr_22, mr_23, mr_24, mr_25, mr_26, mr_27, mr_28, mr_29, mr_30, mr_31, mr_32, mr_33, mr_34, mr_35, mr_36, mr_37, mr_38, mr_39]
def mT_2 : List mR := [mr_40, mr_41, mr_42, mr_43, mr_44, mr_45, mr_46, mr_47, mr_48, mr_49, mr_50, mr_51, mr_52, mr_53, mr_54, mr_55, mr_56, mr_57, mr_58, mr_59]
def mT_3 : List mR := [mr_60, mr_61, mr_62, mr_63, mr_64, mr_65, mr_66, mr_67, mr_68, mr_69, mr_70, mr_71, mr_72, mr_73, mr_74, mr_75, mr_76, mr_77, mr_78, mr_79]
def mT_4 : List mR := [mr_80, mr_81, mr_82, mr_83, mr_84, mr_85, mr_86, mr_87, mr_88, mr_89, mr_90, mr_91, mr_92, mr_93, mr_94, mr_95, mr_96, mr_97, mr_98, mr_99]
def mT_5 : List mR := [mr_100, mr_101, mr_102, mr_103, mr_104, mr_105, mr_106, mr_107, mr_108, mr_109, mr_110, mr_111, mr_112, mr_113, mr_114, mr_115, mr_116, mr_117, mr_118, mr_119]
def mT_6 : List mR := [mr_120, mr_121, mr_122, mr_123, mr_124, mr_125, mr_126, mr_127, mr_128, mr_129, mr_130, mr_131, mr_132, mr_133, mr_134, mr_135, mr_136, mr_137, mr_138, mr_139]
def mT_7 : List mR := [mr_140, mr_141, mr_142, mr_143, mr_144, mr_145, mr_146, mr_147, mr_148, mr_149, mr_150, mr_151, mr_152, mr_153, mr_154, mr_155, mr_156, mr_157, mr_158, mr_159]
def mT_8 : List mR := [mr_160, mr_161, mr_162, mr_163, mr_164, mr_165, mr_166, mr_167, mr_168, mr_169, mr_170, mr_171, mr_172, mr_173, mr_174, mr_175, mr_176, mr_177, mr_178, mr_179]
def mT_9 : List mR := [mr_180, mr_181, mr_182, mr_183, mr_184, mr_185, mr_186, mr_187, mr_188, mr_189, mr_190, mr_191, mr_192, mr_193, mr_194, mr_195, mr_196, mr_197, mr_198, mr_199]
def mT_10 : List mR := [mr_200, mr_201, mr_202, mr_203, mr_204, mr_205, mr_206, mr_207, mr_208, mr_209, mr_210, mr_211, mr_212, mr_213, mr_214, mr_215, mr_216, mr_217, mr_218, mr_219]
def mT_11 : List mR := [mr_220, mr_221, mr_222, mr_223, mr_224, mr_225, mr_226, mr_227, mr_228, mr_229, mr_230, mr_231, mr_232, mr_233, mr_234, mr_235, mr_236, mr_237, mr_238, mr_239]
def mT_12 : List mR := [mr_240, mr_241, mr_242, mr_243, mr_244, mr_245, mr_246, mr_247, mr_248, mr_249, mr_250, mr_251, mr_252, mr_253, mr_254, mr_255, mr_256, mr_257, mr_258, mr_259]
def mT_13 : List mR := [mr_260, mr_261, mr_262]
def mT : List mR := mT_0 ++ (mT_1 ++ (mT_2 ++ (mT_3 ++ (mT_4 ++ (mT_5 ++ (mT_6 ++ (mT_7 ++ (mT_8 ++ (mT_9 ++ (mT_10 ++ (mT_11 ++ (mT_12 ++ (mT_13)))))))))))))
end
section
/-! instructions into the mini machine's -/
def mTg (pc : Nat) (off : Int) : Option Nat := if 0 ≤ (pc : Int) + off then some ((pc : Int) + off).toNat else none
def mTgs (pc : Nat) : List Int → Option (List Nat)
  | [] => some []
  | o :: r => match mTg pc o, mTgs pc r with
    | some t, some ts => some (t :: ts)
    | _, _ => none
def mCc : Jvm.ClassFile.Cond → Nat
  | .eq => 0
  | .ne => 1
  | .lt => 2
  | .ge => 3
  | .gt => 4
  | .le => 5
def mfF (own idx : Nat) : Option (Nat × Nat × Nat) := (mx_F.find? fun e => e.1 == own && e.2.1 == idx).map fun e => e.2.2
def mfM (own idx : Nat) : Option Nat := (mx_M.find? fun e => e.1 == own && e.2.1 == idx).map fun e => e.2.2.1
def mfN (own idx : Nat) : Option Nat := (mx_N.find? fun e => e.1 == own && e.2.1 == idx).map fun e => e.2.2.1
def mfK (own idx : Nat) : Option Nat := (mx_K.find? fun e => e.1 == own && e.2.1 == idx).map fun e => e.2.2.1
def mfC (own idx : Nat) : Option Int := (mx_C.find? fun e => e.1 == own && e.2.1 == idx).map fun e => e.2.2.1
def mfL (own idx : Nat) : Option Int := (mx_L.find? fun e => e.1 == own && e.2.1 == idx).map fun e => e.2.2.1
def mfX (c f : Nat) : Bool := match mm_cl[c]? with
  | some q => (q.2.1 f).2.2.2
  | none => true
def mCallV (k : Nat) : Option mI := match mT[k]? with
  | some (_, _, _, _, cls, na, kd, mc, ms, _) => if kd = 0 ∧ 1 ≤ na then some (50, 0, k, na - 1, [cls, mc, ms]) else none
  | none => none
def mCallS (k : Nat) : Option mI := match mT[k]? with
  | some (_, _, _, _, cls, na, kd, mc, ms, _) => if kd = 1 then some (51, 0, k, na, [cls, mc, ms]) else none
  | none => none
def mCallI (k : Nat) : Option mI := match mT[k]? with
  | some (_, _, _, _, cls, na, kd, mc, ms, _) => if kd = 2 ∧ 1 ≤ na then some (52, 0, k, na - 1, [cls, mc, ms]) else none
  | none => none
/-- own: the class's number; ini: whether it's a constructor; bz: what it returns (0 int, 1 boolean, 2 long, 3 nothing) -/
def mTr (own pc : Nat) (ini : Bool) (bz : Nat) (i : Instr) : Option mI := match i with
  | .iconst n => some (0, n, 0, 0, [])
  | .bipush n => if (Int8.ofInt n).toInt32 = Int32.ofInt n then some (0, n, 0, 0, []) else none
  | .sipush n => if (Int16.ofInt n).toInt32 = Int32.ofInt n then some (0, n, 0, 0, []) else none
  | .ldc j => (mfC own j).map fun v => (0, v, 0, 0, [])
  | .ldc_w j => (mfC own j).map fun v => (0, v, 0, 0, [])
  | .lconst n => some (1, (n.val : Int), 0, 0, [])
  | .ldc2_w j => (mfL own j).map fun v => (1, v, 0, 0, [])
  | .iload j => some (2, 0, j, 0, [])
  | .iload_n j => some (2, 0, j.val, 0, [])
  | .aload j => some (3, 0, j, 0, [])
  | .aload_n j => some (3, 0, j.val, 0, [])
  | .lload j => some (4, 0, j, 0, [])
  | .lload_n j => some (4, 0, j.val, 0, [])
  | .istore j => some (5, 0, j, 0, [])
  | .istore_n j => some (5, 0, j.val, 0, [])
  | .astore j => some (6, 0, j, 0, [])
  | .astore_n j => some (6, 0, j.val, 0, [])
  | .lstore j => some (7, 0, j, 0, [])
  | .lstore_n j => some (7, 0, j.val, 0, [])
  | .iinc j n => some (8, n, j, 0, [])
  | .iadd => some (9, 0, 0, 0, [])
  | .isub => some (9, 0, 0, 1, [])
  | .imul => some (9, 0, 0, 2, [])
  | .iand => some (9, 0, 0, 3, [])
  | .ior => some (9, 0, 0, 4, [])
  | .ixor => some (9, 0, 0, 5, [])
  | .ishl => some (9, 0, 0, 6, [])
  | .ishr => some (9, 0, 0, 7, [])
  | .iushr => some (9, 0, 0, 8, [])
  | .idiv => some (10, 0, 0, 0, [])
  | .irem => some (11, 0, 0, 0, [])
  | .ladd => some (12, 0, 0, 0, [])
  | .lmul => some (12, 0, 0, 2, [])
  | .land => some (12, 0, 0, 3, [])
  | .lor => some (12, 0, 0, 4, [])
  | .lrem => some (13, 0, 0, 0, [])
  | .lshl => some (14, 0, 0, 0, [])
  | .lshr => some (14, 0, 0, 1, [])
  | .lushr => some (14, 0, 0, 2, [])
  | .i2l => some (15, 0, 0, 0, [])
  | .l2i => some (16, 0, 0, 0, [])
  | .dup => some (17, 0, 0, 0, [])
  | .pop => some (18, 0, 0, 0, [])
  | .dup2 => some (19, 0, 0, 0, [])
  | .ifCond c off => (mTg pc off).map fun t => (20, 0, t, mCc c, [])
  | .if_icmp c off => (mTg pc off).map fun t => (21, 0, t, mCc c, [])
  | .goto off => (mTg pc off).map fun t => (22, 0, t, 0, [])
  | .ifnonnull off => (mTg pc off).map fun t => (23, 0, t, 0, [])
  | .lcmp => some (24, 0, 0, 0, [])
  | .aconst_null => some (25, 0, 0, 0, [])
  | .tableswitch d lo hi offs => match mTg pc d, mTgs pc offs.toList with
    | some t, some ts => if hi + 1 = lo + ts.length then some (26, lo, t, 0, ts) else none
    | _, _ => none
  | .getfield j => (mfF own j).map fun e => (30, 0, e.1, e.2.1, [])
  | .putfield j => match mfF own j with
    | some e => if mfX e.1 e.2.1 = false ∨ (ini = true ∧ own = e.1) then some (31, 0, e.1, e.2.1, []) else none
    | none => none
  | .iaload => some (33, 0, 0, 0, [])
  | .baload => some (34, 0, 0, 0, [])
  | .aaload => some (35, 0, 0, 0, [])
  | .iastore => some (36, 0, 0, 0, [])
  | .bastore => some (37, 0, 0, 0, [])
  | .aastore => some (38, 0, 0, 0, [])
  | .arraylength => some (39, 0, 0, 0, [])
  | .newarray .int => some (40, 0, 0, 0, [])
  | .newarray .boolean => some (40, 0, 0, 1, [])
  | .anewarray j => match mfK own j with
    | some 4 => some (41, 0, 0, 2, [])
    | some 3 => some (41, 0, 0, 3, [])
    | _ => none
  | .new j => match mfK own j with
    | some ci => match mm_cl[ci]? with
      | some q => some (42, 0, ci, q.2.2, [])
      | none => none
    | none => none
  | .invokevirtual j => match mfM own j with
    | some k => mCallV k
    | none => none
  | .invokestatic j => match mfM own j with
    | some 1001 => some (54, 0, 0, 0, [])
    | some 1002 => some (55, 0, 0, 0, [])
    | some 1003 => some (56, 0, 0, 0, [])
    | some k => mCallS k
    | none => match mfN own j with
      | some k => mCallS k
      | none => none
  | .invokespecial j => match mfM own j with
    | some 1000 => some (53, 0, 0, 0, [])
    | some k => mCallI k
    | none => match mfN own j with
      | some k => mCallI k
      | none => none
  | .ireturn => if bz = 0 then some (70, 0, 0, 0, []) else if bz = 1 then some (70, 0, 1, 0, []) else none
  | .lreturn => if bz = 2 then some (71, 0, 0, 0, []) else none
  | .return_ => if bz = 3 then some (72, 0, 0, 0, []) else none
  | _ => none
def mBz : Option FieldType → Nat
  | some .int => 0
  | some .boolean => 1
  | some .long => 2
  | none => 3
  | _ => 4
/-- an instruction's length (a switch's: as it is) -/
def mLen (n : Nat) (i : Instr) : Nat := match i with
  | .bipush _ | .ldc _ | .iload _ | .aload _ | .lload _ | .istore _ | .astore _ | .lstore _ | .newarray _ => 2
  | .sipush _ | .ldc_w _ | .ldc2_w _ | .iinc _ _ | .ifCond _ _ | .if_icmp _ _ | .goto _ | .ifnonnull _ | .getfield _ | .putfield _ | .anewarray _ | .new _ | .invokevirtual _ | .invokestatic _ | .invokespecial _ => 3
  | .tableswitch _ _ _ _ => n
  | _ => 1
def mChI (own : Nat) (ini : Bool) (bz : Nat) (bytes : ByteArray) (e : Nat × Nat × mI) : Bool := match decode bytes e.1 with
  | .ok (i, n) => n == e.2.1 && n == mLen n i && decide (mTr own e.1 ini bz i = some e.2.2)
  | .error _ => false
/-- a word stands at a place of the tables, and keeps -/
def mIn (p : Nat) (w : Cond) : Bool := decide (lw_tbl[p]? = some w) && goodWord w
def mTb : List Cond := lw_tbl.filter goodWord
theorem mIn_ok {p : Nat} {w : Cond} (h : mIn p w = true) : w ∈ mTb := by
  simp only [mIn, Bool.and_eq_true, decide_eq_true_eq] at h
  exact List.mem_filter.mpr ⟨List.mem_of_getElem? h.1, h.2⟩
def mInit : Nat → Nat := fun c => match c with
  | 0 => 108 | 1 => 116 | 2 => 111 | 3 => 113 | 4 => 106 | 5 => 110 | 6 => 107 | 7 => 103 | 8 => 105 | 9 => 109 | 10 => 112 | 11 => 102 | 12 => 114 | 13 => 101 | _ => 115
/-- what the tables say of a method -/
def mChW (r : mR) : Bool := match r with
  | (y, bytes, n, ret, own, na, kd, _, _, _, p1, p2, p3) => mIn p1 (.code y bytes n ret) && mIn (mInit own) (.initialized y.cls) && decide (y.cls = mm_cn own) && plainName y.cls && decide (y.cls ≠ "java/lang/invoke/MethodHandle") && decide (y.cls ≠ "java/lang/invoke/VarHandle") &&
    decide ((parseMethodDescriptor y.desc).map (fun d => d.parameters.length) = some (if kd = 1 then na else na - 1)) && (if kd = 1 then mIn p2 (.static y) else mIn p2 (.instanceMethod y)) && (if kd = 0 then mIn p3 (.selects y.cls y y) else true) && (if kd = 2 then decide (y.name = "<init>") && decide (ret = none) else true) && (if kd = 1 then true else decide (1 ≤ na)) && decide (n ≤ 30) && decide (mBz ret < 4)
end
section
theorem mAll {f : Nat × Nat × mI → Bool} {a b : mK} (ha : a.all f = true) (hb : b.all f = true) : (a ++ b).all f = true := by rw [List.all_append, ha, hb]; rfl
theorem ck_0 : tk_0.all (mChI 0 true 3 prog_2_method_1_code) = true := by decide +kernel
theorem ck_1 : tk_1.all (mChI 0 false 0 prog_2_method_2_code) = true := by decide +kernel
theorem ck_2 : tk_2.all (mChI 0 false 3 prog_2_method_3_code) = true := by decide +kernel
theorem ck_3 : tk_3.all (mChI 0 false 3 prog_2_method_4_code) = true := by decide +kernel
theorem ck_4 : tk_4.all (mChI 0 false 3 prog_2_method_5_code) = true := by decide +kernel
theorem ck_5 : tk_5.all (mChI 0 false 0 prog_2_method_6_code) = true := by decide +kernel
theorem ck_6 : tk_6.all (mChI 0 false 3 prog_2_method_7_code) = true := by decide +kernel
theorem ck_7_0 : tk_7_0.all (mChI 0 false 0 prog_2_method_8_code) = true := by decide +kernel
theorem ck_7_1 : tk_7_1.all (mChI 0 false 0 prog_2_method_8_code) = true := by decide +kernel
theorem ck_7 : tk_7.all (mChI 0 false 0 prog_2_method_8_code) = true := mAll ck_7_0 (ck_7_1)
theorem ck_8 : tk_8.all (mChI 1 false 2 prog_3_method_2_code) = true := by decide +kernel
theorem ck_9 : tk_9.all (mChI 1 false 0 prog_3_method_3_code) = true := by decide +kernel
theorem ck_10 : tk_10.all (mChI 1 false 2 prog_3_method_4_code) = true := by decide +kernel
theorem ck_11 : tk_11.all (mChI 1 false 3 prog_3_method_5_code) = true := by decide +kernel
theorem ck_12 : tk_12.all (mChI 1 false 3 prog_3_method_6_code) = true := by decide +kernel
theorem ck_13 : tk_13.all (mChI 1 false 0 prog_3_method_7_code) = true := by decide +kernel
theorem ck_14 : tk_14.all (mChI 1 false 3 prog_3_method_8_code) = true := by decide +kernel
theorem ck_15 : tk_15.all (mChI 1 false 0 prog_3_method_9_code) = true := by decide +kernel
theorem ck_16 : tk_16.all (mChI 1 false 1 prog_3_method_10_code) = true := by decide +kernel
theorem ck_17 : tk_17.all (mChI 2 true 3 prog_4_method_1_code) = true := by decide +kernel
theorem ck_18 : tk_18.all (mChI 2 false 3 prog_4_method_2_code) = true := by decide +kernel
theorem ck_19 : tk_19.all (mChI 2 false 3 prog_4_method_3_code) = true := by decide +kernel
theorem ck_20 : tk_20.all (mChI 2 false 3 prog_4_method_4_code) = true := by decide +kernel
theorem ck_21 : tk_21.all (mChI 2 false 3 prog_4_method_5_code) = true := by decide +kernel
theorem ck_22 : tk_22.all (mChI 3 true 3 prog_5_method_1_code) = true := by decide +kernel
theorem ck_23 : tk_23.all (mChI 3 false 3 prog_5_method_2_code) = true := by decide +kernel
theorem ck_24 : tk_24.all (mChI 3 false 0 prog_5_method_3_code) = true := by decide +kernel
theorem ck_25 : tk_25.all (mChI 3 false 3 prog_5_method_4_code) = true := by decide +kernel
theorem ck_26 : tk_26.all (mChI 3 false 0 prog_5_method_5_code) = true := by decide +kernel
theorem ck_27 : tk_27.all (mChI 3 false 0 prog_5_method_6_code) = true := by decide +kernel
theorem ck_28 : tk_28.all (mChI 3 false 0 prog_5_method_7_code) = true := by decide +kernel
theorem ck_29 : tk_29.all (mChI 3 false 0 prog_5_method_8_code) = true := by decide +kernel
theorem ck_30 : tk_30.all (mChI 3 false 0 prog_5_method_9_code) = true := by decide +kernel
theorem ck_31 : tk_31.all (mChI 3 false 0 prog_5_method_10_code) = true := by decide +kernel
theorem ck_32 : tk_32.all (mChI 3 false 0 prog_5_method_11_code) = true := by decide +kernel
theorem ck_33 : tk_33.all (mChI 4 true 3 prog_6_method_1_code) = true := by decide +kernel
theorem ck_34 : tk_34.all (mChI 4 false 1 prog_6_method_2_code) = true := by decide +kernel
theorem ck_35 : tk_35.all (mChI 4 false 1 prog_6_method_3_code) = true := by decide +kernel
theorem ck_36 : tk_36.all (mChI 4 false 1 prog_6_method_4_code) = true := by decide +kernel
theorem ck_37 : tk_37.all (mChI 4 false 0 prog_6_method_5_code) = true := by decide +kernel
theorem ck_38 : tk_38.all (mChI 4 false 0 prog_6_method_6_code) = true := by decide +kernel
theorem ck_39 : tk_39.all (mChI 4 false 0 prog_6_method_7_code) = true := by decide +kernel
theorem ck_40 : tk_40.all (mChI 4 false 0 prog_6_method_8_code) = true := by decide +kernel
theorem ck_41 : tk_41.all (mChI 4 false 1 prog_6_method_9_code) = true := by decide +kernel
theorem ck_42 : tk_42.all (mChI 4 false 1 prog_6_method_10_code) = true := by decide +kernel
theorem ck_43 : tk_43.all (mChI 4 false 1 prog_6_method_11_code) = true := by decide +kernel
theorem ck_44 : tk_44.all (mChI 4 false 1 prog_6_method_12_code) = true := by decide +kernel
theorem ck_45 : tk_45.all (mChI 4 false 3 prog_6_method_13_code) = true := by decide +kernel
theorem ck_46 : tk_46.all (mChI 4 false 3 prog_6_method_14_code) = true := by decide +kernel
theorem ck_47 : tk_47.all (mChI 4 false 3 prog_6_method_15_code) = true := by decide +kernel
theorem ck_48 : tk_48.all (mChI 4 false 1 prog_6_method_16_code) = true := by decide +kernel
theorem ck_49 : tk_49.all (mChI 4 false 0 prog_6_method_17_code) = true := by decide +kernel
theorem ck_50 : tk_50.all (mChI 4 false 0 prog_6_method_18_code) = true := by decide +kernel
theorem ck_51 : tk_51.all (mChI 4 false 2 prog_6_method_19_code) = true := by decide +kernel
theorem ck_52 : tk_52.all (mChI 4 false 0 prog_6_method_20_code) = true := by decide +kernel
theorem ck_53 : tk_53.all (mChI 4 false 0 prog_6_method_21_code) = true := by decide +kernel
theorem ck_54 : tk_54.all (mChI 4 false 0 prog_6_method_22_code) = true := by decide +kernel
theorem ck_55 : tk_55.all (mChI 4 false 3 prog_6_method_23_code) = true := by decide +kernel
theorem ck_56 : tk_56.all (mChI 4 false 3 prog_6_method_24_code) = true := by decide +kernel
theorem ck_57 : tk_57.all (mChI 4 false 3 prog_6_method_25_code) = true := by decide +kernel
theorem ck_58 : tk_58.all (mChI 5 true 3 prog_7_method_1_code) = true := by decide +kernel
theorem ck_59 : tk_59.all (mChI 5 false 3 prog_7_method_2_code) = true := by decide +kernel
theorem ck_60 : tk_60.all (mChI 5 false 0 prog_7_method_3_code) = true := by decide +kernel
theorem ck_61 : tk_61.all (mChI 5 false 0 prog_7_method_4_code) = true := by decide +kernel
theorem ck_62 : tk_62.all (mChI 6 true 3 prog_8_method_1_code) = true := by decide +kernel
theorem ck_63 : tk_63.all (mChI 6 false 0 prog_8_method_2_code) = true := by decide +kernel
theorem ck_64 : tk_64.all (mChI 6 false 3 prog_8_method_3_code) = true := by decide +kernel
theorem ck_65 : tk_65.all (mChI 6 false 0 prog_8_method_4_code) = true := by decide +kernel
theorem ck_66 : tk_66.all (mChI 6 false 0 prog_8_method_5_code) = true := by decide +kernel
theorem ck_67 : tk_67.all (mChI 6 false 3 prog_8_method_6_code) = true := by decide +kernel
theorem ck_68 : tk_68.all (mChI 6 false 3 prog_8_method_7_code) = true := by decide +kernel
theorem ck_69 : tk_69.all (mChI 6 false 0 prog_8_method_8_code) = true := by decide +kernel
theorem ck_70 : tk_70.all (mChI 7 true 3 prog_9_method_1_code) = true := by decide +kernel
theorem ck_71 : tk_71.all (mChI 7 false 3 prog_9_method_2_code) = true := by decide +kernel
theorem ck_72 : tk_72.all (mChI 7 false 1 prog_9_method_3_code) = true := by decide +kernel
end
section
theorem ck_73 : tk_73.all (mChI 7 false 1 prog_9_method_4_code) = true := by decide +kernel
theorem ck_74 : tk_74.all (mChI 7 false 3 prog_9_method_5_code) = true := by decide +kernel
theorem ck_75 : tk_75.all (mChI 7 false 3 prog_9_method_6_code) = true := by decide +kernel
theorem ck_76 : tk_76.all (mChI 7 false 0 prog_9_method_7_code) = true := by decide +kernel
theorem ck_77 : tk_77.all (mChI 7 false 0 prog_9_method_8_code) = true := by decide +kernel
theorem ck_78 : tk_78.all (mChI 7 false 0 prog_9_method_9_code) = true := by decide +kernel
theorem ck_79 : tk_79.all (mChI 7 false 1 prog_9_method_10_code) = true := by decide +kernel
theorem ck_80 : tk_80.all (mChI 8 true 3 prog_10_method_1_code) = true := by decide +kernel
theorem ck_81 : tk_81.all (mChI 8 false 0 prog_10_method_2_code) = true := by decide +kernel
theorem ck_82 : tk_82.all (mChI 8 false 0 prog_10_method_3_code) = true := by decide +kernel
theorem ck_83 : tk_83.all (mChI 8 false 3 prog_10_method_4_code) = true := by decide +kernel
theorem ck_84 : tk_84.all (mChI 8 false 3 prog_10_method_5_code) = true := by decide +kernel
theorem ck_85 : tk_85.all (mChI 8 false 3 prog_10_method_6_code) = true := by decide +kernel
theorem ck_86 : tk_86.all (mChI 8 false 0 prog_10_method_7_code) = true := by decide +kernel
theorem ck_87 : tk_87.all (mChI 8 false 1 prog_10_method_8_code) = true := by decide +kernel
theorem ck_88 : tk_88.all (mChI 8 false 0 prog_10_method_9_code) = true := by decide +kernel
theorem ck_89 : tk_89.all (mChI 8 false 1 prog_10_method_10_code) = true := by decide +kernel
theorem ck_90 : tk_90.all (mChI 9 true 3 prog_11_method_1_code) = true := by decide +kernel
theorem ck_91 : tk_91.all (mChI 9 false 0 prog_11_method_2_code) = true := by decide +kernel
theorem ck_92 : tk_92.all (mChI 9 false 3 prog_11_method_3_code) = true := by decide +kernel
theorem ck_93 : tk_93.all (mChI 9 false 3 prog_11_method_4_code) = true := by decide +kernel
theorem ck_94 : tk_94.all (mChI 9 false 3 prog_11_method_5_code) = true := by decide +kernel
theorem ck_95 : tk_95.all (mChI 9 false 0 prog_11_method_6_code) = true := by decide +kernel
theorem ck_96 : tk_96.all (mChI 9 false 0 prog_11_method_7_code) = true := by decide +kernel
theorem ck_97 : tk_97.all (mChI 9 false 0 prog_11_method_8_code) = true := by decide +kernel
theorem ck_98 : tk_98.all (mChI 9 false 3 prog_11_method_9_code) = true := by decide +kernel
theorem ck_99 : tk_99.all (mChI 9 false 0 prog_11_method_10_code) = true := by decide +kernel
theorem ck_100 : tk_100.all (mChI 10 true 3 prog_12_method_1_code) = true := by decide +kernel
theorem ck_101 : tk_101.all (mChI 10 false 3 prog_12_method_2_code) = true := by decide +kernel
theorem ck_102 : tk_102.all (mChI 10 false 1 prog_12_method_3_code) = true := by decide +kernel
theorem ck_103 : tk_103.all (mChI 10 false 3 prog_12_method_4_code) = true := by decide +kernel
theorem ck_104 : tk_104.all (mChI 10 false 1 prog_12_method_5_code) = true := by decide +kernel
theorem ck_105 : tk_105.all (mChI 10 false 3 prog_12_method_6_code) = true := by decide +kernel
theorem ck_106 : tk_106.all (mChI 10 false 1 prog_12_method_7_code) = true := by decide +kernel
theorem ck_107 : tk_107.all (mChI 11 true 3 prog_1_method_1_code) = true := by decide +kernel
theorem ck_108 : tk_108.all (mChI 11 false 0 prog_1_method_2_code) = true := by decide +kernel
theorem ck_109 : tk_109.all (mChI 11 false 0 prog_1_method_3_code) = true := by decide +kernel
theorem ck_110 : tk_110.all (mChI 11 false 0 prog_1_method_4_code) = true := by decide +kernel
theorem ck_111 : tk_111.all (mChI 11 false 0 prog_1_method_5_code) = true := by decide +kernel
theorem ck_112 : tk_112.all (mChI 11 false 0 prog_1_method_6_code) = true := by decide +kernel
theorem ck_113 : tk_113.all (mChI 11 false 0 prog_1_method_7_code) = true := by decide +kernel
theorem ck_114 : tk_114.all (mChI 11 false 0 prog_1_method_8_code) = true := by decide +kernel
theorem ck_115 : tk_115.all (mChI 11 false 2 prog_1_method_9_code) = true := by decide +kernel
theorem ck_116 : tk_116.all (mChI 11 false 0 prog_1_method_10_code) = true := by decide +kernel
theorem ck_117 : tk_117.all (mChI 11 false 0 prog_1_method_11_code) = true := by decide +kernel
theorem ck_118 : tk_118.all (mChI 11 false 0 prog_1_method_12_code) = true := by decide +kernel
theorem ck_119 : tk_119.all (mChI 11 false 0 prog_1_method_13_code) = true := by decide +kernel
theorem ck_120 : tk_120.all (mChI 11 false 0 prog_1_method_14_code) = true := by decide +kernel
theorem ck_121 : tk_121.all (mChI 11 false 0 prog_1_method_15_code) = true := by decide +kernel
theorem ck_122 : tk_122.all (mChI 11 false 0 prog_1_method_16_code) = true := by decide +kernel
theorem ck_123 : tk_123.all (mChI 11 false 0 prog_1_method_17_code) = true := by decide +kernel
theorem ck_124 : tk_124.all (mChI 11 false 0 prog_1_method_18_code) = true := by decide +kernel
theorem ck_125 : tk_125.all (mChI 11 false 0 prog_1_method_19_code) = true := by decide +kernel
theorem ck_126 : tk_126.all (mChI 11 false 0 prog_1_method_20_code) = true := by decide +kernel
theorem ck_127 : tk_127.all (mChI 11 false 0 prog_1_method_21_code) = true := by decide +kernel
theorem ck_128 : tk_128.all (mChI 11 false 0 prog_1_method_22_code) = true := by decide +kernel
theorem ck_129 : tk_129.all (mChI 11 false 0 prog_1_method_23_code) = true := by decide +kernel
theorem ck_130 : tk_130.all (mChI 11 false 0 prog_1_method_24_code) = true := by decide +kernel
theorem ck_131 : tk_131.all (mChI 11 false 0 prog_1_method_25_code) = true := by decide +kernel
theorem ck_132 : tk_132.all (mChI 11 false 0 prog_1_method_26_code) = true := by decide +kernel
theorem ck_133 : tk_133.all (mChI 11 false 0 prog_1_method_27_code) = true := by decide +kernel
theorem ck_134 : tk_134.all (mChI 11 false 0 prog_1_method_28_code) = true := by decide +kernel
theorem ck_135 : tk_135.all (mChI 11 false 0 prog_1_method_29_code) = true := by decide +kernel
end
section
theorem ck_136 : tk_136.all (mChI 11 false 0 prog_1_method_30_code) = true := by decide +kernel
theorem ck_137 : tk_137.all (mChI 11 false 0 prog_1_method_31_code) = true := by decide +kernel
theorem ck_138 : tk_138.all (mChI 11 false 0 prog_1_method_32_code) = true := by decide +kernel
theorem ck_139 : tk_139.all (mChI 11 false 0 prog_1_method_33_code) = true := by decide +kernel
theorem ck_140 : tk_140.all (mChI 11 false 1 prog_1_method_34_code) = true := by decide +kernel
theorem ck_141 : tk_141.all (mChI 11 false 1 prog_1_method_35_code) = true := by decide +kernel
theorem ck_142 : tk_142.all (mChI 11 false 1 prog_1_method_36_code) = true := by decide +kernel
theorem ck_143 : tk_143.all (mChI 11 false 0 prog_1_method_37_code) = true := by decide +kernel
theorem ck_144 : tk_144.all (mChI 11 false 0 prog_1_method_38_code) = true := by decide +kernel
theorem ck_145 : tk_145.all (mChI 11 false 1 prog_1_method_39_code) = true := by decide +kernel
theorem ck_146 : tk_146.all (mChI 11 false 1 prog_1_method_40_code) = true := by decide +kernel
theorem ck_147 : tk_147.all (mChI 11 false 1 prog_1_method_41_code) = true := by decide +kernel
theorem ck_148 : tk_148.all (mChI 11 false 1 prog_1_method_42_code) = true := by decide +kernel
theorem ck_149 : tk_149.all (mChI 11 false 1 prog_1_method_43_code) = true := by decide +kernel
theorem ck_150 : tk_150.all (mChI 11 false 1 prog_1_method_44_code) = true := by decide +kernel
theorem ck_151 : tk_151.all (mChI 11 false 1 prog_1_method_45_code) = true := by decide +kernel
theorem ck_152 : tk_152.all (mChI 11 false 1 prog_1_method_46_code) = true := by decide +kernel
theorem ck_153 : tk_153.all (mChI 11 false 0 prog_1_method_47_code) = true := by decide +kernel
theorem ck_154 : tk_154.all (mChI 11 false 0 prog_1_method_48_code) = true := by decide +kernel
theorem ck_155 : tk_155.all (mChI 11 false 0 prog_1_method_49_code) = true := by decide +kernel
theorem ck_156 : tk_156.all (mChI 11 false 0 prog_1_method_50_code) = true := by decide +kernel
theorem ck_157 : tk_157.all (mChI 11 false 0 prog_1_method_51_code) = true := by decide +kernel
theorem ck_158 : tk_158.all (mChI 11 false 0 prog_1_method_52_code) = true := by decide +kernel
theorem ck_159 : tk_159.all (mChI 11 false 0 prog_1_method_53_code) = true := by decide +kernel
theorem ck_160 : tk_160.all (mChI 11 false 0 prog_1_method_54_code) = true := by decide +kernel
theorem ck_161 : tk_161.all (mChI 11 false 0 prog_1_method_55_code) = true := by decide +kernel
theorem ck_162 : tk_162.all (mChI 11 false 0 prog_1_method_56_code) = true := by decide +kernel
theorem ck_163 : tk_163.all (mChI 11 false 0 prog_1_method_57_code) = true := by decide +kernel
theorem ck_164 : tk_164.all (mChI 11 false 0 prog_1_method_58_code) = true := by decide +kernel
theorem ck_165 : tk_165.all (mChI 11 false 0 prog_1_method_59_code) = true := by decide +kernel
theorem ck_166 : tk_166.all (mChI 11 false 1 prog_1_method_60_code) = true := by decide +kernel
theorem ck_167 : tk_167.all (mChI 11 false 1 prog_1_method_61_code) = true := by decide +kernel
theorem ck_168 : tk_168.all (mChI 11 false 0 prog_1_method_62_code) = true := by decide +kernel
theorem ck_169 : tk_169.all (mChI 11 false 1 prog_1_method_63_code) = true := by decide +kernel
theorem ck_170 : tk_170.all (mChI 11 false 0 prog_1_method_64_code) = true := by decide +kernel
theorem ck_171_0 : tk_171_0.all (mChI 12 true 3 prog_14_method_1_code) = true := by decide +kernel
theorem ck_171_1 : tk_171_1.all (mChI 12 true 3 prog_14_method_1_code) = true := by decide +kernel
theorem ck_171 : tk_171.all (mChI 12 true 3 prog_14_method_1_code) = true := mAll ck_171_0 (ck_171_1)
theorem ck_172 : tk_172.all (mChI 12 false 0 prog_14_method_2_code) = true := by decide +kernel
theorem ck_173 : tk_173.all (mChI 12 false 1 prog_14_method_3_code) = true := by decide +kernel
theorem ck_174 : tk_174.all (mChI 12 false 1 prog_14_method_4_code) = true := by decide +kernel
theorem ck_175 : tk_175.all (mChI 12 false 1 prog_14_method_5_code) = true := by decide +kernel
theorem ck_176 : tk_176.all (mChI 12 false 1 prog_14_method_6_code) = true := by decide +kernel
theorem ck_177 : tk_177.all (mChI 12 false 1 prog_14_method_7_code) = true := by decide +kernel
theorem ck_178 : tk_178.all (mChI 12 false 0 prog_14_method_8_code) = true := by decide +kernel
theorem ck_179 : tk_179.all (mChI 12 false 3 prog_14_method_9_code) = true := by decide +kernel
theorem ck_180 : tk_180.all (mChI 12 false 3 prog_14_method_10_code) = true := by decide +kernel
theorem ck_181 : tk_181.all (mChI 12 false 0 prog_14_method_11_code) = true := by decide +kernel
theorem ck_182 : tk_182.all (mChI 12 false 0 prog_14_method_12_code) = true := by decide +kernel
theorem ck_183 : tk_183.all (mChI 12 false 1 prog_14_method_13_code) = true := by decide +kernel
theorem ck_184 : tk_184.all (mChI 12 false 0 prog_14_method_14_code) = true := by decide +kernel
theorem ck_185 : tk_185.all (mChI 12 false 0 prog_14_method_15_code) = true := by decide +kernel
theorem ck_186 : tk_186.all (mChI 12 false 0 prog_14_method_16_code) = true := by decide +kernel
theorem ck_187 : tk_187.all (mChI 12 false 0 prog_14_method_17_code) = true := by decide +kernel
theorem ck_188 : tk_188.all (mChI 12 false 0 prog_14_method_18_code) = true := by decide +kernel
theorem ck_189 : tk_189.all (mChI 12 false 0 prog_14_method_19_code) = true := by decide +kernel
theorem ck_190 : tk_190.all (mChI 12 false 0 prog_14_method_20_code) = true := by decide +kernel
theorem ck_191 : tk_191.all (mChI 12 false 0 prog_14_method_21_code) = true := by decide +kernel
theorem ck_192 : tk_192.all (mChI 12 false 0 prog_14_method_22_code) = true := by decide +kernel
theorem ck_193 : tk_193.all (mChI 12 false 1 prog_14_method_23_code) = true := by decide +kernel
theorem ck_194 : tk_194.all (mChI 12 false 3 prog_14_method_24_code) = true := by decide +kernel
theorem ck_195 : tk_195.all (mChI 12 false 1 prog_14_method_25_code) = true := by decide +kernel
theorem ck_196 : tk_196.all (mChI 12 false 1 prog_14_method_26_code) = true := by decide +kernel
theorem ck_197_0 : tk_197_0.all (mChI 12 false 1 prog_14_method_27_code) = true := by decide +kernel
theorem ck_197_1 : tk_197_1.all (mChI 12 false 1 prog_14_method_27_code) = true := by decide +kernel
theorem ck_197_2 : tk_197_2.all (mChI 12 false 1 prog_14_method_27_code) = true := by decide +kernel
theorem ck_197 : tk_197.all (mChI 12 false 1 prog_14_method_27_code) = true := mAll ck_197_0 (mAll ck_197_1 (ck_197_2))
theorem ck_198 : tk_198.all (mChI 12 false 0 prog_14_method_28_code) = true := by decide +kernel
theorem ck_199 : tk_199.all (mChI 12 false 0 prog_14_method_29_code) = true := by decide +kernel
theorem ck_200 : tk_200.all (mChI 12 false 3 prog_14_method_30_code) = true := by decide +kernel
theorem ck_201 : tk_201.all (mChI 12 false 1 prog_14_method_31_code) = true := by decide +kernel
theorem ck_202 : tk_202.all (mChI 12 false 0 prog_14_method_32_code) = true := by decide +kernel
theorem ck_203 : tk_203.all (mChI 12 false 0 prog_14_method_33_code) = true := by decide +kernel
theorem ck_204 : tk_204.all (mChI 12 false 0 prog_14_method_34_code) = true := by decide +kernel
theorem ck_205 : tk_205.all (mChI 12 false 3 prog_14_method_35_code) = true := by decide +kernel
theorem ck_206 : tk_206.all (mChI 12 false 2 prog_14_method_36_code) = true := by decide +kernel
end
section
theorem ck_207 : tk_207.all (mChI 12 false 0 prog_14_method_37_code) = true := by decide +kernel
theorem ck_208 : tk_208.all (mChI 12 false 0 prog_14_method_38_code) = true := by decide +kernel
theorem ck_209 : tk_209.all (mChI 12 false 0 prog_14_method_39_code) = true := by decide +kernel
theorem ck_210 : tk_210.all (mChI 12 false 3 prog_14_method_40_code) = true := by decide +kernel
theorem ck_211 : tk_211.all (mChI 12 false 3 prog_14_method_41_code) = true := by decide +kernel
theorem ck_212_0 : tk_212_0.all (mChI 12 false 0 prog_14_method_42_code) = true := by decide +kernel
theorem ck_212_1 : tk_212_1.all (mChI 12 false 0 prog_14_method_42_code) = true := by decide +kernel
theorem ck_212 : tk_212.all (mChI 12 false 0 prog_14_method_42_code) = true := mAll ck_212_0 (ck_212_1)
theorem ck_213_0 : tk_213_0.all (mChI 12 false 0 prog_14_method_43_code) = true := by decide +kernel
theorem ck_213_1 : tk_213_1.all (mChI 12 false 0 prog_14_method_43_code) = true := by decide +kernel
theorem ck_213 : tk_213.all (mChI 12 false 0 prog_14_method_43_code) = true := mAll ck_213_0 (ck_213_1)
theorem ck_214_0 : tk_214_0.all (mChI 12 false 0 prog_14_method_44_code) = true := by decide +kernel
theorem ck_214_1 : tk_214_1.all (mChI 12 false 0 prog_14_method_44_code) = true := by decide +kernel
theorem ck_214 : tk_214.all (mChI 12 false 0 prog_14_method_44_code) = true := mAll ck_214_0 (ck_214_1)
theorem ck_215 : tk_215.all (mChI 12 false 0 prog_14_method_45_code) = true := by decide +kernel
theorem ck_216 : tk_216.all (mChI 12 false 0 prog_14_method_46_code) = true := by decide +kernel
theorem ck_217 : tk_217.all (mChI 12 false 1 prog_14_method_47_code) = true := by decide +kernel
theorem ck_218 : tk_218.all (mChI 12 false 0 prog_14_method_48_code) = true := by decide +kernel
theorem ck_219 : tk_219.all (mChI 12 false 0 prog_14_method_49_code) = true := by decide +kernel
theorem ck_220 : tk_220.all (mChI 12 false 0 prog_14_method_50_code) = true := by decide +kernel
theorem ck_221 : tk_221.all (mChI 12 false 0 prog_14_method_51_code) = true := by decide +kernel
theorem ck_222 : tk_222.all (mChI 12 false 0 prog_14_method_52_code) = true := by decide +kernel
theorem ck_223 : tk_223.all (mChI 12 false 1 prog_14_method_53_code) = true := by decide +kernel
theorem ck_224 : tk_224.all (mChI 12 false 0 prog_14_method_54_code) = true := by decide +kernel
theorem ck_225 : tk_225.all (mChI 12 false 0 prog_14_method_55_code) = true := by decide +kernel
theorem ck_226 : tk_226.all (mChI 12 false 0 prog_14_method_56_code) = true := by decide +kernel
theorem ck_227 : tk_227.all (mChI 12 false 0 prog_14_method_57_code) = true := by decide +kernel
theorem ck_228 : tk_228.all (mChI 12 false 0 prog_14_method_58_code) = true := by decide +kernel
theorem ck_229 : tk_229.all (mChI 12 false 0 prog_14_method_59_code) = true := by decide +kernel
theorem ck_230 : tk_230.all (mChI 12 false 0 prog_14_method_60_code) = true := by decide +kernel
theorem ck_231 : tk_231.all (mChI 12 false 0 prog_14_method_61_code) = true := by decide +kernel
theorem ck_232 : tk_232.all (mChI 12 false 0 prog_14_method_62_code) = true := by decide +kernel
theorem ck_233 : tk_233.all (mChI 12 false 0 prog_14_method_63_code) = true := by decide +kernel
theorem ck_234 : tk_234.all (mChI 12 false 1 prog_14_method_64_code) = true := by decide +kernel
theorem ck_235 : tk_235.all (mChI 12 false 0 prog_14_method_65_code) = true := by decide +kernel
theorem ck_236_0 : tk_236_0.all (mChI 12 false 0 prog_14_method_66_code) = true := by decide +kernel
theorem ck_236_1 : tk_236_1.all (mChI 12 false 0 prog_14_method_66_code) = true := by decide +kernel
theorem ck_236_2 : tk_236_2.all (mChI 12 false 0 prog_14_method_66_code) = true := by decide +kernel
theorem ck_236_3 : tk_236_3.all (mChI 12 false 0 prog_14_method_66_code) = true := by decide +kernel
theorem ck_236 : tk_236.all (mChI 12 false 0 prog_14_method_66_code) = true := mAll ck_236_0 (mAll ck_236_1 (mAll ck_236_2 (ck_236_3)))
theorem ck_237 : tk_237.all (mChI 12 false 0 prog_14_method_67_code) = true := by decide +kernel
theorem ck_238 : tk_238.all (mChI 12 false 3 prog_14_method_68_code) = true := by decide +kernel
theorem ck_239 : tk_239.all (mChI 12 false 0 prog_14_method_69_code) = true := by decide +kernel
theorem ck_240 : tk_240.all (mChI 12 false 0 prog_14_method_70_code) = true := by decide +kernel
theorem ck_241_0 : tk_241_0.all (mChI 12 false 0 prog_14_method_71_code) = true := by decide +kernel
theorem ck_241_1 : tk_241_1.all (mChI 12 false 0 prog_14_method_71_code) = true := by decide +kernel
theorem ck_241 : tk_241.all (mChI 12 false 0 prog_14_method_71_code) = true := mAll ck_241_0 (ck_241_1)
end
section
theorem ck_242 : tk_242.all (mChI 12 false 0 prog_14_method_72_code) = true := by decide +kernel
theorem ck_243 : tk_243.all (mChI 12 false 0 prog_14_method_73_code) = true := by decide +kernel
theorem ck_244 : tk_244.all (mChI 12 false 0 prog_14_method_74_code) = true := by decide +kernel
theorem ck_245 : tk_245.all (mChI 12 false 0 prog_14_method_75_code) = true := by decide +kernel
theorem ck_246 : tk_246.all (mChI 12 false 0 prog_14_method_76_code) = true := by decide +kernel
theorem ck_247 : tk_247.all (mChI 12 false 0 prog_14_method_77_code) = true := by decide +kernel
theorem ck_248 : tk_248.all (mChI 12 false 0 prog_14_method_78_code) = true := by decide +kernel
theorem ck_249 : tk_249.all (mChI 12 false 0 prog_14_method_79_code) = true := by decide +kernel
theorem ck_250 : tk_250.all (mChI 12 false 0 prog_14_method_80_code) = true := by decide +kernel
theorem ck_251 : tk_251.all (mChI 12 false 0 prog_14_method_81_code) = true := by decide +kernel
theorem ck_252 : tk_252.all (mChI 12 false 0 prog_14_method_82_code) = true := by decide +kernel
theorem ck_253 : tk_253.all (mChI 12 false 0 prog_14_method_83_code) = true := by decide +kernel
theorem ck_254_0 : tk_254_0.all (mChI 12 false 0 prog_14_method_84_code) = true := by decide +kernel
theorem ck_254_1 : tk_254_1.all (mChI 12 false 0 prog_14_method_84_code) = true := by decide +kernel
theorem ck_254 : tk_254.all (mChI 12 false 0 prog_14_method_84_code) = true := mAll ck_254_0 (ck_254_1)
theorem ck_255 : tk_255.all (mChI 12 false 0 prog_14_method_85_code) = true := by decide +kernel
theorem ck_256 : tk_256.all (mChI 12 false 1 prog_14_method_86_code) = true := by decide +kernel
theorem ck_257_0 : tk_257_0.all (mChI 12 false 1 prog_14_method_87_code) = true := by decide +kernel
theorem ck_257_1 : tk_257_1.all (mChI 12 false 1 prog_14_method_87_code) = true := by decide +kernel
theorem ck_257 : tk_257.all (mChI 12 false 1 prog_14_method_87_code) = true := mAll ck_257_0 (ck_257_1)
theorem ck_258 : tk_258.all (mChI 12 false 1 prog_14_method_88_code) = true := by decide +kernel
theorem ck_259 : tk_259.all (mChI 12 false 0 prog_14_method_89_code) = true := by decide +kernel
theorem ck_260 : tk_260.all (mChI 12 false 0 prog_14_method_90_code) = true := by decide +kernel
theorem ck_261 : tk_261.all (mChI 14 false 3 prog_17_method_103_code) = true := by decide +kernel
theorem ck_262_0 : tk_262_0.all (mChI 13 false 1 code) = true := by decide +kernel
theorem ck_262_1 : tk_262_1.all (mChI 13 false 1 code) = true := by decide +kernel
theorem ck_262_2 : tk_262_2.all (mChI 13 false 1 code) = true := by decide +kernel
theorem ck_262_3 : tk_262_3.all (mChI 13 false 1 code) = true := by decide +kernel
theorem ck_262_4 : tk_262_4.all (mChI 13 false 1 code) = true := by decide +kernel
theorem ck_262_5 : tk_262_5.all (mChI 13 false 1 code) = true := by decide +kernel
theorem ck_262_6 : tk_262_6.all (mChI 13 false 1 code) = true := by decide +kernel
theorem ck_262_7 : tk_262_7.all (mChI 13 false 1 code) = true := by decide +kernel
theorem ck_262_8 : tk_262_8.all (mChI 13 false 1 code) = true := by decide +kernel
theorem ck_262_9 : tk_262_9.all (mChI 13 false 1 code) = true := by decide +kernel
theorem ck_262 : tk_262.all (mChI 13 false 1 code) = true := mAll ck_262_0 (mAll ck_262_1 (mAll ck_262_2 (mAll ck_262_3 (mAll ck_262_4 (mAll ck_262_5 (mAll ck_262_6 (mAll ck_262_7 (mAll ck_262_8 (ck_262_9)))))))))
end
section
/-! what the tables say: fields, links, constants, methods -/
def mwF (e : Nat × Nat × Nat × Nat × Nat) : Prop := ∃ q : vw_C, mm_cl[e.2.2.1]? = some q ∧ e.2.2.2.1 < q.2.2 ∧ (q.2.1 e.2.2.2.1).1 = mm_cn e.2.2.1 ∧ Cond.fieldLink (mm_cn e.1) e.2.1 (q.2.1 e.2.2.2.1).1 (q.2.1 e.2.2.2.1).2.1 (q.2.1 e.2.2.2.1).2.2.1 ∈ mTb
def mSpc : Nat → MethodName := fun k => match k with
  | 1000 => Lib.objectInit
  | 1001 => Lib.Math.max.name
  | 1002 => Lib.Math.min.name
  | _ => arraycopyName
def mNm (k : Nat) : MethodName := match mT[k]? with
  | some r => r.1
  | none => mSpc k
def mwM (e : Nat × Nat × Nat × Nat) : Prop := Cond.methodLink (mm_cn e.1) e.2.1 (mNm e.2.2.1) ∈ mTb ∧ (e.2.2.1 < 262 ∨ (1000 ≤ e.2.2.1 ∧ e.2.2.1 < 1004))
def mwN (e : Nat × Nat × Nat × Nat) : Prop := Cond.methodLinkNest (mm_cn e.1) e.2.1 (mNm e.2.2.1) "CodeExchange" ∈ lw_tbl ∧ e.2.2.1 < 262
def mwK (e : Nat × Nat × Nat × Nat) : Prop := Cond.classLink (mm_cn e.1) e.2.1 (mm_cn e.2.2.1) ∈ mTb
def mwC (e : Nat × Nat × Int × Nat) : Prop := Cond.constant (mm_cn e.1) e.2.1 (Int32.ofInt e.2.2.1) ∈ mTb
def mwL (e : Nat × Nat × Int × Nat) : Prop := Cond.constantLong (mm_cn e.1) e.2.1 (Int64.ofInt e.2.2.1) ∈ mTb
theorem ma_0 {w : Cond} (h : w ∈ k2_sels lw_privs) : w ∈ lw_tbl := List.mem_append_left _ h
theorem mb_0 {w : Cond} (h : w ∈ k2_sels lw_privs) (hg : goodWord w = true) : w ∈ mTb := List.mem_filter.mpr ⟨ma_0 h, hg⟩
theorem ma_1 {w : Cond} (h : w ∈ tables_1_1) : w ∈ lw_tbl := List.mem_append_right _ (List.mem_append_left _ h)
theorem mb_1 {w : Cond} (h : w ∈ tables_1_1) (hg : goodWord w = true) : w ∈ mTb := List.mem_filter.mpr ⟨ma_1 h, hg⟩
theorem ma_2 {w : Cond} (h : w ∈ tables_1_2) : w ∈ lw_tbl := List.mem_append_right _ (List.mem_append_right _ (List.mem_append_left _ h))
theorem mb_2 {w : Cond} (h : w ∈ tables_1_2) (hg : goodWord w = true) : w ∈ mTb := List.mem_filter.mpr ⟨ma_2 h, hg⟩
theorem ma_3 {w : Cond} (h : w ∈ tables_1_3) : w ∈ lw_tbl := List.mem_append_right _ (List.mem_append_right _ (List.mem_append_right _ (List.mem_append_left _ h)))
theorem mb_3 {w : Cond} (h : w ∈ tables_1_3) (hg : goodWord w = true) : w ∈ mTb := List.mem_filter.mpr ⟨ma_3 h, hg⟩
theorem ma_4 {w : Cond} (h : w ∈ tables_1_4) : w ∈ lw_tbl := List.mem_append_right _ (List.mem_append_right _ (List.mem_append_right _ (List.mem_append_right _ (List.mem_append_left _ h))))
theorem mb_4 {w : Cond} (h : w ∈ tables_1_4) (hg : goodWord w = true) : w ∈ mTb := List.mem_filter.mpr ⟨ma_4 h, hg⟩
theorem ma_5 {w : Cond} (h : w ∈ tables_1_5) : w ∈ lw_tbl := List.mem_append_right _ (List.mem_append_right _ (List.mem_append_right _ (List.mem_append_right _ (List.mem_append_right _ (List.mem_append_left _ h)))))
theorem mb_5 {w : Cond} (h : w ∈ tables_1_5) (hg : goodWord w = true) : w ∈ mTb := List.mem_filter.mpr ⟨ma_5 h, hg⟩
theorem ma_6 {w : Cond} (h : w ∈ tables_1_6) : w ∈ lw_tbl := List.mem_append_right _ (List.mem_append_right _ (List.mem_append_right _ (List.mem_append_right _ (List.mem_append_right _ (List.mem_append_right _ (List.mem_append_left _ h))))))
theorem mb_6 {w : Cond} (h : w ∈ tables_1_6) (hg : goodWord w = true) : w ∈ mTb := List.mem_filter.mpr ⟨ma_6 h, hg⟩
theorem ma_7 {w : Cond} (h : w ∈ tables_1_7) : w ∈ lw_tbl := List.mem_append_right _ (List.mem_append_right _ (List.mem_append_right _ (List.mem_append_right _ (List.mem_append_right _ (List.mem_append_right _ (List.mem_append_right _ (List.mem_append_left _ h)))))))
theorem mb_7 {w : Cond} (h : w ∈ tables_1_7) (hg : goodWord w = true) : w ∈ mTb := List.mem_filter.mpr ⟨ma_7 h, hg⟩
theorem ma_8 {w : Cond} (h : w ∈ tables_1_8) : w ∈ lw_tbl := List.mem_append_right _ (List.mem_append_right _ (List.mem_append_right _ (List.mem_append_right _ (List.mem_append_right _ (List.mem_append_right _ (List.mem_append_right _ (List.mem_append_right _ (h))))))))
theorem mb_8 {w : Cond} (h : w ∈ tables_1_8) (hg : goodWord w = true) : w ∈ mTb := List.mem_filter.mpr ⟨ma_8 h, hg⟩
set_option maxRecDepth 100000 in
theorem mx_F_w_0 : ∀ e ∈ mx_F_0, mwF e := List.forall_mem_cons.mpr ⟨⟨_, rfl, by decide, rfl, mb_1 (List.mem_of_getElem? (i := 124) rfl) rfl⟩, List.forall_mem_cons.mpr ⟨⟨_, rfl, by decide, rfl, mb_1 (List.mem_of_getElem? (i := 126) rfl) rfl⟩, List.forall_mem_cons.mpr ⟨⟨_, rfl, by decide, rfl, mb_1 (List.mem_of_getElem? (i := 128) rfl) rfl⟩, List.forall_mem_cons.mpr ⟨⟨_, rfl, by decide, rfl, mb_1 (List.mem_of_getElem? (i := 130) rfl) rfl⟩, List.forall_mem_cons.mpr ⟨⟨_, rfl, by decide, rfl, mb_1 (List.mem_of_getElem? (i := 132) rfl) rfl⟩, List.forall_mem_cons.mpr ⟨⟨_, rfl, by decide, rfl, mb_1 (List.mem_of_getElem? (i := 134) rfl) rfl⟩, List.forall_mem_cons.mpr ⟨⟨_, rfl, by decide, rfl, mb_1 (List.mem_of_getElem? (i := 40) rfl) rfl⟩, List.forall_mem_cons.mpr ⟨⟨_, rfl, by decide, rfl, mb_1 (List.mem_of_getElem? (i := 234) rfl) rfl⟩, List.forall_mem_cons.mpr ⟨⟨_, rfl, by decide, rfl, mb_2 (List.mem_of_getElem? (i := 0) rfl) rfl⟩, List.forall_mem_cons.mpr ⟨⟨_, rfl, by decide, rfl, mb_1 (List.mem_of_getElem? (i := 238) rfl) rfl⟩, List.forall_mem_cons.mpr ⟨⟨_, rfl, by decide, rfl, mb_2 (List.mem_of_getElem? (i := 2) rfl) rfl⟩, List.forall_mem_cons.mpr ⟨⟨_, rfl, by decide, rfl, mb_2 (List.mem_of_getElem? (i := 4) rfl) rfl⟩, List.forall_mem_cons.mpr ⟨⟨_, rfl, by decide, rfl, mb_2 (List.mem_of_getElem? (i := 89) rfl) rfl⟩, List.forall_mem_cons.mpr ⟨⟨_, rfl, by decide, rfl, mb_2 (List.mem_of_getElem? (i := 91) rfl) rfl⟩, List.forall_mem_cons.mpr ⟨⟨_, rfl, by decide, rfl, mb_2 (List.mem_of_getElem? (i := 97) rfl) rfl⟩, List.forall_mem_cons.mpr ⟨⟨_, rfl, by decide, rfl, mb_2 (List.mem_of_getElem? (i := 98) rfl) rfl⟩, List.forall_mem_cons.mpr ⟨⟨_, rfl, by decide, rfl, mb_2 (List.mem_of_getElem? (i := 83) rfl) rfl⟩, List.forall_mem_cons.mpr ⟨⟨_, rfl, by decide, rfl, mb_2 (List.mem_of_getElem? (i := 85) rfl) rfl⟩, List.forall_mem_cons.mpr ⟨⟨_, rfl, by decide, rfl, mb_2 (List.mem_of_getElem? (i := 87) rfl) rfl⟩, List.forall_mem_cons.mpr ⟨⟨_, rfl, by decide, rfl, mb_2 (List.mem_of_getElem? (i := 92) rfl) rfl⟩, List.forall_mem_cons.mpr ⟨⟨_, rfl, by decide, rfl, mb_2 (List.mem_of_getElem? (i := 94) rfl) rfl⟩, List.forall_mem_cons.mpr ⟨⟨_, rfl, by decide, rfl, mb_2 (List.mem_of_getElem? (i := 99) rfl) rfl⟩, List.forall_mem_cons.mpr ⟨⟨_, rfl, by decide, rfl, mb_2 (List.mem_of_getElem? (i := 100) rfl) rfl⟩, List.forall_mem_cons.mpr ⟨⟨_, rfl, by decide, rfl, mb_1 (List.mem_of_getElem? (i := 45) rfl) rfl⟩, List.forall_mem_cons.mpr ⟨⟨_, rfl, by decide, rfl, mb_1 (List.mem_of_getElem? (i := 37) rfl) rfl⟩, List.forall_mem_cons.mpr ⟨⟨_, rfl, by decide, rfl, mb_2 (List.mem_of_getElem? (i := 95) rfl) rfl⟩, List.forall_mem_cons.mpr ⟨⟨_, rfl, by decide, rfl, mb_2 (List.mem_of_getElem? (i := 23) rfl) rfl⟩, List.forall_mem_cons.mpr ⟨⟨_, rfl, by decide, rfl, mb_2 (List.mem_of_getElem? (i := 52) rfl) rfl⟩, List.forall_mem_cons.mpr ⟨⟨_, rfl, by decide, rfl, mb_1 (List.mem_of_getElem? (i := 194) rfl) rfl⟩, List.forall_mem_cons.mpr ⟨⟨_, rfl, by decide, rfl, mb_1 (List.mem_of_getElem? (i := 200) rfl) rfl⟩, List.forall_mem_cons.mpr ⟨⟨_, rfl, by decide, rfl, mb_1 (List.mem_of_getElem? (i := 185) rfl) rfl⟩, List.forall_mem_cons.mpr ⟨⟨_, rfl, by decide, rfl, mb_1 (List.mem_of_getElem? (i := 188) rfl) rfl⟩, List.forall_mem_cons.mpr ⟨⟨_, rfl, by decide, rfl, mb_1 (List.mem_of_getElem? (i := 190) rfl) rfl⟩, List.forall_mem_cons.mpr ⟨⟨_, rfl, by decide, rfl, mb_1 (List.mem_of_getElem? (i := 192) rfl) rfl⟩, List.forall_mem_cons.mpr ⟨⟨_, rfl, by decide, rfl, mb_1 (List.mem_of_getElem? (i := 196) rfl) rfl⟩, List.forall_mem_cons.mpr ⟨⟨_, rfl, by decide, rfl, mb_1 (List.mem_of_getElem? (i := 197) rfl) rfl⟩, List.forall_mem_cons.mpr ⟨⟨_, rfl, by decide, rfl, mb_1 (List.mem_of_getElem? (i := 198) rfl) rfl⟩, List.forall_mem_cons.mpr ⟨⟨_, rfl, by decide, rfl, mb_1 (List.mem_of_getElem? (i := 135) rfl) rfl⟩, List.forall_mem_cons.mpr ⟨⟨_, rfl, by decide, rfl, mb_1 (List.mem_of_getElem? (i := 171) rfl) rfl⟩, List.forall_mem_cons.mpr ⟨⟨_, rfl, by decide, rfl, mb_1 (List.mem_of_getElem? (i := 125) rfl) rfl⟩, List.forall_mem_cons.mpr ⟨⟨_, rfl, by decide, rfl, mb_1 (List.mem_of_getElem? (i := 159) rfl) rfl⟩, List.forall_mem_cons.mpr ⟨⟨_, rfl, by decide, rfl, mb_1 (List.mem_of_getElem? (i := 127) rfl) rfl⟩, List.forall_mem_cons.mpr ⟨⟨_, rfl, by decide, rfl, mb_1 (List.mem_of_getElem? (i := 162) rfl) rfl⟩, List.forall_mem_cons.mpr ⟨⟨_, rfl, by decide, rfl, mb_1 (List.mem_of_getElem? (i := 129) rfl) rfl⟩, List.forall_mem_cons.mpr ⟨⟨_, rfl, by decide, rfl, mb_1 (List.mem_of_getElem? (i := 131) rfl) rfl⟩, List.forall_mem_cons.mpr ⟨⟨_, rfl, by decide, rfl, mb_1 (List.mem_of_getElem? (i := 133) rfl) rfl⟩, List.forall_mem_cons.mpr ⟨⟨_, rfl, by decide, rfl, mb_1 (List.mem_of_getElem? (i := 199) rfl) rfl⟩, List.forall_mem_cons.mpr ⟨⟨_, rfl, by decide, rfl, mb_1 (List.mem_of_getElem? (i := 166) rfl) rfl⟩, List.forall_mem_cons.mpr ⟨⟨_, rfl, by decide, rfl, mb_1 (List.mem_of_getElem? (i := 169) rfl) rfl⟩, List.forall_mem_cons.mpr ⟨⟨_, rfl, by decide, rfl, mb_1 (List.mem_of_getElem? (i := 236) rfl) rfl⟩, List.forall_mem_cons.mpr ⟨⟨_, rfl, by decide, rfl, mb_2 (List.mem_of_getElem? (i := 17) rfl) rfl⟩, List.forall_mem_cons.mpr ⟨⟨_, rfl, by decide, rfl, mb_2 (List.mem_of_getElem? (i := 22) rfl) rfl⟩, List.forall_mem_cons.mpr ⟨⟨_, rfl, by decide, rfl, mb_2 (List.mem_of_getElem? (i := 16) rfl) rfl⟩, List.forall_mem_cons.mpr ⟨⟨_, rfl, by decide, rfl, mb_2 (List.mem_of_getElem? (i := 18) rfl) rfl⟩, List.forall_mem_cons.mpr ⟨⟨_, rfl, by decide, rfl, mb_2 (List.mem_of_getElem? (i := 19) rfl) rfl⟩, List.forall_mem_cons.mpr ⟨⟨_, rfl, by decide, rfl, mb_2 (List.mem_of_getElem? (i := 20) rfl) rfl⟩, List.forall_mem_cons.mpr ⟨⟨_, rfl, by decide, rfl, mb_2 (List.mem_of_getElem? (i := 25) rfl) rfl⟩, List.forall_mem_cons.mpr ⟨⟨_, rfl, by decide, rfl, mb_1 (List.mem_of_getElem? (i := 235) rfl) rfl⟩, List.forall_mem_cons.mpr ⟨⟨_, rfl, by decide, rfl, mb_1 (List.mem_of_getElem? (i := 239) rfl) rfl⟩, List.forall_mem_cons.mpr ⟨⟨_, rfl, by decide, rfl, mb_1 (List.mem_of_getElem? (i := 237) rfl) rfl⟩, fun _ h => absurd h List.not_mem_nil⟩⟩⟩⟩⟩⟩⟩⟩⟩⟩⟩⟩⟩⟩⟩⟩⟩⟩⟩⟩⟩⟩⟩⟩⟩⟩⟩⟩⟩⟩⟩⟩⟩⟩⟩⟩⟩⟩⟩⟩⟩⟩⟩⟩⟩⟩⟩⟩⟩⟩⟩⟩⟩⟩⟩⟩⟩⟩⟩⟩
set_option maxRecDepth 100000 in
theorem mx_F_w_1 : ∀ e ∈ mx_F_1, mwF e := List.forall_mem_cons.mpr ⟨⟨_, rfl, by decide, rfl, mb_2 (List.mem_of_getElem? (i := 3) rfl) rfl⟩, List.forall_mem_cons.mpr ⟨⟨_, rfl, by decide, rfl, mb_2 (List.mem_of_getElem? (i := 1) rfl) rfl⟩, List.forall_mem_cons.mpr ⟨⟨_, rfl, by decide, rfl, mb_1 (List.mem_of_getElem? (i := 64) rfl) rfl⟩, List.forall_mem_cons.mpr ⟨⟨_, rfl, by decide, rfl, mb_1 (List.mem_of_getElem? (i := 101) rfl) rfl⟩, List.forall_mem_cons.mpr ⟨⟨_, rfl, by decide, rfl, mb_1 (List.mem_of_getElem? (i := 103) rfl) rfl⟩, List.forall_mem_cons.mpr ⟨⟨_, rfl, by decide, rfl, mb_1 (List.mem_of_getElem? (i := 105) rfl) rfl⟩, List.forall_mem_cons.mpr ⟨⟨_, rfl, by decide, rfl, mb_1 (List.mem_of_getElem? (i := 107) rfl) rfl⟩, List.forall_mem_cons.mpr ⟨⟨_, rfl, by decide, rfl, mb_1 (List.mem_of_getElem? (i := 168) rfl) rfl⟩, List.forall_mem_cons.mpr ⟨⟨_, rfl, by decide, rfl, mb_1 (List.mem_of_getElem? (i := 165) rfl) rfl⟩, List.forall_mem_cons.mpr ⟨⟨_, rfl, by decide, rfl, mb_1 (List.mem_of_getElem? (i := 173) rfl) rfl⟩, List.forall_mem_cons.mpr ⟨⟨_, rfl, by decide, rfl, mb_1 (List.mem_of_getElem? (i := 160) rfl) rfl⟩, List.forall_mem_cons.mpr ⟨⟨_, rfl, by decide, rfl, mb_1 (List.mem_of_getElem? (i := 163) rfl) rfl⟩, List.forall_mem_cons.mpr ⟨⟨_, rfl, by decide, rfl, mb_1 (List.mem_of_getElem? (i := 36) rfl) rfl⟩, List.forall_mem_cons.mpr ⟨⟨_, rfl, by decide, rfl, mb_1 (List.mem_of_getElem? (i := 43) rfl) rfl⟩, List.forall_mem_cons.mpr ⟨⟨_, rfl, by decide, rfl, mb_1 (List.mem_of_getElem? (i := 63) rfl) rfl⟩, List.forall_mem_cons.mpr ⟨⟨_, rfl, by decide, rfl, mb_1 (List.mem_of_getElem? (i := 66) rfl) rfl⟩, List.forall_mem_cons.mpr ⟨⟨_, rfl, by decide, rfl, mb_1 (List.mem_of_getElem? (i := 71) rfl) rfl⟩, List.forall_mem_cons.mpr ⟨⟨_, rfl, by decide, rfl, mb_1 (List.mem_of_getElem? (i := 72) rfl) rfl⟩, List.forall_mem_cons.mpr ⟨⟨_, rfl, by decide, rfl, mb_1 (List.mem_of_getElem? (i := 73) rfl) rfl⟩, List.forall_mem_cons.mpr ⟨⟨_, rfl, by decide, rfl, mb_1 (List.mem_of_getElem? (i := 74) rfl) rfl⟩, List.forall_mem_cons.mpr ⟨⟨_, rfl, by decide, rfl, mb_1 (List.mem_of_getElem? (i := 69) rfl) rfl⟩, List.forall_mem_cons.mpr ⟨⟨_, rfl, by decide, rfl, mb_1 (List.mem_of_getElem? (i := 44) rfl) rfl⟩, List.forall_mem_cons.mpr ⟨⟨_, rfl, by decide, rfl, mb_1 (List.mem_of_getElem? (i := 38) rfl) rfl⟩, List.forall_mem_cons.mpr ⟨⟨_, rfl, by decide, rfl, mb_1 (List.mem_of_getElem? (i := 158) rfl) rfl⟩, List.forall_mem_cons.mpr ⟨⟨_, rfl, by decide, rfl, mb_1 (List.mem_of_getElem? (i := 161) rfl) rfl⟩, List.forall_mem_cons.mpr ⟨⟨_, rfl, by decide, rfl, mb_1 (List.mem_of_getElem? (i := 164) rfl) rfl⟩, List.forall_mem_cons.mpr ⟨⟨_, rfl, by decide, rfl, mb_1 (List.mem_of_getElem? (i := 167) rfl) rfl⟩, List.forall_mem_cons.mpr ⟨⟨_, rfl, by decide, rfl, mb_1 (List.mem_of_getElem? (i := 170) rfl) rfl⟩, List.forall_mem_cons.mpr ⟨⟨_, rfl, by decide, rfl, mb_1 (List.mem_of_getElem? (i := 41) rfl) rfl⟩, List.forall_mem_cons.mpr ⟨⟨_, rfl, by decide, rfl, mb_2 (List.mem_of_getElem? (i := 51) rfl) rfl⟩, List.forall_mem_cons.mpr ⟨⟨_, rfl, by decide, rfl, mb_2 (List.mem_of_getElem? (i := 54) rfl) rfl⟩, List.forall_mem_cons.mpr ⟨⟨_, rfl, by decide, rfl, mb_2 (List.mem_of_getElem? (i := 50) rfl) rfl⟩, List.forall_mem_cons.mpr ⟨⟨_, rfl, by decide, rfl, mb_2 (List.mem_of_getElem? (i := 55) rfl) rfl⟩, List.forall_mem_cons.mpr ⟨⟨_, rfl, by decide, rfl, mb_2 (List.mem_of_getElem? (i := 56) rfl) rfl⟩, List.forall_mem_cons.mpr ⟨⟨_, rfl, by decide, rfl, mb_2 (List.mem_of_getElem? (i := 57) rfl) rfl⟩, List.forall_mem_cons.mpr ⟨⟨_, rfl, by decide, rfl, mb_1 (List.mem_of_getElem? (i := 67) rfl) rfl⟩, List.forall_mem_cons.mpr ⟨⟨_, rfl, by decide, rfl, mb_1 (List.mem_of_getElem? (i := 186) rfl) rfl⟩, List.forall_mem_cons.mpr ⟨⟨_, rfl, by decide, rfl, mb_1 (List.mem_of_getElem? (i := 195) rfl) rfl⟩, List.forall_mem_cons.mpr ⟨⟨_, rfl, by decide, rfl, mb_1 (List.mem_of_getElem? (i := 102) rfl) rfl⟩, List.forall_mem_cons.mpr ⟨⟨_, rfl, by decide, rfl, mb_1 (List.mem_of_getElem? (i := 104) rfl) rfl⟩, List.forall_mem_cons.mpr ⟨⟨_, rfl, by decide, rfl, mb_1 (List.mem_of_getElem? (i := 106) rfl) rfl⟩, List.forall_mem_cons.mpr ⟨⟨_, rfl, by decide, rfl, mb_1 (List.mem_of_getElem? (i := 46) rfl) rfl⟩, List.forall_mem_cons.mpr ⟨⟨_, rfl, by decide, rfl, mb_1 (List.mem_of_getElem? (i := 39) rfl) rfl⟩, List.forall_mem_cons.mpr ⟨⟨_, rfl, by decide, rfl, mb_2 (List.mem_of_getElem? (i := 127) rfl) rfl⟩, List.forall_mem_cons.mpr ⟨⟨_, rfl, by decide, rfl, mb_2 (List.mem_of_getElem? (i := 130) rfl) rfl⟩, List.forall_mem_cons.mpr ⟨⟨_, rfl, by decide, rfl, mb_2 (List.mem_of_getElem? (i := 131) rfl) rfl⟩, List.forall_mem_cons.mpr ⟨⟨_, rfl, by decide, rfl, mb_2 (List.mem_of_getElem? (i := 132) rfl) rfl⟩, List.forall_mem_cons.mpr ⟨⟨_, rfl, by decide, rfl, mb_2 (List.mem_of_getElem? (i := 133) rfl) rfl⟩, List.forall_mem_cons.mpr ⟨⟨_, rfl, by decide, rfl, mb_2 (List.mem_of_getElem? (i := 134) rfl) rfl⟩, List.forall_mem_cons.mpr ⟨⟨_, rfl, by decide, rfl, mb_2 (List.mem_of_getElem? (i := 135) rfl) rfl⟩, List.forall_mem_cons.mpr ⟨⟨_, rfl, by decide, rfl, mb_2 (List.mem_of_getElem? (i := 139) rfl) rfl⟩, List.forall_mem_cons.mpr ⟨⟨_, rfl, by decide, rfl, mb_2 (List.mem_of_getElem? (i := 141) rfl) rfl⟩, List.forall_mem_cons.mpr ⟨⟨_, rfl, by decide, rfl, mb_2 (List.mem_of_getElem? (i := 142) rfl) rfl⟩, List.forall_mem_cons.mpr ⟨⟨_, rfl, by decide, rfl, mb_2 (List.mem_of_getElem? (i := 136) rfl) rfl⟩, List.forall_mem_cons.mpr ⟨⟨_, rfl, by decide, rfl, mb_2 (List.mem_of_getElem? (i := 137) rfl) rfl⟩, List.forall_mem_cons.mpr ⟨⟨_, rfl, by decide, rfl, mb_2 (List.mem_of_getElem? (i := 138) rfl) rfl⟩, List.forall_mem_cons.mpr ⟨⟨_, rfl, by decide, rfl, mb_2 (List.mem_of_getElem? (i := 128) rfl) rfl⟩, List.forall_mem_cons.mpr ⟨⟨_, rfl, by decide, rfl, mb_1 (List.mem_of_getElem? (i := 189) rfl) rfl⟩, List.forall_mem_cons.mpr ⟨⟨_, rfl, by decide, rfl, mb_1 (List.mem_of_getElem? (i := 191) rfl) rfl⟩, List.forall_mem_cons.mpr ⟨⟨_, rfl, by decide, rfl, mb_1 (List.mem_of_getElem? (i := 193) rfl) rfl⟩, fun _ h => absurd h List.not_mem_nil⟩⟩⟩⟩⟩⟩⟩⟩⟩⟩⟩⟩⟩⟩⟩⟩⟩⟩⟩⟩⟩⟩⟩⟩⟩⟩⟩⟩⟩⟩⟩⟩⟩⟩⟩⟩⟩⟩⟩⟩⟩⟩⟩⟩⟩⟩⟩⟩⟩⟩⟩⟩⟩⟩⟩⟩⟩⟩⟩⟩
set_option maxRecDepth 100000 in
theorem mx_F_w_2 : ∀ e ∈ mx_F_2, mwF e := List.forall_mem_cons.mpr ⟨⟨_, rfl, by decide, rfl, mb_1 (List.mem_of_getElem? (i := 136) rfl) rfl⟩, List.forall_mem_cons.mpr ⟨⟨_, rfl, by decide, rfl, mb_1 (List.mem_of_getElem? (i := 172) rfl) rfl⟩, List.forall_mem_cons.mpr ⟨⟨_, rfl, by decide, rfl, mb_1 (List.mem_of_getElem? (i := 187) rfl) rfl⟩, List.forall_mem_cons.mpr ⟨⟨_, rfl, by decide, rfl, mb_1 (List.mem_of_getElem? (i := 47) rfl) rfl⟩, List.forall_mem_cons.mpr ⟨⟨_, rfl, by decide, rfl, mb_1 (List.mem_of_getElem? (i := 42) rfl) rfl⟩, List.forall_mem_cons.mpr ⟨⟨_, rfl, by decide, rfl, mb_1 (List.mem_of_getElem? (i := 65) rfl) rfl⟩, List.forall_mem_cons.mpr ⟨⟨_, rfl, by decide, rfl, mb_1 (List.mem_of_getElem? (i := 68) rfl) rfl⟩, List.forall_mem_cons.mpr ⟨⟨_, rfl, by decide, rfl, mb_1 (List.mem_of_getElem? (i := 70) rfl) rfl⟩, List.forall_mem_cons.mpr ⟨⟨_, rfl, by decide, rfl, mb_2 (List.mem_of_getElem? (i := 88) rfl) rfl⟩, List.forall_mem_cons.mpr ⟨⟨_, rfl, by decide, rfl, mb_2 (List.mem_of_getElem? (i := 101) rfl) rfl⟩, List.forall_mem_cons.mpr ⟨⟨_, rfl, by decide, rfl, mb_2 (List.mem_of_getElem? (i := 90) rfl) rfl⟩, List.forall_mem_cons.mpr ⟨⟨_, rfl, by decide, rfl, mb_2 (List.mem_of_getElem? (i := 86) rfl) rfl⟩, List.forall_mem_cons.mpr ⟨⟨_, rfl, by decide, rfl, mb_2 (List.mem_of_getElem? (i := 58) rfl) rfl⟩, List.forall_mem_cons.mpr ⟨⟨_, rfl, by decide, rfl, mb_2 (List.mem_of_getElem? (i := 84) rfl) rfl⟩, List.forall_mem_cons.mpr ⟨⟨_, rfl, by decide, rfl, mb_2 (List.mem_of_getElem? (i := 21) rfl) rfl⟩, List.forall_mem_cons.mpr ⟨⟨_, rfl, by decide, rfl, mb_2 (List.mem_of_getElem? (i := 24) rfl) rfl⟩, List.forall_mem_cons.mpr ⟨⟨_, rfl, by decide, rfl, mb_2 (List.mem_of_getElem? (i := 93) rfl) rfl⟩, List.forall_mem_cons.mpr ⟨⟨_, rfl, by decide, rfl, mb_2 (List.mem_of_getElem? (i := 129) rfl) rfl⟩, List.forall_mem_cons.mpr ⟨⟨_, rfl, by decide, rfl, mb_2 (List.mem_of_getElem? (i := 140) rfl) rfl⟩, List.forall_mem_cons.mpr ⟨⟨_, rfl, by decide, rfl, mb_2 (List.mem_of_getElem? (i := 143) rfl) rfl⟩, List.forall_mem_cons.mpr ⟨⟨_, rfl, by decide, rfl, mb_2 (List.mem_of_getElem? (i := 26) rfl) rfl⟩, List.forall_mem_cons.mpr ⟨⟨_, rfl, by decide, rfl, mb_2 (List.mem_of_getElem? (i := 53) rfl) rfl⟩, List.forall_mem_cons.mpr ⟨⟨_, rfl, by decide, rfl, mb_2 (List.mem_of_getElem? (i := 96) rfl) rfl⟩, List.forall_mem_cons.mpr ⟨⟨_, rfl, by decide, rfl, mb_5 (List.mem_of_getElem? (i := 166) rfl) rfl⟩, List.forall_mem_cons.mpr ⟨⟨_, rfl, by decide, rfl, mb_5 (List.mem_of_getElem? (i := 167) rfl) rfl⟩, List.forall_mem_cons.mpr ⟨⟨_, rfl, by decide, rfl, mb_5 (List.mem_of_getElem? (i := 168) rfl) rfl⟩, List.forall_mem_cons.mpr ⟨⟨_, rfl, by decide, rfl, mb_5 (List.mem_of_getElem? (i := 169) rfl) rfl⟩, List.forall_mem_cons.mpr ⟨⟨_, rfl, by decide, rfl, mb_5 (List.mem_of_getElem? (i := 170) rfl) rfl⟩, List.forall_mem_cons.mpr ⟨⟨_, rfl, by decide, rfl, mb_5 (List.mem_of_getElem? (i := 171) rfl) rfl⟩, List.forall_mem_cons.mpr ⟨⟨_, rfl, by decide, rfl, mb_5 (List.mem_of_getElem? (i := 172) rfl) rfl⟩, List.forall_mem_cons.mpr ⟨⟨_, rfl, by decide, rfl, mb_5 (List.mem_of_getElem? (i := 173) rfl) rfl⟩, List.forall_mem_cons.mpr ⟨⟨_, rfl, by decide, rfl, mb_5 (List.mem_of_getElem? (i := 174) rfl) rfl⟩, List.forall_mem_cons.mpr ⟨⟨_, rfl, by decide, rfl, mb_5 (List.mem_of_getElem? (i := 175) rfl) rfl⟩, List.forall_mem_cons.mpr ⟨⟨_, rfl, by decide, rfl, mb_5 (List.mem_of_getElem? (i := 176) rfl) rfl⟩, List.forall_mem_cons.mpr ⟨⟨_, rfl, by decide, rfl, mb_5 (List.mem_of_getElem? (i := 177) rfl) rfl⟩, List.forall_mem_cons.mpr ⟨⟨_, rfl, by decide, rfl, mb_5 (List.mem_of_getElem? (i := 178) rfl) rfl⟩, List.forall_mem_cons.mpr ⟨⟨_, rfl, by decide, rfl, mb_5 (List.mem_of_getElem? (i := 180) rfl) rfl⟩, List.forall_mem_cons.mpr ⟨⟨_, rfl, by decide, rfl, mb_5 (List.mem_of_getElem? (i := 182) rfl) rfl⟩, List.forall_mem_cons.mpr ⟨⟨_, rfl, by decide, rfl, mb_5 (List.mem_of_getElem? (i := 185) rfl) rfl⟩, List.forall_mem_cons.mpr ⟨⟨_, rfl, by decide, rfl, mb_5 (List.mem_of_getElem? (i := 186) rfl) rfl⟩, List.forall_mem_cons.mpr ⟨⟨_, rfl, by decide, rfl, mb_5 (List.mem_of_getElem? (i := 188) rfl) rfl⟩, List.forall_mem_cons.mpr ⟨⟨_, rfl, by decide, rfl, mb_5 (List.mem_of_getElem? (i := 191) rfl) rfl⟩, List.forall_mem_cons.mpr ⟨⟨_, rfl, by decide, rfl, mb_5 (List.mem_of_getElem? (i := 192) rfl) rfl⟩, List.forall_mem_cons.mpr ⟨⟨_, rfl, by decide, rfl, mb_5 (List.mem_of_getElem? (i := 193) rfl) rfl⟩, List.forall_mem_cons.mpr ⟨⟨_, rfl, by decide, rfl, mb_5 (List.mem_of_getElem? (i := 194) rfl) rfl⟩, List.forall_mem_cons.mpr ⟨⟨_, rfl, by decide, rfl, mb_5 (List.mem_of_getElem? (i := 195) rfl) rfl⟩, List.forall_mem_cons.mpr ⟨⟨_, rfl, by decide, rfl, mb_5 (List.mem_of_getElem? (i := 198) rfl) rfl⟩, List.forall_mem_cons.mpr ⟨⟨_, rfl, by decide, rfl, mb_5 (List.mem_of_getElem? (i := 208) rfl) rfl⟩, List.forall_mem_cons.mpr ⟨⟨_, rfl, by decide, rfl, mb_5 (List.mem_of_getElem? (i := 209) rfl) rfl⟩, List.forall_mem_cons.mpr ⟨⟨_, rfl, by decide, rfl, mb_5 (List.mem_of_getElem? (i := 210) rfl) rfl⟩, List.forall_mem_cons.mpr ⟨⟨_, rfl, by decide, rfl, mb_5 (List.mem_of_getElem? (i := 211) rfl) rfl⟩, List.forall_mem_cons.mpr ⟨⟨_, rfl, by decide, rfl, mb_5 (List.mem_of_getElem? (i := 214) rfl) rfl⟩, List.forall_mem_cons.mpr ⟨⟨_, rfl, by decide, rfl, mb_5 (List.mem_of_getElem? (i := 215) rfl) rfl⟩, List.forall_mem_cons.mpr ⟨⟨_, rfl, by decide, rfl, mb_5 (List.mem_of_getElem? (i := 216) rfl) rfl⟩, List.forall_mem_cons.mpr ⟨⟨_, rfl, by decide, rfl, mb_5 (List.mem_of_getElem? (i := 217) rfl) rfl⟩, List.forall_mem_cons.mpr ⟨⟨_, rfl, by decide, rfl, mb_5 (List.mem_of_getElem? (i := 218) rfl) rfl⟩, List.forall_mem_cons.mpr ⟨⟨_, rfl, by decide, rfl, mb_5 (List.mem_of_getElem? (i := 219) rfl) rfl⟩, List.forall_mem_cons.mpr ⟨⟨_, rfl, by decide, rfl, mb_5 (List.mem_of_getElem? (i := 220) rfl) rfl⟩, List.forall_mem_cons.mpr ⟨⟨_, rfl, by decide, rfl, mb_5 (List.mem_of_getElem? (i := 221) rfl) rfl⟩, List.forall_mem_cons.mpr ⟨⟨_, rfl, by decide, rfl, mb_5 (List.mem_of_getElem? (i := 222) rfl) rfl⟩, fun _ h => absurd h List.not_mem_nil⟩⟩⟩⟩⟩⟩⟩⟩⟩⟩⟩⟩⟩⟩⟩⟩⟩⟩⟩⟩⟩⟩⟩⟩⟩⟩⟩⟩⟩⟩⟩⟩⟩⟩⟩⟩⟩⟩⟩⟩⟩⟩⟩⟩⟩⟩⟩⟩⟩⟩⟩⟩⟩⟩⟩⟩⟩⟩⟩⟩
set_option maxRecDepth 100000 in
theorem mx_F_w_3 : ∀ e ∈ mx_F_3, mwF e := List.forall_mem_cons.mpr ⟨⟨_, rfl, by decide, rfl, mb_5 (List.mem_of_getElem? (i := 223) rfl) rfl⟩, List.forall_mem_cons.mpr ⟨⟨_, rfl, by decide, rfl, mb_5 (List.mem_of_getElem? (i := 224) rfl) rfl⟩, List.forall_mem_cons.mpr ⟨⟨_, rfl, by decide, rfl, mb_5 (List.mem_of_getElem? (i := 225) rfl) rfl⟩, List.forall_mem_cons.mpr ⟨⟨_, rfl, by decide, rfl, mb_5 (List.mem_of_getElem? (i := 226) rfl) rfl⟩, List.forall_mem_cons.mpr ⟨⟨_, rfl, by decide, rfl, mb_5 (List.mem_of_getElem? (i := 227) rfl) rfl⟩, List.forall_mem_cons.mpr ⟨⟨_, rfl, by decide, rfl, mb_5 (List.mem_of_getElem? (i := 228) rfl) rfl⟩, List.forall_mem_cons.mpr ⟨⟨_, rfl, by decide, rfl, mb_5 (List.mem_of_getElem? (i := 229) rfl) rfl⟩, List.forall_mem_cons.mpr ⟨⟨_, rfl, by decide, rfl, mb_5 (List.mem_of_getElem? (i := 230) rfl) rfl⟩, List.forall_mem_cons.mpr ⟨⟨_, rfl, by decide, rfl, mb_5 (List.mem_of_getElem? (i := 231) rfl) rfl⟩, List.forall_mem_cons.mpr ⟨⟨_, rfl, by decide, rfl, mb_5 (List.mem_of_getElem? (i := 189) rfl) rfl⟩, List.forall_mem_cons.mpr ⟨⟨_, rfl, by decide, rfl, mb_5 (List.mem_of_getElem? (i := 165) rfl) rfl⟩, List.forall_mem_cons.mpr ⟨⟨_, rfl, by decide, rfl, mb_5 (List.mem_of_getElem? (i := 197) rfl) rfl⟩, List.forall_mem_cons.mpr ⟨⟨_, rfl, by decide, rfl, mb_5 (List.mem_of_getElem? (i := 196) rfl) rfl⟩, List.forall_mem_cons.mpr ⟨⟨_, rfl, by decide, rfl, mb_5 (List.mem_of_getElem? (i := 179) rfl) rfl⟩, List.forall_mem_cons.mpr ⟨⟨_, rfl, by decide, rfl, mb_5 (List.mem_of_getElem? (i := 181) rfl) rfl⟩, List.forall_mem_cons.mpr ⟨⟨_, rfl, by decide, rfl, mb_5 (List.mem_of_getElem? (i := 184) rfl) rfl⟩, List.forall_mem_cons.mpr ⟨⟨_, rfl, by decide, rfl, mb_5 (List.mem_of_getElem? (i := 183) rfl) rfl⟩, List.forall_mem_cons.mpr ⟨⟨_, rfl, by decide, rfl, mb_5 (List.mem_of_getElem? (i := 201) rfl) rfl⟩, List.forall_mem_cons.mpr ⟨⟨_, rfl, by decide, rfl, mb_5 (List.mem_of_getElem? (i := 202) rfl) rfl⟩, List.forall_mem_cons.mpr ⟨⟨_, rfl, by decide, rfl, mb_5 (List.mem_of_getElem? (i := 200) rfl) rfl⟩, List.forall_mem_cons.mpr ⟨⟨_, rfl, by decide, rfl, mb_5 (List.mem_of_getElem? (i := 199) rfl) rfl⟩, List.forall_mem_cons.mpr ⟨⟨_, rfl, by decide, rfl, mb_5 (List.mem_of_getElem? (i := 205) rfl) rfl⟩, List.forall_mem_cons.mpr ⟨⟨_, rfl, by decide, rfl, mb_5 (List.mem_of_getElem? (i := 206) rfl) rfl⟩, List.forall_mem_cons.mpr ⟨⟨_, rfl, by decide, rfl, mb_5 (List.mem_of_getElem? (i := 207) rfl) rfl⟩, List.forall_mem_cons.mpr ⟨⟨_, rfl, by decide, rfl, mb_5 (List.mem_of_getElem? (i := 204) rfl) rfl⟩, List.forall_mem_cons.mpr ⟨⟨_, rfl, by decide, rfl, mb_5 (List.mem_of_getElem? (i := 187) rfl) rfl⟩, List.forall_mem_cons.mpr ⟨⟨_, rfl, by decide, rfl, mb_5 (List.mem_of_getElem? (i := 203) rfl) rfl⟩, List.forall_mem_cons.mpr ⟨⟨_, rfl, by decide, rfl, mb_5 (List.mem_of_getElem? (i := 213) rfl) rfl⟩, List.forall_mem_cons.mpr ⟨⟨_, rfl, by decide, rfl, mb_5 (List.mem_of_getElem? (i := 212) rfl) rfl⟩, List.forall_mem_cons.mpr ⟨⟨_, rfl, by decide, rfl, mb_5 (List.mem_of_getElem? (i := 190) rfl) rfl⟩, List.forall_mem_cons.mpr ⟨⟨_, rfl, by decide, rfl, mb_5 (List.mem_of_getElem? (i := 232) rfl) rfl⟩, List.forall_mem_cons.mpr ⟨⟨_, rfl, by decide, rfl, mb_5 (List.mem_of_getElem? (i := 233) rfl) rfl⟩, fun _ h => absurd h List.not_mem_nil⟩⟩⟩⟩⟩⟩⟩⟩⟩⟩⟩⟩⟩⟩⟩⟩⟩⟩⟩⟩⟩⟩⟩⟩⟩⟩⟩⟩⟩⟩⟩⟩
theorem mx_F_w : ∀ e ∈ mx_F, mwF e := List.forall_mem_append.mpr ⟨mx_F_w_0, List.forall_mem_append.mpr ⟨mx_F_w_1, List.forall_mem_append.mpr ⟨mx_F_w_2, mx_F_w_3⟩⟩⟩
set_option maxRecDepth 100000 in
theorem mx_M_w_0 : ∀ e ∈ mx_M_0, mwM e := List.forall_mem_cons.mpr ⟨⟨mb_1 (List.mem_of_getElem? (i := 122) rfl) rfl, by decide⟩, List.forall_mem_cons.mpr ⟨⟨mb_1 (List.mem_of_getElem? (i := 123) rfl) rfl, by decide⟩, List.forall_mem_cons.mpr ⟨⟨mb_2 (List.mem_of_getElem? (i := 207) rfl) rfl, by decide⟩, List.forall_mem_cons.mpr ⟨⟨mb_5 (List.mem_of_getElem? (i := 119) rfl) rfl, by decide⟩, List.forall_mem_cons.mpr ⟨⟨mb_5 (List.mem_of_getElem? (i := 120) rfl) rfl, by decide⟩, List.forall_mem_cons.mpr ⟨⟨mb_5 (List.mem_of_getElem? (i := 144) rfl) rfl, by decide⟩, List.forall_mem_cons.mpr ⟨⟨mb_5 (List.mem_of_getElem? (i := 147) rfl) rfl, by decide⟩, List.forall_mem_cons.mpr ⟨⟨mb_3 (List.mem_of_getElem? (i := 156) rfl) rfl, by decide⟩, List.forall_mem_cons.mpr ⟨⟨mb_3 (List.mem_of_getElem? (i := 164) rfl) rfl, by decide⟩, List.forall_mem_cons.mpr ⟨⟨mb_4 (List.mem_of_getElem? (i := 10) rfl) rfl, by decide⟩, List.forall_mem_cons.mpr ⟨⟨mb_4 (List.mem_of_getElem? (i := 11) rfl) rfl, by decide⟩, List.forall_mem_cons.mpr ⟨⟨mb_4 (List.mem_of_getElem? (i := 15) rfl) rfl, by decide⟩, List.forall_mem_cons.mpr ⟨⟨mb_4 (List.mem_of_getElem? (i := 21) rfl) rfl, by decide⟩, List.forall_mem_cons.mpr ⟨⟨mb_4 (List.mem_of_getElem? (i := 28) rfl) rfl, by decide⟩, List.forall_mem_cons.mpr ⟨⟨mb_4 (List.mem_of_getElem? (i := 36) rfl) rfl, by decide⟩, List.forall_mem_cons.mpr ⟨⟨mb_4 (List.mem_of_getElem? (i := 39) rfl) rfl, by decide⟩, List.forall_mem_cons.mpr ⟨⟨mb_4 (List.mem_of_getElem? (i := 40) rfl) rfl, by decide⟩, List.forall_mem_cons.mpr ⟨⟨mb_1 (List.mem_of_getElem? (i := 233) rfl) rfl, by decide⟩, List.forall_mem_cons.mpr ⟨⟨mb_2 (List.mem_of_getElem? (i := 76) rfl) rfl, by decide⟩, List.forall_mem_cons.mpr ⟨⟨mb_2 (List.mem_of_getElem? (i := 78) rfl) rfl, by decide⟩, List.forall_mem_cons.mpr ⟨⟨mb_2 (List.mem_of_getElem? (i := 80) rfl) rfl, by decide⟩, List.forall_mem_cons.mpr ⟨⟨mb_2 (List.mem_of_getElem? (i := 82) rfl) rfl, by decide⟩, List.forall_mem_cons.mpr ⟨⟨mb_4 (List.mem_of_getElem? (i := 217) rfl) rfl, by decide⟩, List.forall_mem_cons.mpr ⟨⟨mb_4 (List.mem_of_getElem? (i := 218) rfl) rfl, by decide⟩, List.forall_mem_cons.mpr ⟨⟨mb_5 (List.mem_of_getElem? (i := 12) rfl) rfl, by decide⟩, List.forall_mem_cons.mpr ⟨⟨mb_5 (List.mem_of_getElem? (i := 16) rfl) rfl, by decide⟩, List.forall_mem_cons.mpr ⟨⟨mb_5 (List.mem_of_getElem? (i := 17) rfl) rfl, by decide⟩, List.forall_mem_cons.mpr ⟨⟨mb_5 (List.mem_of_getElem? (i := 18) rfl) rfl, by decide⟩, List.forall_mem_cons.mpr ⟨⟨mb_5 (List.mem_of_getElem? (i := 2) rfl) rfl, by decide⟩, List.forall_mem_cons.mpr ⟨⟨mb_4 (List.mem_of_getElem? (i := 238) rfl) rfl, by decide⟩, List.forall_mem_cons.mpr ⟨⟨mb_4 (List.mem_of_getElem? (i := 233) rfl) rfl, by decide⟩, List.forall_mem_cons.mpr ⟨⟨mb_5 (List.mem_of_getElem? (i := 31) rfl) rfl, by decide⟩, List.forall_mem_cons.mpr ⟨⟨mb_4 (List.mem_of_getElem? (i := 237) rfl) rfl, by decide⟩, List.forall_mem_cons.mpr ⟨⟨mb_1 (List.mem_of_getElem? (i := 94) rfl) rfl, by decide⟩, List.forall_mem_cons.mpr ⟨⟨mb_1 (List.mem_of_getElem? (i := 119) rfl) rfl, by decide⟩, List.forall_mem_cons.mpr ⟨⟨mb_1 (List.mem_of_getElem? (i := 153) rfl) rfl, by decide⟩, List.forall_mem_cons.mpr ⟨⟨mb_3 (List.mem_of_getElem? (i := 39) rfl) rfl, by decide⟩, List.forall_mem_cons.mpr ⟨⟨mb_3 (List.mem_of_getElem? (i := 69) rfl) rfl, by decide⟩, List.forall_mem_cons.mpr ⟨⟨mb_3 (List.mem_of_getElem? (i := 78) rfl) rfl, by decide⟩, List.forall_mem_cons.mpr ⟨⟨mb_3 (List.mem_of_getElem? (i := 90) rfl) rfl, by decide⟩, List.forall_mem_cons.mpr ⟨⟨mb_3 (List.mem_of_getElem? (i := 43) rfl) rfl, by decide⟩, List.forall_mem_cons.mpr ⟨⟨mb_3 (List.mem_of_getElem? (i := 62) rfl) rfl, by decide⟩, List.forall_mem_cons.mpr ⟨⟨mb_3 (List.mem_of_getElem? (i := 66) rfl) rfl, by decide⟩, List.forall_mem_cons.mpr ⟨⟨mb_3 (List.mem_of_getElem? (i := 47) rfl) rfl, by decide⟩, List.forall_mem_cons.mpr ⟨⟨mb_3 (List.mem_of_getElem? (i := 51) rfl) rfl, by decide⟩, List.forall_mem_cons.mpr ⟨⟨mb_3 (List.mem_of_getElem? (i := 55) rfl) rfl, by decide⟩, List.forall_mem_cons.mpr ⟨⟨mb_3 (List.mem_of_getElem? (i := 58) rfl) rfl, by decide⟩, List.forall_mem_cons.mpr ⟨⟨mb_3 (List.mem_of_getElem? (i := 74) rfl) rfl, by decide⟩, List.forall_mem_cons.mpr ⟨⟨mb_3 (List.mem_of_getElem? (i := 82) rfl) rfl, by decide⟩, List.forall_mem_cons.mpr ⟨⟨mb_3 (List.mem_of_getElem? (i := 86) rfl) rfl, by decide⟩, List.forall_mem_cons.mpr ⟨⟨mb_3 (List.mem_of_getElem? (i := 94) rfl) rfl, by decide⟩, List.forall_mem_cons.mpr ⟨⟨mb_3 (List.mem_of_getElem? (i := 102) rfl) rfl, by decide⟩, List.forall_mem_cons.mpr ⟨⟨mb_3 (List.mem_of_getElem? (i := 132) rfl) rfl, by decide⟩, List.forall_mem_cons.mpr ⟨⟨mb_3 (List.mem_of_getElem? (i := 133) rfl) rfl, by decide⟩, List.forall_mem_cons.mpr ⟨⟨mb_3 (List.mem_of_getElem? (i := 137) rfl) rfl, by decide⟩, List.forall_mem_cons.mpr ⟨⟨mb_3 (List.mem_of_getElem? (i := 173) rfl) rfl, by decide⟩, List.forall_mem_cons.mpr ⟨⟨mb_5 (List.mem_of_getElem? (i := 58) rfl) rfl, by decide⟩, List.forall_mem_cons.mpr ⟨⟨mb_3 (List.mem_of_getElem? (i := 239) rfl) rfl, by decide⟩, List.forall_mem_cons.mpr ⟨⟨mb_4 (List.mem_of_getElem? (i := 3) rfl) rfl, by decide⟩, List.forall_mem_cons.mpr ⟨⟨mb_4 (List.mem_of_getElem? (i := 33) rfl) rfl, by decide⟩, fun _ h => absurd h List.not_mem_nil⟩⟩⟩⟩⟩⟩⟩⟩⟩⟩⟩⟩⟩⟩⟩⟩⟩⟩⟩⟩⟩⟩⟩⟩⟩⟩⟩⟩⟩⟩⟩⟩⟩⟩⟩⟩⟩⟩⟩⟩⟩⟩⟩⟩⟩⟩⟩⟩⟩⟩⟩⟩⟩⟩⟩⟩⟩⟩⟩⟩
set_option maxRecDepth 100000 in
theorem mx_M_w_1 : ∀ e ∈ mx_M_1, mwM e := List.forall_mem_cons.mpr ⟨⟨mb_4 (List.mem_of_getElem? (i := 44) rfl) rfl, by decide⟩, List.forall_mem_cons.mpr ⟨⟨mb_4 (List.mem_of_getElem? (i := 48) rfl) rfl, by decide⟩, List.forall_mem_cons.mpr ⟨⟨mb_4 (List.mem_of_getElem? (i := 57) rfl) rfl, by decide⟩, List.forall_mem_cons.mpr ⟨⟨mb_4 (List.mem_of_getElem? (i := 52) rfl) rfl, by decide⟩, List.forall_mem_cons.mpr ⟨⟨mb_4 (List.mem_of_getElem? (i := 55) rfl) rfl, by decide⟩, List.forall_mem_cons.mpr ⟨⟨mb_4 (List.mem_of_getElem? (i := 56) rfl) rfl, by decide⟩, List.forall_mem_cons.mpr ⟨⟨mb_1 (List.mem_of_getElem? (i := 227) rfl) rfl, by decide⟩, List.forall_mem_cons.mpr ⟨⟨mb_3 (List.mem_of_getElem? (i := 235) rfl) rfl, by decide⟩, List.forall_mem_cons.mpr ⟨⟨mb_4 (List.mem_of_getElem? (i := 61) rfl) rfl, by decide⟩, List.forall_mem_cons.mpr ⟨⟨mb_4 (List.mem_of_getElem? (i := 69) rfl) rfl, by decide⟩, List.forall_mem_cons.mpr ⟨⟨mb_4 (List.mem_of_getElem? (i := 74) rfl) rfl, by decide⟩, List.forall_mem_cons.mpr ⟨⟨mb_1 (List.mem_of_getElem? (i := 100) rfl) rfl, by decide⟩, List.forall_mem_cons.mpr ⟨⟨mb_3 (List.mem_of_getElem? (i := 106) rfl) rfl, by decide⟩, List.forall_mem_cons.mpr ⟨⟨mb_3 (List.mem_of_getElem? (i := 121) rfl) rfl, by decide⟩, List.forall_mem_cons.mpr ⟨⟨mb_3 (List.mem_of_getElem? (i := 110) rfl) rfl, by decide⟩, List.forall_mem_cons.mpr ⟨⟨mb_3 (List.mem_of_getElem? (i := 113) rfl) rfl, by decide⟩, List.forall_mem_cons.mpr ⟨⟨mb_3 (List.mem_of_getElem? (i := 116) rfl) rfl, by decide⟩, List.forall_mem_cons.mpr ⟨⟨mb_3 (List.mem_of_getElem? (i := 120) rfl) rfl, by decide⟩, List.forall_mem_cons.mpr ⟨⟨mb_3 (List.mem_of_getElem? (i := 125) rfl) rfl, by decide⟩, List.forall_mem_cons.mpr ⟨⟨mb_3 (List.mem_of_getElem? (i := 128) rfl) rfl, by decide⟩, List.forall_mem_cons.mpr ⟨⟨mb_1 (List.mem_of_getElem? (i := 32) rfl) rfl, by decide⟩, List.forall_mem_cons.mpr ⟨⟨mb_1 (List.mem_of_getElem? (i := 33) rfl) rfl, by decide⟩, List.forall_mem_cons.mpr ⟨⟨mb_3 (List.mem_of_getElem? (i := 213) rfl) rfl, by decide⟩, List.forall_mem_cons.mpr ⟨⟨mb_4 (List.mem_of_getElem? (i := 66) rfl) rfl, by decide⟩, List.forall_mem_cons.mpr ⟨⟨mb_5 (List.mem_of_getElem? (i := 139) rfl) rfl, by decide⟩, List.forall_mem_cons.mpr ⟨⟨mb_1 (List.mem_of_getElem? (i := 61) rfl) rfl, by decide⟩, List.forall_mem_cons.mpr ⟨⟨mb_4 (List.mem_of_getElem? (i := 138) rfl) rfl, by decide⟩, List.forall_mem_cons.mpr ⟨⟨mb_4 (List.mem_of_getElem? (i := 179) rfl) rfl, by decide⟩, List.forall_mem_cons.mpr ⟨⟨mb_4 (List.mem_of_getElem? (i := 188) rfl) rfl, by decide⟩, List.forall_mem_cons.mpr ⟨⟨mb_4 (List.mem_of_getElem? (i := 193) rfl) rfl, by decide⟩, List.forall_mem_cons.mpr ⟨⟨mb_4 (List.mem_of_getElem? (i := 183) rfl) rfl, by decide⟩, List.forall_mem_cons.mpr ⟨⟨mb_4 (List.mem_of_getElem? (i := 192) rfl) rfl, by decide⟩, List.forall_mem_cons.mpr ⟨⟨mb_4 (List.mem_of_getElem? (i := 187) rfl) rfl, by decide⟩, List.forall_mem_cons.mpr ⟨⟨mb_4 (List.mem_of_getElem? (i := 197) rfl) rfl, by decide⟩, List.forall_mem_cons.mpr ⟨⟨mb_4 (List.mem_of_getElem? (i := 198) rfl) rfl, by decide⟩, List.forall_mem_cons.mpr ⟨⟨mb_4 (List.mem_of_getElem? (i := 202) rfl) rfl, by decide⟩, List.forall_mem_cons.mpr ⟨⟨mb_4 (List.mem_of_getElem? (i := 142) rfl) rfl, by decide⟩, List.forall_mem_cons.mpr ⟨⟨mb_1 (List.mem_of_getElem? (i := 156) rfl) rfl, by decide⟩, List.forall_mem_cons.mpr ⟨⟨mb_1 (List.mem_of_getElem? (i := 157) rfl) rfl, by decide⟩, List.forall_mem_cons.mpr ⟨⟨mb_2 (List.mem_of_getElem? (i := 215) rfl) rfl, by decide⟩, List.forall_mem_cons.mpr ⟨⟨mb_5 (List.mem_of_getElem? (i := 125) rfl) rfl, by decide⟩, List.forall_mem_cons.mpr ⟨⟨mb_5 (List.mem_of_getElem? (i := 153) rfl) rfl, by decide⟩, List.forall_mem_cons.mpr ⟨⟨mb_2 (List.mem_of_getElem? (i := 47) rfl) rfl, by decide⟩, List.forall_mem_cons.mpr ⟨⟨mb_2 (List.mem_of_getElem? (i := 49) rfl) rfl, by decide⟩, List.forall_mem_cons.mpr ⟨⟨mb_4 (List.mem_of_getElem? (i := 90) rfl) rfl, by decide⟩, List.forall_mem_cons.mpr ⟨⟨mb_4 (List.mem_of_getElem? (i := 107) rfl) rfl, by decide⟩, List.forall_mem_cons.mpr ⟨⟨mb_4 (List.mem_of_getElem? (i := 129) rfl) rfl, by decide⟩, List.forall_mem_cons.mpr ⟨⟨mb_4 (List.mem_of_getElem? (i := 130) rfl) rfl, by decide⟩, List.forall_mem_cons.mpr ⟨⟨mb_4 (List.mem_of_getElem? (i := 116) rfl) rfl, by decide⟩, List.forall_mem_cons.mpr ⟨⟨mb_4 (List.mem_of_getElem? (i := 111) rfl) rfl, by decide⟩, List.forall_mem_cons.mpr ⟨⟨mb_4 (List.mem_of_getElem? (i := 112) rfl) rfl, by decide⟩, List.forall_mem_cons.mpr ⟨⟨mb_4 (List.mem_of_getElem? (i := 125) rfl) rfl, by decide⟩, List.forall_mem_cons.mpr ⟨⟨mb_4 (List.mem_of_getElem? (i := 126) rfl) rfl, by decide⟩, List.forall_mem_cons.mpr ⟨⟨mb_4 (List.mem_of_getElem? (i := 121) rfl) rfl, by decide⟩, List.forall_mem_cons.mpr ⟨⟨mb_4 (List.mem_of_getElem? (i := 120) rfl) rfl, by decide⟩, List.forall_mem_cons.mpr ⟨⟨mb_4 (List.mem_of_getElem? (i := 134) rfl) rfl, by decide⟩, List.forall_mem_cons.mpr ⟨⟨mb_1 (List.mem_of_getElem? (i := 22) rfl) rfl, by decide⟩, List.forall_mem_cons.mpr ⟨⟨mb_1 (List.mem_of_getElem? (i := 29) rfl) rfl, by decide⟩, List.forall_mem_cons.mpr ⟨⟨mb_1 (List.mem_of_getElem? (i := 91) rfl) rfl, by decide⟩, List.forall_mem_cons.mpr ⟨⟨mb_1 (List.mem_of_getElem? (i := 224) rfl) rfl, by decide⟩, fun _ h => absurd h List.not_mem_nil⟩⟩⟩⟩⟩⟩⟩⟩⟩⟩⟩⟩⟩⟩⟩⟩⟩⟩⟩⟩⟩⟩⟩⟩⟩⟩⟩⟩⟩⟩⟩⟩⟩⟩⟩⟩⟩⟩⟩⟩⟩⟩⟩⟩⟩⟩⟩⟩⟩⟩⟩⟩⟩⟩⟩⟩⟩⟩⟩⟩
set_option maxRecDepth 100000 in
theorem mx_M_w_2 : ∀ e ∈ mx_M_2, mwM e := List.forall_mem_cons.mpr ⟨⟨mb_2 (List.mem_of_getElem? (i := 44) rfl) rfl, by decide⟩, List.forall_mem_cons.mpr ⟨⟨mb_2 (List.mem_of_getElem? (i := 73) rfl) rfl, by decide⟩, List.forall_mem_cons.mpr ⟨⟨mb_2 (List.mem_of_getElem? (i := 183) rfl) rfl, by decide⟩, List.forall_mem_cons.mpr ⟨⟨mb_2 (List.mem_of_getElem? (i := 187) rfl) rfl, by decide⟩, List.forall_mem_cons.mpr ⟨⟨mb_2 (List.mem_of_getElem? (i := 195) rfl) rfl, by decide⟩, List.forall_mem_cons.mpr ⟨⟨mb_2 (List.mem_of_getElem? (i := 203) rfl) rfl, by decide⟩, List.forall_mem_cons.mpr ⟨⟨mb_2 (List.mem_of_getElem? (i := 211) rfl) rfl, by decide⟩, List.forall_mem_cons.mpr ⟨⟨mb_2 (List.mem_of_getElem? (i := 223) rfl) rfl, by decide⟩, List.forall_mem_cons.mpr ⟨⟨mb_2 (List.mem_of_getElem? (i := 227) rfl) rfl, by decide⟩, List.forall_mem_cons.mpr ⟨⟨mb_2 (List.mem_of_getElem? (i := 233) rfl) rfl, by decide⟩, List.forall_mem_cons.mpr ⟨⟨mb_3 (List.mem_of_getElem? (i := 2) rfl) rfl, by decide⟩, List.forall_mem_cons.mpr ⟨⟨mb_3 (List.mem_of_getElem? (i := 6) rfl) rfl, by decide⟩, List.forall_mem_cons.mpr ⟨⟨mb_2 (List.mem_of_getElem? (i := 230) rfl) rfl, by decide⟩, List.forall_mem_cons.mpr ⟨⟨mb_3 (List.mem_of_getElem? (i := 11) rfl) rfl, by decide⟩, List.forall_mem_cons.mpr ⟨⟨mb_3 (List.mem_of_getElem? (i := 14) rfl) rfl, by decide⟩, List.forall_mem_cons.mpr ⟨⟨mb_3 (List.mem_of_getElem? (i := 18) rfl) rfl, by decide⟩, List.forall_mem_cons.mpr ⟨⟨mb_3 (List.mem_of_getElem? (i := 23) rfl) rfl, by decide⟩, List.forall_mem_cons.mpr ⟨⟨mb_3 (List.mem_of_getElem? (i := 27) rfl) rfl, by decide⟩, List.forall_mem_cons.mpr ⟨⟨mb_3 (List.mem_of_getElem? (i := 35) rfl) rfl, by decide⟩, List.forall_mem_cons.mpr ⟨⟨mb_3 (List.mem_of_getElem? (i := 98) rfl) rfl, by decide⟩, List.forall_mem_cons.mpr ⟨⟨mb_2 (List.mem_of_getElem? (i := 199) rfl) rfl, by decide⟩, List.forall_mem_cons.mpr ⟨⟨mb_3 (List.mem_of_getElem? (i := 149) rfl) rfl, by decide⟩, List.forall_mem_cons.mpr ⟨⟨mb_3 (List.mem_of_getElem? (i := 153) rfl) rfl, by decide⟩, List.forall_mem_cons.mpr ⟨⟨mb_3 (List.mem_of_getElem? (i := 169) rfl) rfl, by decide⟩, List.forall_mem_cons.mpr ⟨⟨mb_3 (List.mem_of_getElem? (i := 177) rfl) rfl, by decide⟩, List.forall_mem_cons.mpr ⟨⟨mb_3 (List.mem_of_getElem? (i := 185) rfl) rfl, by decide⟩, List.forall_mem_cons.mpr ⟨⟨mb_3 (List.mem_of_getElem? (i := 198) rfl) rfl, by decide⟩, List.forall_mem_cons.mpr ⟨⟨mb_3 (List.mem_of_getElem? (i := 205) rfl) rfl, by decide⟩, List.forall_mem_cons.mpr ⟨⟨mb_3 (List.mem_of_getElem? (i := 220) rfl) rfl, by decide⟩, List.forall_mem_cons.mpr ⟨⟨mb_3 (List.mem_of_getElem? (i := 223) rfl) rfl, by decide⟩, List.forall_mem_cons.mpr ⟨⟨mb_4 (List.mem_of_getElem? (i := 75) rfl) rfl, by decide⟩, List.forall_mem_cons.mpr ⟨⟨mb_4 (List.mem_of_getElem? (i := 83) rfl) rfl, by decide⟩, List.forall_mem_cons.mpr ⟨⟨mb_4 (List.mem_of_getElem? (i := 86) rfl) rfl, by decide⟩, List.forall_mem_cons.mpr ⟨⟨mb_4 (List.mem_of_getElem? (i := 91) rfl) rfl, by decide⟩, List.forall_mem_cons.mpr ⟨⟨mb_4 (List.mem_of_getElem? (i := 154) rfl) rfl, by decide⟩, List.forall_mem_cons.mpr ⟨⟨mb_4 (List.mem_of_getElem? (i := 158) rfl) rfl, by decide⟩, List.forall_mem_cons.mpr ⟨⟨mb_4 (List.mem_of_getElem? (i := 171) rfl) rfl, by decide⟩, List.forall_mem_cons.mpr ⟨⟨mb_4 (List.mem_of_getElem? (i := 175) rfl) rfl, by decide⟩, List.forall_mem_cons.mpr ⟨⟨mb_3 (List.mem_of_getElem? (i := 201) rfl) rfl, by decide⟩, List.forall_mem_cons.mpr ⟨⟨mb_4 (List.mem_of_getElem? (i := 210) rfl) rfl, by decide⟩, List.forall_mem_cons.mpr ⟨⟨mb_4 (List.mem_of_getElem? (i := 213) rfl) rfl, by decide⟩, List.forall_mem_cons.mpr ⟨⟨mb_4 (List.mem_of_getElem? (i := 223) rfl) rfl, by decide⟩, List.forall_mem_cons.mpr ⟨⟨mb_4 (List.mem_of_getElem? (i := 227) rfl) rfl, by decide⟩, List.forall_mem_cons.mpr ⟨⟨mb_5 (List.mem_of_getElem? (i := 8) rfl) rfl, by decide⟩, List.forall_mem_cons.mpr ⟨⟨mb_5 (List.mem_of_getElem? (i := 19) rfl) rfl, by decide⟩, List.forall_mem_cons.mpr ⟨⟨mb_5 (List.mem_of_getElem? (i := 27) rfl) rfl, by decide⟩, List.forall_mem_cons.mpr ⟨⟨mb_5 (List.mem_of_getElem? (i := 32) rfl) rfl, by decide⟩, List.forall_mem_cons.mpr ⟨⟨mb_5 (List.mem_of_getElem? (i := 40) rfl) rfl, by decide⟩, List.forall_mem_cons.mpr ⟨⟨mb_5 (List.mem_of_getElem? (i := 52) rfl) rfl, by decide⟩, List.forall_mem_cons.mpr ⟨⟨mb_5 (List.mem_of_getElem? (i := 64) rfl) rfl, by decide⟩, List.forall_mem_cons.mpr ⟨⟨mb_5 (List.mem_of_getElem? (i := 70) rfl) rfl, by decide⟩, List.forall_mem_cons.mpr ⟨⟨mb_5 (List.mem_of_getElem? (i := 86) rfl) rfl, by decide⟩, List.forall_mem_cons.mpr ⟨⟨mb_5 (List.mem_of_getElem? (i := 91) rfl) rfl, by decide⟩, List.forall_mem_cons.mpr ⟨⟨mb_5 (List.mem_of_getElem? (i := 103) rfl) rfl, by decide⟩, List.forall_mem_cons.mpr ⟨⟨mb_5 (List.mem_of_getElem? (i := 107) rfl) rfl, by decide⟩, List.forall_mem_cons.mpr ⟨⟨mb_5 (List.mem_of_getElem? (i := 115) rfl) rfl, by decide⟩, List.forall_mem_cons.mpr ⟨⟨mb_5 (List.mem_of_getElem? (i := 121) rfl) rfl, by decide⟩, List.forall_mem_cons.mpr ⟨⟨mb_5 (List.mem_of_getElem? (i := 126) rfl) rfl, by decide⟩, List.forall_mem_cons.mpr ⟨⟨mb_5 (List.mem_of_getElem? (i := 130) rfl) rfl, by decide⟩, List.forall_mem_cons.mpr ⟨⟨mb_5 (List.mem_of_getElem? (i := 135) rfl) rfl, by decide⟩, fun _ h => absurd h List.not_mem_nil⟩⟩⟩⟩⟩⟩⟩⟩⟩⟩⟩⟩⟩⟩⟩⟩⟩⟩⟩⟩⟩⟩⟩⟩⟩⟩⟩⟩⟩⟩⟩⟩⟩⟩⟩⟩⟩⟩⟩⟩⟩⟩⟩⟩⟩⟩⟩⟩⟩⟩⟩⟩⟩⟩⟩⟩⟩⟩⟩⟩
set_option maxRecDepth 100000 in
theorem mx_M_w_3 : ∀ e ∈ mx_M_3, mwM e := List.forall_mem_cons.mpr ⟨⟨mb_5 (List.mem_of_getElem? (i := 140) rfl) rfl, by decide⟩, List.forall_mem_cons.mpr ⟨⟨mb_5 (List.mem_of_getElem? (i := 148) rfl) rfl, by decide⟩, List.forall_mem_cons.mpr ⟨⟨mb_2 (List.mem_of_getElem? (i := 237) rfl) rfl, by decide⟩, List.forall_mem_cons.mpr ⟨⟨mb_3 (List.mem_of_getElem? (i := 209) rfl) rfl, by decide⟩, List.forall_mem_cons.mpr ⟨⟨mb_3 (List.mem_of_getElem? (i := 227) rfl) rfl, by decide⟩, List.forall_mem_cons.mpr ⟨⟨mb_3 (List.mem_of_getElem? (i := 231) rfl) rfl, by decide⟩, List.forall_mem_cons.mpr ⟨⟨mb_4 (List.mem_of_getElem? (i := 95) rfl) rfl, by decide⟩, List.forall_mem_cons.mpr ⟨⟨mb_4 (List.mem_of_getElem? (i := 103) rfl) rfl, by decide⟩, List.forall_mem_cons.mpr ⟨⟨mb_4 (List.mem_of_getElem? (i := 143) rfl) rfl, by decide⟩, List.forall_mem_cons.mpr ⟨⟨mb_4 (List.mem_of_getElem? (i := 146) rfl) rfl, by decide⟩, List.forall_mem_cons.mpr ⟨⟨mb_5 (List.mem_of_getElem? (i := 74) rfl) rfl, by decide⟩, List.forall_mem_cons.mpr ⟨⟨mb_5 (List.mem_of_getElem? (i := 78) rfl) rfl, by decide⟩, List.forall_mem_cons.mpr ⟨⟨mb_5 (List.mem_of_getElem? (i := 163) rfl) rfl, by decide⟩, List.forall_mem_cons.mpr ⟨⟨mb_6 (List.mem_of_getElem? (i := 137) rfl) rfl, by decide⟩, List.forall_mem_cons.mpr ⟨⟨mb_6 (List.mem_of_getElem? (i := 140) rfl) rfl, by decide⟩, List.forall_mem_cons.mpr ⟨⟨mb_6 (List.mem_of_getElem? (i := 148) rfl) rfl, by decide⟩, List.forall_mem_cons.mpr ⟨⟨mb_6 (List.mem_of_getElem? (i := 152) rfl) rfl, by decide⟩, List.forall_mem_cons.mpr ⟨⟨mb_6 (List.mem_of_getElem? (i := 156) rfl) rfl, by decide⟩, List.forall_mem_cons.mpr ⟨⟨mb_6 (List.mem_of_getElem? (i := 164) rfl) rfl, by decide⟩, List.forall_mem_cons.mpr ⟨⟨mb_6 (List.mem_of_getElem? (i := 168) rfl) rfl, by decide⟩, List.forall_mem_cons.mpr ⟨⟨mb_6 (List.mem_of_getElem? (i := 171) rfl) rfl, by decide⟩, List.forall_mem_cons.mpr ⟨⟨mb_6 (List.mem_of_getElem? (i := 177) rfl) rfl, by decide⟩, List.forall_mem_cons.mpr ⟨⟨mb_6 (List.mem_of_getElem? (i := 185) rfl) rfl, by decide⟩, List.forall_mem_cons.mpr ⟨⟨mb_6 (List.mem_of_getElem? (i := 209) rfl) rfl, by decide⟩, List.forall_mem_cons.mpr ⟨⟨mb_6 (List.mem_of_getElem? (i := 213) rfl) rfl, by decide⟩, List.forall_mem_cons.mpr ⟨⟨mb_6 (List.mem_of_getElem? (i := 201) rfl) rfl, by decide⟩, List.forall_mem_cons.mpr ⟨⟨mb_6 (List.mem_of_getElem? (i := 205) rfl) rfl, by decide⟩, List.forall_mem_cons.mpr ⟨⟨mb_6 (List.mem_of_getElem? (i := 217) rfl) rfl, by decide⟩, List.forall_mem_cons.mpr ⟨⟨mb_6 (List.mem_of_getElem? (i := 221) rfl) rfl, by decide⟩, List.forall_mem_cons.mpr ⟨⟨mb_6 (List.mem_of_getElem? (i := 225) rfl) rfl, by decide⟩, List.forall_mem_cons.mpr ⟨⟨mb_6 (List.mem_of_getElem? (i := 229) rfl) rfl, by decide⟩, List.forall_mem_cons.mpr ⟨⟨mb_6 (List.mem_of_getElem? (i := 197) rfl) rfl, by decide⟩, List.forall_mem_cons.mpr ⟨⟨mb_7 (List.mem_of_getElem? (i := 6) rfl) rfl, by decide⟩, List.forall_mem_cons.mpr ⟨⟨mb_7 (List.mem_of_getElem? (i := 11) rfl) rfl, by decide⟩, List.forall_mem_cons.mpr ⟨⟨mb_7 (List.mem_of_getElem? (i := 14) rfl) rfl, by decide⟩, List.forall_mem_cons.mpr ⟨⟨mb_7 (List.mem_of_getElem? (i := 18) rfl) rfl, by decide⟩, List.forall_mem_cons.mpr ⟨⟨mb_7 (List.mem_of_getElem? (i := 21) rfl) rfl, by decide⟩, List.forall_mem_cons.mpr ⟨⟨mb_7 (List.mem_of_getElem? (i := 1) rfl) rfl, by decide⟩, List.forall_mem_cons.mpr ⟨⟨mb_7 (List.mem_of_getElem? (i := 73) rfl) rfl, by decide⟩, List.forall_mem_cons.mpr ⟨⟨mb_7 (List.mem_of_getElem? (i := 54) rfl) rfl, by decide⟩, List.forall_mem_cons.mpr ⟨⟨mb_7 (List.mem_of_getElem? (i := 58) rfl) rfl, by decide⟩, List.forall_mem_cons.mpr ⟨⟨mb_7 (List.mem_of_getElem? (i := 62) rfl) rfl, by decide⟩, List.forall_mem_cons.mpr ⟨⟨mb_7 (List.mem_of_getElem? (i := 65) rfl) rfl, by decide⟩, List.forall_mem_cons.mpr ⟨⟨mb_7 (List.mem_of_getElem? (i := 50) rfl) rfl, by decide⟩, List.forall_mem_cons.mpr ⟨⟨mb_7 (List.mem_of_getElem? (i := 69) rfl) rfl, by decide⟩, List.forall_mem_cons.mpr ⟨⟨mb_7 (List.mem_of_getElem? (i := 46) rfl) rfl, by decide⟩, List.forall_mem_cons.mpr ⟨⟨mb_7 (List.mem_of_getElem? (i := 101) rfl) rfl, by decide⟩, List.forall_mem_cons.mpr ⟨⟨mb_7 (List.mem_of_getElem? (i := 105) rfl) rfl, by decide⟩, List.forall_mem_cons.mpr ⟨⟨mb_7 (List.mem_of_getElem? (i := 97) rfl) rfl, by decide⟩, List.forall_mem_cons.mpr ⟨⟨mb_7 (List.mem_of_getElem? (i := 93) rfl) rfl, by decide⟩, List.forall_mem_cons.mpr ⟨⟨mb_7 (List.mem_of_getElem? (i := 109) rfl) rfl, by decide⟩, List.forall_mem_cons.mpr ⟨⟨mb_7 (List.mem_of_getElem? (i := 117) rfl) rfl, by decide⟩, List.forall_mem_cons.mpr ⟨⟨mb_7 (List.mem_of_getElem? (i := 113) rfl) rfl, by decide⟩, List.forall_mem_cons.mpr ⟨⟨mb_7 (List.mem_of_getElem? (i := 89) rfl) rfl, by decide⟩, List.forall_mem_cons.mpr ⟨⟨mb_7 (List.mem_of_getElem? (i := 121) rfl) rfl, by decide⟩, List.forall_mem_cons.mpr ⟨⟨mb_7 (List.mem_of_getElem? (i := 126) rfl) rfl, by decide⟩, List.forall_mem_cons.mpr ⟨⟨mb_7 (List.mem_of_getElem? (i := 42) rfl) rfl, by decide⟩, List.forall_mem_cons.mpr ⟨⟨mb_7 (List.mem_of_getElem? (i := 77) rfl) rfl, by decide⟩, List.forall_mem_cons.mpr ⟨⟨mb_7 (List.mem_of_getElem? (i := 85) rfl) rfl, by decide⟩, List.forall_mem_cons.mpr ⟨⟨mb_7 (List.mem_of_getElem? (i := 150) rfl) rfl, by decide⟩, fun _ h => absurd h List.not_mem_nil⟩⟩⟩⟩⟩⟩⟩⟩⟩⟩⟩⟩⟩⟩⟩⟩⟩⟩⟩⟩⟩⟩⟩⟩⟩⟩⟩⟩⟩⟩⟩⟩⟩⟩⟩⟩⟩⟩⟩⟩⟩⟩⟩⟩⟩⟩⟩⟩⟩⟩⟩⟩⟩⟩⟩⟩⟩⟩⟩⟩
set_option maxRecDepth 100000 in
theorem mx_M_w_4 : ∀ e ∈ mx_M_4, mwM e := List.forall_mem_cons.mpr ⟨⟨mb_7 (List.mem_of_getElem? (i := 146) rfl) rfl, by decide⟩, List.forall_mem_cons.mpr ⟨⟨mb_7 (List.mem_of_getElem? (i := 167) rfl) rfl, by decide⟩, List.forall_mem_cons.mpr ⟨⟨mb_7 (List.mem_of_getElem? (i := 171) rfl) rfl, by decide⟩, List.forall_mem_cons.mpr ⟨⟨mb_7 (List.mem_of_getElem? (i := 163) rfl) rfl, by decide⟩, List.forall_mem_cons.mpr ⟨⟨mb_7 (List.mem_of_getElem? (i := 175) rfl) rfl, by decide⟩, List.forall_mem_cons.mpr ⟨⟨mb_7 (List.mem_of_getElem? (i := 199) rfl) rfl, by decide⟩, List.forall_mem_cons.mpr ⟨⟨mb_7 (List.mem_of_getElem? (i := 224) rfl) rfl, by decide⟩, List.forall_mem_cons.mpr ⟨⟨mb_7 (List.mem_of_getElem? (i := 237) rfl) rfl, by decide⟩, List.forall_mem_cons.mpr ⟨⟨mb_8 (List.mem_of_getElem? (i := 1) rfl) rfl, by decide⟩, List.forall_mem_cons.mpr ⟨⟨mb_8 (List.mem_of_getElem? (i := 5) rfl) rfl, by decide⟩, List.forall_mem_cons.mpr ⟨⟨mb_7 (List.mem_of_getElem? (i := 233) rfl) rfl, by decide⟩, List.forall_mem_cons.mpr ⟨⟨mb_1 (List.mem_of_getElem? (i := 19) rfl) rfl, by decide⟩, List.forall_mem_cons.mpr ⟨⟨mb_5 (List.mem_of_getElem? (i := 160) rfl) rfl, by decide⟩, List.forall_mem_cons.mpr ⟨⟨mb_2 (List.mem_of_getElem? (i := 179) rfl) rfl, by decide⟩, List.forall_mem_cons.mpr ⟨⟨mb_6 (List.mem_of_getElem? (i := 133) rfl) rfl, by decide⟩, List.forall_mem_cons.mpr ⟨⟨mb_2 (List.mem_of_getElem? (i := 191) rfl) rfl, by decide⟩, List.forall_mem_cons.mpr ⟨⟨mb_6 (List.mem_of_getElem? (i := 144) rfl) rfl, by decide⟩, List.forall_mem_cons.mpr ⟨⟨mb_2 (List.mem_of_getElem? (i := 219) rfl) rfl, by decide⟩, List.forall_mem_cons.mpr ⟨⟨mb_6 (List.mem_of_getElem? (i := 160) rfl) rfl, by decide⟩, List.forall_mem_cons.mpr ⟨⟨mb_3 (List.mem_of_getElem? (i := 7) rfl) rfl, by decide⟩, List.forall_mem_cons.mpr ⟨⟨mb_6 (List.mem_of_getElem? (i := 181) rfl) rfl, by decide⟩, List.forall_mem_cons.mpr ⟨⟨mb_3 (List.mem_of_getElem? (i := 19) rfl) rfl, by decide⟩, List.forall_mem_cons.mpr ⟨⟨mb_6 (List.mem_of_getElem? (i := 189) rfl) rfl, by decide⟩, List.forall_mem_cons.mpr ⟨⟨mb_3 (List.mem_of_getElem? (i := 31) rfl) rfl, by decide⟩, List.forall_mem_cons.mpr ⟨⟨mb_6 (List.mem_of_getElem? (i := 193) rfl) rfl, by decide⟩, List.forall_mem_cons.mpr ⟨⟨mb_3 (List.mem_of_getElem? (i := 141) rfl) rfl, by decide⟩, List.forall_mem_cons.mpr ⟨⟨mb_6 (List.mem_of_getElem? (i := 233) rfl) rfl, by decide⟩, List.forall_mem_cons.mpr ⟨⟨mb_3 (List.mem_of_getElem? (i := 145) rfl) rfl, by decide⟩, List.forall_mem_cons.mpr ⟨⟨mb_6 (List.mem_of_getElem? (i := 237) rfl) rfl, by decide⟩, List.forall_mem_cons.mpr ⟨⟨mb_3 (List.mem_of_getElem? (i := 181) rfl) rfl, by decide⟩, List.forall_mem_cons.mpr ⟨⟨mb_7 (List.mem_of_getElem? (i := 25) rfl) rfl, by decide⟩, List.forall_mem_cons.mpr ⟨⟨mb_3 (List.mem_of_getElem? (i := 189) rfl) rfl, by decide⟩, List.forall_mem_cons.mpr ⟨⟨mb_7 (List.mem_of_getElem? (i := 29) rfl) rfl, by decide⟩, List.forall_mem_cons.mpr ⟨⟨mb_3 (List.mem_of_getElem? (i := 194) rfl) rfl, by decide⟩, List.forall_mem_cons.mpr ⟨⟨mb_7 (List.mem_of_getElem? (i := 34) rfl) rfl, by decide⟩, List.forall_mem_cons.mpr ⟨⟨mb_3 (List.mem_of_getElem? (i := 216) rfl) rfl, by decide⟩, List.forall_mem_cons.mpr ⟨⟨mb_7 (List.mem_of_getElem? (i := 38) rfl) rfl, by decide⟩, List.forall_mem_cons.mpr ⟨⟨mb_4 (List.mem_of_getElem? (i := 79) rfl) rfl, by decide⟩, List.forall_mem_cons.mpr ⟨⟨mb_7 (List.mem_of_getElem? (i := 81) rfl) rfl, by decide⟩, List.forall_mem_cons.mpr ⟨⟨mb_4 (List.mem_of_getElem? (i := 150) rfl) rfl, by decide⟩, List.forall_mem_cons.mpr ⟨⟨mb_7 (List.mem_of_getElem? (i := 130) rfl) rfl, by decide⟩, List.forall_mem_cons.mpr ⟨⟨mb_4 (List.mem_of_getElem? (i := 159) rfl) rfl, by decide⟩, List.forall_mem_cons.mpr ⟨⟨mb_7 (List.mem_of_getElem? (i := 134) rfl) rfl, by decide⟩, List.forall_mem_cons.mpr ⟨⟨mb_4 (List.mem_of_getElem? (i := 163) rfl) rfl, by decide⟩, List.forall_mem_cons.mpr ⟨⟨mb_7 (List.mem_of_getElem? (i := 138) rfl) rfl, by decide⟩, List.forall_mem_cons.mpr ⟨⟨mb_4 (List.mem_of_getElem? (i := 167) rfl) rfl, by decide⟩, List.forall_mem_cons.mpr ⟨⟨mb_7 (List.mem_of_getElem? (i := 142) rfl) rfl, by decide⟩, List.forall_mem_cons.mpr ⟨⟨mb_4 (List.mem_of_getElem? (i := 206) rfl) rfl, by decide⟩, List.forall_mem_cons.mpr ⟨⟨mb_7 (List.mem_of_getElem? (i := 154) rfl) rfl, by decide⟩, List.forall_mem_cons.mpr ⟨⟨mb_4 (List.mem_of_getElem? (i := 219) rfl) rfl, by decide⟩, List.forall_mem_cons.mpr ⟨⟨mb_7 (List.mem_of_getElem? (i := 158) rfl) rfl, by decide⟩, List.forall_mem_cons.mpr ⟨⟨mb_5 (List.mem_of_getElem? (i := 23) rfl) rfl, by decide⟩, List.forall_mem_cons.mpr ⟨⟨mb_7 (List.mem_of_getElem? (i := 179) rfl) rfl, by decide⟩, List.forall_mem_cons.mpr ⟨⟨mb_5 (List.mem_of_getElem? (i := 36) rfl) rfl, by decide⟩, List.forall_mem_cons.mpr ⟨⟨mb_7 (List.mem_of_getElem? (i := 183) rfl) rfl, by decide⟩, List.forall_mem_cons.mpr ⟨⟨mb_5 (List.mem_of_getElem? (i := 44) rfl) rfl, by decide⟩, List.forall_mem_cons.mpr ⟨⟨mb_7 (List.mem_of_getElem? (i := 187) rfl) rfl, by decide⟩, List.forall_mem_cons.mpr ⟨⟨mb_5 (List.mem_of_getElem? (i := 48) rfl) rfl, by decide⟩, List.forall_mem_cons.mpr ⟨⟨mb_7 (List.mem_of_getElem? (i := 191) rfl) rfl, by decide⟩, List.forall_mem_cons.mpr ⟨⟨mb_5 (List.mem_of_getElem? (i := 59) rfl) rfl, by decide⟩, fun _ h => absurd h List.not_mem_nil⟩⟩⟩⟩⟩⟩⟩⟩⟩⟩⟩⟩⟩⟩⟩⟩⟩⟩⟩⟩⟩⟩⟩⟩⟩⟩⟩⟩⟩⟩⟩⟩⟩⟩⟩⟩⟩⟩⟩⟩⟩⟩⟩⟩⟩⟩⟩⟩⟩⟩⟩⟩⟩⟩⟩⟩⟩⟩⟩⟩
set_option maxRecDepth 100000 in
theorem mx_M_w_5 : ∀ e ∈ mx_M_5, mwM e := List.forall_mem_cons.mpr ⟨⟨mb_7 (List.mem_of_getElem? (i := 195) rfl) rfl, by decide⟩, List.forall_mem_cons.mpr ⟨⟨mb_5 (List.mem_of_getElem? (i := 82) rfl) rfl, by decide⟩, List.forall_mem_cons.mpr ⟨⟨mb_7 (List.mem_of_getElem? (i := 203) rfl) rfl, by decide⟩, List.forall_mem_cons.mpr ⟨⟨mb_5 (List.mem_of_getElem? (i := 87) rfl) rfl, by decide⟩, List.forall_mem_cons.mpr ⟨⟨mb_7 (List.mem_of_getElem? (i := 207) rfl) rfl, by decide⟩, List.forall_mem_cons.mpr ⟨⟨mb_5 (List.mem_of_getElem? (i := 95) rfl) rfl, by decide⟩, List.forall_mem_cons.mpr ⟨⟨mb_7 (List.mem_of_getElem? (i := 211) rfl) rfl, by decide⟩, List.forall_mem_cons.mpr ⟨⟨mb_5 (List.mem_of_getElem? (i := 99) rfl) rfl, by decide⟩, List.forall_mem_cons.mpr ⟨⟨mb_7 (List.mem_of_getElem? (i := 215) rfl) rfl, by decide⟩, List.forall_mem_cons.mpr ⟨⟨mb_5 (List.mem_of_getElem? (i := 111) rfl) rfl, by decide⟩, List.forall_mem_cons.mpr ⟨⟨mb_7 (List.mem_of_getElem? (i := 220) rfl) rfl, by decide⟩, List.forall_mem_cons.mpr ⟨⟨mb_5 (List.mem_of_getElem? (i := 131) rfl) rfl, by decide⟩, List.forall_mem_cons.mpr ⟨⟨mb_7 (List.mem_of_getElem? (i := 229) rfl) rfl, by decide⟩, List.forall_mem_cons.mpr ⟨⟨mb_5 (List.mem_of_getElem? (i := 154) rfl) rfl, by decide⟩, List.forall_mem_cons.mpr ⟨⟨mb_8 (List.mem_of_getElem? (i := 9) rfl) rfl, by decide⟩, fun _ h => absurd h List.not_mem_nil⟩⟩⟩⟩⟩⟩⟩⟩⟩⟩⟩⟩⟩⟩⟩
theorem mx_M_w : ∀ e ∈ mx_M, mwM e := List.forall_mem_append.mpr ⟨mx_M_w_0, List.forall_mem_append.mpr ⟨mx_M_w_1, List.forall_mem_append.mpr ⟨mx_M_w_2, List.forall_mem_append.mpr ⟨mx_M_w_3, List.forall_mem_append.mpr ⟨mx_M_w_4, mx_M_w_5⟩⟩⟩⟩⟩
set_option maxRecDepth 100000 in
theorem mx_N_w_0 : ∀ e ∈ mx_N_0, mwN e := List.forall_mem_cons.mpr ⟨⟨ma_5 (List.mem_of_getElem? (i := 145) rfl), by decide⟩, List.forall_mem_cons.mpr ⟨⟨ma_5 (List.mem_of_getElem? (i := 146) rfl), by decide⟩, List.forall_mem_cons.mpr ⟨⟨ma_4 (List.mem_of_getElem? (i := 6) rfl), by decide⟩, List.forall_mem_cons.mpr ⟨⟨ma_4 (List.mem_of_getElem? (i := 18) rfl), by decide⟩, List.forall_mem_cons.mpr ⟨⟨ma_4 (List.mem_of_getElem? (i := 32) rfl), by decide⟩, List.forall_mem_cons.mpr ⟨⟨ma_4 (List.mem_of_getElem? (i := 24) rfl), by decide⟩, List.forall_mem_cons.mpr ⟨⟨ma_4 (List.mem_of_getElem? (i := 231) rfl), by decide⟩, List.forall_mem_cons.mpr ⟨⟨ma_4 (List.mem_of_getElem? (i := 232) rfl), by decide⟩, List.forall_mem_cons.mpr ⟨⟨ma_5 (List.mem_of_getElem? (i := 6) rfl), by decide⟩, List.forall_mem_cons.mpr ⟨⟨ma_5 (List.mem_of_getElem? (i := 7) rfl), by decide⟩, List.forall_mem_cons.mpr ⟨⟨ma_1 (List.mem_of_getElem? (i := 97) rfl), by decide⟩, List.forall_mem_cons.mpr ⟨⟨ma_5 (List.mem_of_getElem? (i := 68) rfl), by decide⟩, List.forall_mem_cons.mpr ⟨⟨ma_1 (List.mem_of_getElem? (i := 230) rfl), by decide⟩, List.forall_mem_cons.mpr ⟨⟨ma_4 (List.mem_of_getElem? (i := 99) rfl), by decide⟩, List.forall_mem_cons.mpr ⟨⟨ma_4 (List.mem_of_getElem? (i := 100) rfl), by decide⟩, List.forall_mem_cons.mpr ⟨⟨ma_4 (List.mem_of_getElem? (i := 101) rfl), by decide⟩, List.forall_mem_cons.mpr ⟨⟨ma_4 (List.mem_of_getElem? (i := 102) rfl), by decide⟩, List.forall_mem_cons.mpr ⟨⟨ma_5 (List.mem_of_getElem? (i := 152) rfl), by decide⟩, List.forall_mem_cons.mpr ⟨⟨ma_1 (List.mem_of_getElem? (i := 58) rfl), by decide⟩, fun _ h => absurd h List.not_mem_nil⟩⟩⟩⟩⟩⟩⟩⟩⟩⟩⟩⟩⟩⟩⟩⟩⟩⟩⟩
theorem mx_N_w : ∀ e ∈ mx_N, mwN e := mx_N_w_0
set_option maxRecDepth 100000 in
theorem mx_K_w_0 : ∀ e ∈ mx_K_0, mwK e := List.forall_mem_cons.mpr ⟨mb_2 (List.mem_of_getElem? (i := 77) rfl) rfl, List.forall_mem_cons.mpr ⟨mb_2 (List.mem_of_getElem? (i := 79) rfl) rfl, List.forall_mem_cons.mpr ⟨mb_2 (List.mem_of_getElem? (i := 81) rfl) rfl, List.forall_mem_cons.mpr ⟨mb_1 (List.mem_of_getElem? (i := 95) rfl) rfl, List.forall_mem_cons.mpr ⟨mb_1 (List.mem_of_getElem? (i := 117) rfl) rfl, List.forall_mem_cons.mpr ⟨mb_1 (List.mem_of_getElem? (i := 151) rfl) rfl, List.forall_mem_cons.mpr ⟨mb_1 (List.mem_of_getElem? (i := 228) rfl) rfl, List.forall_mem_cons.mpr ⟨mb_2 (List.mem_of_getElem? (i := 48) rfl) rfl, List.forall_mem_cons.mpr ⟨mb_1 (List.mem_of_getElem? (i := 25) rfl) rfl, List.forall_mem_cons.mpr ⟨mb_1 (List.mem_of_getElem? (i := 27) rfl) rfl, List.forall_mem_cons.mpr ⟨mb_1 (List.mem_of_getElem? (i := 54) rfl) rfl, List.forall_mem_cons.mpr ⟨mb_1 (List.mem_of_getElem? (i := 56) rfl) rfl, List.forall_mem_cons.mpr ⟨mb_1 (List.mem_of_getElem? (i := 222) rfl) rfl, List.forall_mem_cons.mpr ⟨mb_2 (List.mem_of_getElem? (i := 42) rfl) rfl, List.forall_mem_cons.mpr ⟨mb_1 (List.mem_of_getElem? (i := 17) rfl) rfl, List.forall_mem_cons.mpr ⟨mb_5 (List.mem_of_getElem? (i := 158) rfl) rfl, fun _ h => absurd h List.not_mem_nil⟩⟩⟩⟩⟩⟩⟩⟩⟩⟩⟩⟩⟩⟩⟩⟩
theorem mx_K_w : ∀ e ∈ mx_K, mwK e := mx_K_w_0
set_option maxRecDepth 100000 in
theorem mx_C_w_0 : ∀ e ∈ mx_C_0, mwC e := List.forall_mem_cons.mpr ⟨mb_3 (List.mem_of_getElem? (i := 161) rfl) rfl, List.forall_mem_cons.mpr ⟨mb_3 (List.mem_of_getElem? (i := 167) rfl) rfl, List.forall_mem_cons.mpr ⟨mb_3 (List.mem_of_getElem? (i := 168) rfl) rfl, List.forall_mem_cons.mpr ⟨mb_4 (List.mem_of_getElem? (i := 43) rfl) rfl, List.forall_mem_cons.mpr ⟨mb_3 (List.mem_of_getElem? (i := 73) rfl) rfl, List.forall_mem_cons.mpr ⟨mb_5 (List.mem_of_getElem? (i := 69) rfl) rfl, List.forall_mem_cons.mpr ⟨mb_5 (List.mem_of_getElem? (i := 56) rfl) rfl, List.forall_mem_cons.mpr ⟨mb_5 (List.mem_of_getElem? (i := 57) rfl) rfl, List.forall_mem_cons.mpr ⟨mb_4 (List.mem_of_getElem? (i := 73) rfl) rfl, List.forall_mem_cons.mpr ⟨mb_4 (List.mem_of_getElem? (i := 65) rfl) rfl, List.forall_mem_cons.mpr ⟨mb_4 (List.mem_of_getElem? (i := 67) rfl) rfl, List.forall_mem_cons.mpr ⟨mb_4 (List.mem_of_getElem? (i := 68) rfl) rfl, List.forall_mem_cons.mpr ⟨mb_1 (List.mem_of_getElem? (i := 62) rfl) rfl, List.forall_mem_cons.mpr ⟨mb_4 (List.mem_of_getElem? (i := 127) rfl) rfl, List.forall_mem_cons.mpr ⟨mb_4 (List.mem_of_getElem? (i := 128) rfl) rfl, List.forall_mem_cons.mpr ⟨mb_3 (List.mem_of_getElem? (i := 193) rfl) rfl, List.forall_mem_cons.mpr ⟨mb_2 (List.mem_of_getElem? (i := 236) rfl) rfl, List.forall_mem_cons.mpr ⟨mb_4 (List.mem_of_getElem? (i := 27) rfl) rfl, List.forall_mem_cons.mpr ⟨mb_5 (List.mem_of_getElem? (i := 63) rfl) rfl, List.forall_mem_cons.mpr ⟨mb_3 (List.mem_of_getElem? (i := 0) rfl) rfl, List.forall_mem_cons.mpr ⟨mb_3 (List.mem_of_getElem? (i := 1) rfl) rfl, List.forall_mem_cons.mpr ⟨mb_4 (List.mem_of_getElem? (i := 9) rfl) rfl, List.forall_mem_cons.mpr ⟨mb_5 (List.mem_of_getElem? (i := 129) rfl) rfl, List.forall_mem_cons.mpr ⟨mb_5 (List.mem_of_getElem? (i := 164) rfl) rfl, List.forall_mem_cons.mpr ⟨mb_6 (List.mem_of_getElem? (i := 175) rfl) rfl, List.forall_mem_cons.mpr ⟨mb_7 (List.mem_of_getElem? (i := 68) rfl) rfl, List.forall_mem_cons.mpr ⟨mb_7 (List.mem_of_getElem? (i := 17) rfl) rfl, List.forall_mem_cons.mpr ⟨mb_6 (List.mem_of_getElem? (i := 176) rfl) rfl, List.forall_mem_cons.mpr ⟨mb_6 (List.mem_of_getElem? (i := 174) rfl) rfl, List.forall_mem_cons.mpr ⟨mb_7 (List.mem_of_getElem? (i := 5) rfl) rfl, List.forall_mem_cons.mpr ⟨mb_7 (List.mem_of_getElem? (i := 125) rfl) rfl, List.forall_mem_cons.mpr ⟨mb_7 (List.mem_of_getElem? (i := 162) rfl) rfl, List.forall_mem_cons.mpr ⟨mb_7 (List.mem_of_getElem? (i := 219) rfl) rfl, fun _ h => absurd h List.not_mem_nil⟩⟩⟩⟩⟩⟩⟩⟩⟩⟩⟩⟩⟩⟩⟩⟩⟩⟩⟩⟩⟩⟩⟩⟩⟩⟩⟩⟩⟩⟩⟩⟩⟩
theorem mx_C_w : ∀ e ∈ mx_C, mwC e := mx_C_w_0
set_option maxRecDepth 100000 in
theorem mx_L_w_0 : ∀ e ∈ mx_L_0, mwL e := List.forall_mem_cons.mpr ⟨mb_3 (List.mem_of_getElem? (i := 160) rfl) rfl, List.forall_mem_cons.mpr ⟨mb_3 (List.mem_of_getElem? (i := 163) rfl) rfl, List.forall_mem_cons.mpr ⟨mb_3 (List.mem_of_getElem? (i := 159) rfl) rfl, List.forall_mem_cons.mpr ⟨mb_3 (List.mem_of_getElem? (i := 162) rfl) rfl, List.forall_mem_cons.mpr ⟨mb_7 (List.mem_of_getElem? (i := 10) rfl) rfl, List.forall_mem_cons.mpr ⟨mb_7 (List.mem_of_getElem? (i := 33) rfl) rfl, List.forall_mem_cons.mpr ⟨mb_7 (List.mem_of_getElem? (i := 228) rfl) rfl, List.forall_mem_cons.mpr ⟨mb_8 (List.mem_of_getElem? (i := 13) rfl) rfl, fun _ h => absurd h List.not_mem_nil⟩⟩⟩⟩⟩⟩⟩⟩
theorem mx_L_w : ∀ e ∈ mx_L, mwL e := mx_L_w_0
end
section
/-! what the tables say of a method -/
def mwR (r : mR) : Prop := Cond.code r.1 r.2.1 r.2.2.1 r.2.2.2.1 ∈ mTb ∧ Cond.initialized r.1.cls ∈ mTb ∧ (if r.2.2.2.2.2.2.1 = 1 then Cond.static r.1 ∈ mTb else Cond.instanceMethod r.1 ∈ mTb) ∧ (r.2.2.2.2.2.2.1 = 0 → Cond.selects r.1.cls r.1 r.1 ∈ mTb)
def mwS (r : mR) : Prop := r.1.cls = mm_cn r.2.2.2.2.1 ∧ plainName r.1.cls = true ∧ r.1.cls ≠ "java/lang/invoke/MethodHandle" ∧ r.1.cls ≠ "java/lang/invoke/VarHandle" ∧ (parseMethodDescriptor r.1.desc).map (fun d => d.parameters.length) = some (if r.2.2.2.2.2.2.1 = 1 then r.2.2.2.2.2.1 else r.2.2.2.2.2.1 - 1) ∧ (r.2.2.2.2.2.2.1 = 2 → r.1.name = "<init>" ∧ r.2.2.2.1 = none) ∧ (r.2.2.2.2.2.2.1 = 1 ∨ 1 ≤ r.2.2.2.2.2.1) ∧ r.2.2.1 ≤ 30 ∧ mBz r.2.2.2.1 < 4 ∧ r.2.2.2.2.2.2.1 ≤ 2
set_option maxRecDepth 100000 in
theorem mwR_0 : mwR mr_0 := ⟨mb_1 (List.mem_of_getElem? (i := 121) rfl) rfl, mb_1 (List.mem_of_getElem? (i := 7) rfl) rfl, mb_1 (List.mem_of_getElem? (i := 120) rfl) rfl, fun h => absurd h (by decide)⟩
set_option maxRecDepth 100000 in
theorem mwR_1 : mwR mr_1 := ⟨mb_3 (List.mem_of_getElem? (i := 5) rfl) rfl, mb_1 (List.mem_of_getElem? (i := 7) rfl) rfl, mb_3 (List.mem_of_getElem? (i := 3) rfl) rfl, fun _ => mb_3 (List.mem_of_getElem? (i := 4) rfl) rfl⟩
set_option maxRecDepth 100000 in
theorem mwR_2 : mwR mr_2 := ⟨mb_2 (List.mem_of_getElem? (i := 210) rfl) rfl, mb_1 (List.mem_of_getElem? (i := 7) rfl) rfl, mb_2 (List.mem_of_getElem? (i := 208) rfl) rfl, fun _ => mb_2 (List.mem_of_getElem? (i := 209) rfl) rfl⟩
set_option maxRecDepth 100000 in
theorem mwR_3 : mwR mr_3 := ⟨mb_3 (List.mem_of_getElem? (i := 26) rfl) rfl, mb_1 (List.mem_of_getElem? (i := 7) rfl) rfl, mb_3 (List.mem_of_getElem? (i := 24) rfl) rfl, fun _ => mb_3 (List.mem_of_getElem? (i := 25) rfl) rfl⟩
set_option maxRecDepth 100000 in
theorem mwR_4 : mwR mr_4 := ⟨mb_2 (List.mem_of_getElem? (i := 206) rfl) rfl, mb_1 (List.mem_of_getElem? (i := 7) rfl) rfl, mb_2 (List.mem_of_getElem? (i := 204) rfl) rfl, fun _ => mb_2 (List.mem_of_getElem? (i := 205) rfl) rfl⟩
set_option maxRecDepth 100000 in
theorem mwR_5 : mwR mr_5 := ⟨mb_3 (List.mem_of_getElem? (i := 77) rfl) rfl, mb_1 (List.mem_of_getElem? (i := 7) rfl) rfl, mb_3 (List.mem_of_getElem? (i := 75) rfl) rfl, fun _ => mb_3 (List.mem_of_getElem? (i := 76) rfl) rfl⟩
set_option maxRecDepth 100000 in
theorem mwR_6 : mwR mr_6 := ⟨mb_5 (List.mem_of_getElem? (i := 118) rfl) rfl, mb_1 (List.mem_of_getElem? (i := 7) rfl) rfl, mb_5 (List.mem_of_getElem? (i := 116) rfl) rfl, fun _ => mb_5 (List.mem_of_getElem? (i := 117) rfl) rfl⟩
set_option maxRecDepth 100000 in
theorem mwR_7 : mwR mr_7 := ⟨mb_5 (List.mem_of_getElem? (i := 143) rfl) rfl, mb_1 (List.mem_of_getElem? (i := 7) rfl) rfl, mb_5 (List.mem_of_getElem? (i := 141) rfl) rfl, fun _ => mb_5 (List.mem_of_getElem? (i := 142) rfl) rfl⟩
set_option maxRecDepth 100000 in
theorem mwR_8 : mwR mr_8 := ⟨mb_3 (List.mem_of_getElem? (i := 155) rfl) rfl, mb_1 (List.mem_of_getElem? (i := 15) rfl) rfl, mb_3 (List.mem_of_getElem? (i := 154) rfl) rfl, fun h => absurd h (by decide)⟩
set_option maxRecDepth 100000 in
theorem mwR_9 : mwR mr_9 := ⟨mb_3 (List.mem_of_getElem? (i := 166) rfl) rfl, mb_1 (List.mem_of_getElem? (i := 15) rfl) rfl, mb_3 (List.mem_of_getElem? (i := 165) rfl) rfl, fun h => absurd h (by decide)⟩
set_option maxRecDepth 100000 in
theorem mwR_10 : mwR mr_10 := ⟨mb_3 (List.mem_of_getElem? (i := 158) rfl) rfl, mb_1 (List.mem_of_getElem? (i := 15) rfl) rfl, mb_3 (List.mem_of_getElem? (i := 157) rfl) rfl, fun h => absurd h (by decide)⟩
set_option maxRecDepth 100000 in
theorem mwR_11 : mwR mr_11 := ⟨mb_4 (List.mem_of_getElem? (i := 5) rfl) rfl, mb_1 (List.mem_of_getElem? (i := 15) rfl) rfl, mb_4 (List.mem_of_getElem? (i := 4) rfl) rfl, fun h => absurd h (by decide)⟩
set_option maxRecDepth 100000 in
theorem mwR_12 : mwR mr_12 := ⟨mb_4 (List.mem_of_getElem? (i := 23) rfl) rfl, mb_1 (List.mem_of_getElem? (i := 15) rfl) rfl, mb_4 (List.mem_of_getElem? (i := 22) rfl) rfl, fun h => absurd h (by decide)⟩
set_option maxRecDepth 100000 in
theorem mwR_13 : mwR mr_13 := ⟨mb_4 (List.mem_of_getElem? (i := 17) rfl) rfl, mb_1 (List.mem_of_getElem? (i := 15) rfl) rfl, mb_4 (List.mem_of_getElem? (i := 16) rfl) rfl, fun h => absurd h (by decide)⟩
set_option maxRecDepth 100000 in
theorem mwR_14 : mwR mr_14 := ⟨mb_4 (List.mem_of_getElem? (i := 35) rfl) rfl, mb_1 (List.mem_of_getElem? (i := 15) rfl) rfl, mb_4 (List.mem_of_getElem? (i := 34) rfl) rfl, fun h => absurd h (by decide)⟩
set_option maxRecDepth 100000 in
theorem mwR_15 : mwR mr_15 := ⟨mb_4 (List.mem_of_getElem? (i := 38) rfl) rfl, mb_1 (List.mem_of_getElem? (i := 15) rfl) rfl, mb_4 (List.mem_of_getElem? (i := 37) rfl) rfl, fun h => absurd h (by decide)⟩
set_option maxRecDepth 100000 in
theorem mwR_16 : mwR mr_16 := ⟨mb_4 (List.mem_of_getElem? (i := 42) rfl) rfl, mb_1 (List.mem_of_getElem? (i := 15) rfl) rfl, mb_4 (List.mem_of_getElem? (i := 41) rfl) rfl, fun h => absurd h (by decide)⟩
set_option maxRecDepth 100000 in
theorem mwR_17 : mwR mr_17 := ⟨mb_1 (List.mem_of_getElem? (i := 232) rfl) rfl, mb_1 (List.mem_of_getElem? (i := 10) rfl) rfl, mb_1 (List.mem_of_getElem? (i := 231) rfl) rfl, fun h => absurd h (by decide)⟩
set_option maxRecDepth 100000 in
theorem mwR_18 : mwR mr_18 := ⟨mb_4 (List.mem_of_getElem? (i := 2) rfl) rfl, mb_1 (List.mem_of_getElem? (i := 10) rfl) rfl, mb_4 (List.mem_of_getElem? (i := 0) rfl) rfl, fun _ => mb_4 (List.mem_of_getElem? (i := 1) rfl) rfl⟩
set_option maxRecDepth 100000 in
theorem mwR_19 : mwR mr_19 := ⟨mb_4 (List.mem_of_getElem? (i := 14) rfl) rfl, mb_1 (List.mem_of_getElem? (i := 10) rfl) rfl, mb_4 (List.mem_of_getElem? (i := 12) rfl) rfl, fun _ => mb_4 (List.mem_of_getElem? (i := 13) rfl) rfl⟩
set_option maxRecDepth 100000 in
theorem mwR_20 : mwR mr_20 := ⟨mb_4 (List.mem_of_getElem? (i := 31) rfl) rfl, mb_1 (List.mem_of_getElem? (i := 10) rfl) rfl, mb_4 (List.mem_of_getElem? (i := 29) rfl) rfl, fun _ => mb_4 (List.mem_of_getElem? (i := 30) rfl) rfl⟩
set_option maxRecDepth 100000 in
theorem mwR_21 : mwR mr_21 := ⟨mb_4 (List.mem_of_getElem? (i := 60) rfl) rfl, mb_1 (List.mem_of_getElem? (i := 10) rfl) rfl, mb_4 (List.mem_of_getElem? (i := 58) rfl) rfl, fun _ => mb_4 (List.mem_of_getElem? (i := 59) rfl) rfl⟩
set_option maxRecDepth 100000 in
theorem mwR_22 : mwR mr_22 := ⟨mb_2 (List.mem_of_getElem? (i := 75) rfl) rfl, mb_1 (List.mem_of_getElem? (i := 12) rfl) rfl, mb_2 (List.mem_of_getElem? (i := 74) rfl) rfl, fun h => absurd h (by decide)⟩
set_option maxRecDepth 100000 in
theorem mwR_23 : mwR mr_23 := ⟨mb_4 (List.mem_of_getElem? (i := 216) rfl) rfl, mb_1 (List.mem_of_getElem? (i := 12) rfl) rfl, mb_4 (List.mem_of_getElem? (i := 214) rfl) rfl, fun _ => mb_4 (List.mem_of_getElem? (i := 215) rfl) rfl⟩
set_option maxRecDepth 100000 in
theorem mwR_24 : mwR mr_24 := ⟨mb_5 (List.mem_of_getElem? (i := 43) rfl) rfl, mb_1 (List.mem_of_getElem? (i := 12) rfl) rfl, mb_5 (List.mem_of_getElem? (i := 41) rfl) rfl, fun _ => mb_5 (List.mem_of_getElem? (i := 42) rfl) rfl⟩
set_option maxRecDepth 100000 in
theorem mwR_25 : mwR mr_25 := ⟨mb_5 (List.mem_of_getElem? (i := 5) rfl) rfl, mb_1 (List.mem_of_getElem? (i := 12) rfl) rfl, mb_5 (List.mem_of_getElem? (i := 4) rfl) rfl, fun _ => mb_0 (List.mem_of_getElem? (i := 44) rfl) rfl⟩
set_option maxRecDepth 100000 in
theorem mwR_26 : mwR mr_26 := ⟨mb_5 (List.mem_of_getElem? (i := 1) rfl) rfl, mb_1 (List.mem_of_getElem? (i := 12) rfl) rfl, mb_5 (List.mem_of_getElem? (i := 0) rfl) rfl, fun _ => mb_0 (List.mem_of_getElem? (i := 43) rfl) rfl⟩
set_option maxRecDepth 100000 in
theorem mwR_27 : mwR mr_27 := ⟨mb_5 (List.mem_of_getElem? (i := 11) rfl) rfl, mb_1 (List.mem_of_getElem? (i := 12) rfl) rfl, mb_5 (List.mem_of_getElem? (i := 9) rfl) rfl, fun _ => mb_5 (List.mem_of_getElem? (i := 10) rfl) rfl⟩
set_option maxRecDepth 100000 in
theorem mwR_28 : mwR mr_28 := ⟨mb_5 (List.mem_of_getElem? (i := 35) rfl) rfl, mb_1 (List.mem_of_getElem? (i := 12) rfl) rfl, mb_5 (List.mem_of_getElem? (i := 33) rfl) rfl, fun _ => mb_5 (List.mem_of_getElem? (i := 34) rfl) rfl⟩
set_option maxRecDepth 100000 in
theorem mwR_29 : mwR mr_29 := ⟨mb_5 (List.mem_of_getElem? (i := 15) rfl) rfl, mb_1 (List.mem_of_getElem? (i := 12) rfl) rfl, mb_5 (List.mem_of_getElem? (i := 14) rfl) rfl, fun _ => mb_0 (List.mem_of_getElem? (i := 45) rfl) rfl⟩
set_option maxRecDepth 100000 in
theorem mwR_30 : mwR mr_30 := ⟨mb_4 (List.mem_of_getElem? (i := 230) rfl) rfl, mb_1 (List.mem_of_getElem? (i := 12) rfl) rfl, mb_4 (List.mem_of_getElem? (i := 228) rfl) rfl, fun _ => mb_4 (List.mem_of_getElem? (i := 229) rfl) rfl⟩
set_option maxRecDepth 100000 in
theorem mwR_31 : mwR mr_31 := ⟨mb_5 (List.mem_of_getElem? (i := 30) rfl) rfl, mb_1 (List.mem_of_getElem? (i := 12) rfl) rfl, mb_5 (List.mem_of_getElem? (i := 28) rfl) rfl, fun _ => mb_5 (List.mem_of_getElem? (i := 29) rfl) rfl⟩
set_option maxRecDepth 100000 in
theorem mwR_32 : mwR mr_32 := ⟨mb_4 (List.mem_of_getElem? (i := 236) rfl) rfl, mb_1 (List.mem_of_getElem? (i := 12) rfl) rfl, mb_4 (List.mem_of_getElem? (i := 235) rfl) rfl, fun _ => mb_0 (List.mem_of_getElem? (i := 42) rfl) rfl⟩
set_option maxRecDepth 100000 in
theorem mwR_33 : mwR mr_33 := ⟨mb_1 (List.mem_of_getElem? (i := 93) rfl) rfl, mb_1 (List.mem_of_getElem? (i := 5) rfl) rfl, mb_1 (List.mem_of_getElem? (i := 92) rfl) rfl, fun h => absurd h (by decide)⟩
set_option maxRecDepth 100000 in
theorem mwR_34 : mwR mr_34 := ⟨mb_3 (List.mem_of_getElem? (i := 38) rfl) rfl, mb_1 (List.mem_of_getElem? (i := 5) rfl) rfl, mb_3 (List.mem_of_getElem? (i := 36) rfl) rfl, fun _ => mb_3 (List.mem_of_getElem? (i := 37) rfl) rfl⟩
set_option maxRecDepth 100000 in
theorem mwR_35 : mwR mr_35 := ⟨mb_3 (List.mem_of_getElem? (i := 68) rfl) rfl, mb_1 (List.mem_of_getElem? (i := 5) rfl) rfl, mb_3 (List.mem_of_getElem? (i := 67) rfl) rfl, fun h => absurd h (by decide)⟩
set_option maxRecDepth 100000 in
theorem mwR_36 : mwR mr_36 := ⟨mb_3 (List.mem_of_getElem? (i := 42) rfl) rfl, mb_1 (List.mem_of_getElem? (i := 5) rfl) rfl, mb_3 (List.mem_of_getElem? (i := 41) rfl) rfl, fun _ => mb_0 (List.mem_of_getElem? (i := 5) rfl) rfl⟩
set_option maxRecDepth 100000 in
theorem mwR_37 : mwR mr_37 := ⟨mb_3 (List.mem_of_getElem? (i := 65) rfl) rfl, mb_1 (List.mem_of_getElem? (i := 5) rfl) rfl, mb_3 (List.mem_of_getElem? (i := 64) rfl) rfl, fun _ => mb_0 (List.mem_of_getElem? (i := 10) rfl) rfl⟩
set_option maxRecDepth 100000 in
theorem mwR_38 : mwR mr_38 := ⟨mb_3 (List.mem_of_getElem? (i := 50) rfl) rfl, mb_1 (List.mem_of_getElem? (i := 5) rfl) rfl, mb_3 (List.mem_of_getElem? (i := 49) rfl) rfl, fun _ => mb_0 (List.mem_of_getElem? (i := 7) rfl) rfl⟩
set_option maxRecDepth 100000 in
theorem mwR_39 : mwR mr_39 := ⟨mb_3 (List.mem_of_getElem? (i := 61) rfl) rfl, mb_1 (List.mem_of_getElem? (i := 5) rfl) rfl, mb_3 (List.mem_of_getElem? (i := 60) rfl) rfl, fun _ => mb_0 (List.mem_of_getElem? (i := 9) rfl) rfl⟩
set_option maxRecDepth 100000 in
theorem mwR_40 : mwR mr_40 := ⟨mb_3 (List.mem_of_getElem? (i := 54) rfl) rfl, mb_1 (List.mem_of_getElem? (i := 5) rfl) rfl, mb_3 (List.mem_of_getElem? (i := 53) rfl) rfl, fun _ => mb_0 (List.mem_of_getElem? (i := 8) rfl) rfl⟩
set_option maxRecDepth 100000 in
theorem mwR_41 : mwR mr_41 := ⟨mb_3 (List.mem_of_getElem? (i := 46) rfl) rfl, mb_1 (List.mem_of_getElem? (i := 5) rfl) rfl, mb_3 (List.mem_of_getElem? (i := 45) rfl) rfl, fun _ => mb_0 (List.mem_of_getElem? (i := 6) rfl) rfl⟩
set_option maxRecDepth 100000 in
theorem mwR_42 : mwR mr_42 := ⟨mb_3 (List.mem_of_getElem? (i := 72) rfl) rfl, mb_1 (List.mem_of_getElem? (i := 5) rfl) rfl, mb_3 (List.mem_of_getElem? (i := 71) rfl) rfl, fun _ => mb_0 (List.mem_of_getElem? (i := 11) rfl) rfl⟩
set_option maxRecDepth 100000 in
theorem mwR_43 : mwR mr_43 := ⟨mb_3 (List.mem_of_getElem? (i := 81) rfl) rfl, mb_1 (List.mem_of_getElem? (i := 5) rfl) rfl, mb_3 (List.mem_of_getElem? (i := 80) rfl) rfl, fun _ => mb_0 (List.mem_of_getElem? (i := 12) rfl) rfl⟩
set_option maxRecDepth 100000 in
theorem mwR_44 : mwR mr_44 := ⟨mb_3 (List.mem_of_getElem? (i := 93) rfl) rfl, mb_1 (List.mem_of_getElem? (i := 5) rfl) rfl, mb_3 (List.mem_of_getElem? (i := 92) rfl) rfl, fun _ => mb_0 (List.mem_of_getElem? (i := 13) rfl) rfl⟩
set_option maxRecDepth 100000 in
theorem mwR_45 : mwR mr_45 := ⟨mb_3 (List.mem_of_getElem? (i := 101) rfl) rfl, mb_1 (List.mem_of_getElem? (i := 5) rfl) rfl, mb_3 (List.mem_of_getElem? (i := 99) rfl) rfl, fun _ => mb_3 (List.mem_of_getElem? (i := 100) rfl) rfl⟩
set_option maxRecDepth 100000 in
theorem mwR_46 : mwR mr_46 := ⟨mb_3 (List.mem_of_getElem? (i := 136) rfl) rfl, mb_1 (List.mem_of_getElem? (i := 5) rfl) rfl, mb_3 (List.mem_of_getElem? (i := 135) rfl) rfl, fun _ => mb_0 (List.mem_of_getElem? (i := 18) rfl) rfl⟩
set_option maxRecDepth 100000 in
theorem mwR_47 : mwR mr_47 := ⟨mb_3 (List.mem_of_getElem? (i := 140) rfl) rfl, mb_1 (List.mem_of_getElem? (i := 5) rfl) rfl, mb_3 (List.mem_of_getElem? (i := 139) rfl) rfl, fun _ => mb_0 (List.mem_of_getElem? (i := 19) rfl) rfl⟩
set_option maxRecDepth 100000 in
theorem mwR_48 : mwR mr_48 := ⟨mb_5 (List.mem_of_getElem? (i := 110) rfl) rfl, mb_1 (List.mem_of_getElem? (i := 5) rfl) rfl, mb_5 (List.mem_of_getElem? (i := 108) rfl) rfl, fun _ => mb_5 (List.mem_of_getElem? (i := 109) rfl) rfl⟩
set_option maxRecDepth 100000 in
theorem mwR_49 : mwR mr_49 := ⟨mb_3 (List.mem_of_getElem? (i := 176) rfl) rfl, mb_1 (List.mem_of_getElem? (i := 5) rfl) rfl, mb_3 (List.mem_of_getElem? (i := 175) rfl) rfl, fun _ => mb_0 (List.mem_of_getElem? (i := 21) rfl) rfl⟩
set_option maxRecDepth 100000 in
theorem mwR_50 : mwR mr_50 := ⟨mb_3 (List.mem_of_getElem? (i := 172) rfl) rfl, mb_1 (List.mem_of_getElem? (i := 5) rfl) rfl, mb_3 (List.mem_of_getElem? (i := 170) rfl) rfl, fun _ => mb_3 (List.mem_of_getElem? (i := 171) rfl) rfl⟩
set_option maxRecDepth 100000 in
theorem mwR_51 : mwR mr_51 := ⟨mb_3 (List.mem_of_getElem? (i := 180) rfl) rfl, mb_1 (List.mem_of_getElem? (i := 5) rfl) rfl, mb_3 (List.mem_of_getElem? (i := 178) rfl) rfl, fun _ => mb_3 (List.mem_of_getElem? (i := 179) rfl) rfl⟩
set_option maxRecDepth 100000 in
theorem mwR_52 : mwR mr_52 := ⟨mb_4 (List.mem_of_getElem? (i := 115) rfl) rfl, mb_1 (List.mem_of_getElem? (i := 5) rfl) rfl, mb_4 (List.mem_of_getElem? (i := 113) rfl) rfl, fun _ => mb_4 (List.mem_of_getElem? (i := 114) rfl) rfl⟩
set_option maxRecDepth 100000 in
theorem mwR_53 : mwR mr_53 := ⟨mb_5 (List.mem_of_getElem? (i := 67) rfl) rfl, mb_1 (List.mem_of_getElem? (i := 5) rfl) rfl, mb_5 (List.mem_of_getElem? (i := 65) rfl) rfl, fun _ => mb_5 (List.mem_of_getElem? (i := 66) rfl) rfl⟩
set_option maxRecDepth 100000 in
theorem mwR_54 : mwR mr_54 := ⟨mb_5 (List.mem_of_getElem? (i := 55) rfl) rfl, mb_1 (List.mem_of_getElem? (i := 5) rfl) rfl, mb_5 (List.mem_of_getElem? (i := 53) rfl) rfl, fun _ => mb_5 (List.mem_of_getElem? (i := 54) rfl) rfl⟩
set_option maxRecDepth 100000 in
theorem mwR_55 : mwR mr_55 := ⟨mb_3 (List.mem_of_getElem? (i := 238) rfl) rfl, mb_1 (List.mem_of_getElem? (i := 5) rfl) rfl, mb_3 (List.mem_of_getElem? (i := 236) rfl) rfl, fun _ => mb_3 (List.mem_of_getElem? (i := 237) rfl) rfl⟩
set_option maxRecDepth 100000 in
theorem mwR_56 : mwR mr_56 := ⟨mb_4 (List.mem_of_getElem? (i := 47) rfl) rfl, mb_1 (List.mem_of_getElem? (i := 5) rfl) rfl, mb_4 (List.mem_of_getElem? (i := 46) rfl) rfl, fun _ => mb_0 (List.mem_of_getElem? (i := 24) rfl) rfl⟩
set_option maxRecDepth 100000 in
theorem mwR_57 : mwR mr_57 := ⟨mb_4 (List.mem_of_getElem? (i := 51) rfl) rfl, mb_1 (List.mem_of_getElem? (i := 5) rfl) rfl, mb_4 (List.mem_of_getElem? (i := 50) rfl) rfl, fun _ => mb_0 (List.mem_of_getElem? (i := 25) rfl) rfl⟩
set_option maxRecDepth 100000 in
theorem mwR_58 : mwR mr_58 := ⟨mb_1 (List.mem_of_getElem? (i := 226) rfl) rfl, mb_1 (List.mem_of_getElem? (i := 9) rfl) rfl, mb_1 (List.mem_of_getElem? (i := 225) rfl) rfl, fun h => absurd h (by decide)⟩
set_option maxRecDepth 100000 in
theorem mwR_59 : mwR mr_59 := ⟨mb_3 (List.mem_of_getElem? (i := 230) rfl) rfl, mb_1 (List.mem_of_getElem? (i := 9) rfl) rfl, mb_3 (List.mem_of_getElem? (i := 228) rfl) rfl, fun _ => mb_3 (List.mem_of_getElem? (i := 229) rfl) rfl⟩
set_option maxRecDepth 100000 in
theorem mwR_60 : mwR mr_60 := ⟨mb_3 (List.mem_of_getElem? (i := 234) rfl) rfl, mb_1 (List.mem_of_getElem? (i := 9) rfl) rfl, mb_3 (List.mem_of_getElem? (i := 232) rfl) rfl, fun _ => mb_3 (List.mem_of_getElem? (i := 233) rfl) rfl⟩
set_option maxRecDepth 100000 in
theorem mwR_61 : mwR mr_61 := ⟨mb_4 (List.mem_of_getElem? (i := 72) rfl) rfl, mb_1 (List.mem_of_getElem? (i := 9) rfl) rfl, mb_4 (List.mem_of_getElem? (i := 71) rfl) rfl, fun _ => mb_0 (List.mem_of_getElem? (i := 26) rfl) rfl⟩
set_option maxRecDepth 100000 in
theorem mwR_62 : mwR mr_62 := ⟨mb_1 (List.mem_of_getElem? (i := 99) rfl) rfl, mb_1 (List.mem_of_getElem? (i := 6) rfl) rfl, mb_1 (List.mem_of_getElem? (i := 98) rfl) rfl, fun h => absurd h (by decide)⟩
set_option maxRecDepth 100000 in
theorem mwR_63 : mwR mr_63 := ⟨mb_3 (List.mem_of_getElem? (i := 127) rfl) rfl, mb_1 (List.mem_of_getElem? (i := 6) rfl) rfl, mb_3 (List.mem_of_getElem? (i := 126) rfl) rfl, fun h => absurd h (by decide)⟩
set_option maxRecDepth 100000 in
theorem mwR_64 : mwR mr_64 := ⟨mb_3 (List.mem_of_getElem? (i := 105) rfl) rfl, mb_1 (List.mem_of_getElem? (i := 6) rfl) rfl, mb_3 (List.mem_of_getElem? (i := 103) rfl) rfl, fun _ => mb_3 (List.mem_of_getElem? (i := 104) rfl) rfl⟩
set_option maxRecDepth 100000 in
theorem mwR_65 : mwR mr_65 := ⟨mb_3 (List.mem_of_getElem? (i := 115) rfl) rfl, mb_1 (List.mem_of_getElem? (i := 6) rfl) rfl, mb_3 (List.mem_of_getElem? (i := 114) rfl) rfl, fun h => absurd h (by decide)⟩
set_option maxRecDepth 100000 in
theorem mwR_66 : mwR mr_66 := ⟨mb_3 (List.mem_of_getElem? (i := 119) rfl) rfl, mb_1 (List.mem_of_getElem? (i := 6) rfl) rfl, mb_3 (List.mem_of_getElem? (i := 118) rfl) rfl, fun _ => mb_0 (List.mem_of_getElem? (i := 15) rfl) rfl⟩
set_option maxRecDepth 100000 in
theorem mwR_67 : mwR mr_67 := ⟨mb_3 (List.mem_of_getElem? (i := 109) rfl) rfl, mb_1 (List.mem_of_getElem? (i := 6) rfl) rfl, mb_3 (List.mem_of_getElem? (i := 108) rfl) rfl, fun _ => mb_0 (List.mem_of_getElem? (i := 14) rfl) rfl⟩
set_option maxRecDepth 100000 in
theorem mwR_68 : mwR mr_68 := ⟨mb_3 (List.mem_of_getElem? (i := 124) rfl) rfl, mb_1 (List.mem_of_getElem? (i := 6) rfl) rfl, mb_3 (List.mem_of_getElem? (i := 123) rfl) rfl, fun _ => mb_0 (List.mem_of_getElem? (i := 16) rfl) rfl⟩
set_option maxRecDepth 100000 in
theorem mwR_69 : mwR mr_69 := ⟨mb_3 (List.mem_of_getElem? (i := 131) rfl) rfl, mb_1 (List.mem_of_getElem? (i := 6) rfl) rfl, mb_3 (List.mem_of_getElem? (i := 130) rfl) rfl, fun _ => mb_0 (List.mem_of_getElem? (i := 17) rfl) rfl⟩
set_option maxRecDepth 100000 in
theorem mwR_70 : mwR mr_70 := ⟨mb_1 (List.mem_of_getElem? (i := 31) rfl) rfl, mb_1 (List.mem_of_getElem? (i := 2) rfl) rfl, mb_1 (List.mem_of_getElem? (i := 30) rfl) rfl, fun h => absurd h (by decide)⟩
set_option maxRecDepth 100000 in
theorem mwR_71 : mwR mr_71 := ⟨mb_3 (List.mem_of_getElem? (i := 204) rfl) rfl, mb_1 (List.mem_of_getElem? (i := 2) rfl) rfl, mb_3 (List.mem_of_getElem? (i := 202) rfl) rfl, fun _ => mb_3 (List.mem_of_getElem? (i := 203) rfl) rfl⟩
set_option maxRecDepth 100000 in
theorem mwR_72 : mwR mr_72 := ⟨mb_3 (List.mem_of_getElem? (i := 188) rfl) rfl, mb_1 (List.mem_of_getElem? (i := 2) rfl) rfl, mb_3 (List.mem_of_getElem? (i := 186) rfl) rfl, fun _ => mb_3 (List.mem_of_getElem? (i := 187) rfl) rfl⟩
set_option maxRecDepth 100000 in
theorem mwR_73 : mwR mr_73 := ⟨mb_3 (List.mem_of_getElem? (i := 212) rfl) rfl, mb_1 (List.mem_of_getElem? (i := 2) rfl) rfl, mb_3 (List.mem_of_getElem? (i := 210) rfl) rfl, fun _ => mb_3 (List.mem_of_getElem? (i := 211) rfl) rfl⟩
set_option maxRecDepth 100000 in
theorem mwR_74 : mwR mr_74 := ⟨mb_4 (List.mem_of_getElem? (i := 124) rfl) rfl, mb_1 (List.mem_of_getElem? (i := 2) rfl) rfl, mb_4 (List.mem_of_getElem? (i := 122) rfl) rfl, fun _ => mb_4 (List.mem_of_getElem? (i := 123) rfl) rfl⟩
set_option maxRecDepth 100000 in
theorem mwR_75 : mwR mr_75 := ⟨mb_4 (List.mem_of_getElem? (i := 64) rfl) rfl, mb_1 (List.mem_of_getElem? (i := 2) rfl) rfl, mb_4 (List.mem_of_getElem? (i := 62) rfl) rfl, fun _ => mb_4 (List.mem_of_getElem? (i := 63) rfl) rfl⟩
set_option maxRecDepth 100000 in
theorem mwR_76 : mwR mr_76 := ⟨mb_5 (List.mem_of_getElem? (i := 138) rfl) rfl, mb_1 (List.mem_of_getElem? (i := 2) rfl) rfl, mb_5 (List.mem_of_getElem? (i := 136) rfl) rfl, fun _ => mb_5 (List.mem_of_getElem? (i := 137) rfl) rfl⟩
set_option maxRecDepth 100000 in
theorem mwR_77 : mwR mr_77 := ⟨mb_4 (List.mem_of_getElem? (i := 54) rfl) rfl, mb_1 (List.mem_of_getElem? (i := 2) rfl) rfl, mb_4 (List.mem_of_getElem? (i := 53) rfl) rfl, fun h => absurd h (by decide)⟩
set_option maxRecDepth 100000 in
theorem mwR_78 : mwR mr_78 := ⟨mb_4 (List.mem_of_getElem? (i := 98) rfl) rfl, mb_1 (List.mem_of_getElem? (i := 2) rfl) rfl, mb_4 (List.mem_of_getElem? (i := 96) rfl) rfl, fun _ => mb_4 (List.mem_of_getElem? (i := 97) rfl) rfl⟩
set_option maxRecDepth 100000 in
theorem mwR_79 : mwR mr_79 := ⟨mb_5 (List.mem_of_getElem? (i := 81) rfl) rfl, mb_1 (List.mem_of_getElem? (i := 2) rfl) rfl, mb_5 (List.mem_of_getElem? (i := 79) rfl) rfl, fun _ => mb_5 (List.mem_of_getElem? (i := 80) rfl) rfl⟩
set_option maxRecDepth 100000 in
theorem mwR_80 : mwR mr_80 := ⟨mb_1 (List.mem_of_getElem? (i := 60) rfl) rfl, mb_1 (List.mem_of_getElem? (i := 4) rfl) rfl, mb_1 (List.mem_of_getElem? (i := 59) rfl) rfl, fun h => absurd h (by decide)⟩
set_option maxRecDepth 100000 in
theorem mwR_81 : mwR mr_81 := ⟨mb_4 (List.mem_of_getElem? (i := 141) rfl) rfl, mb_1 (List.mem_of_getElem? (i := 4) rfl) rfl, mb_4 (List.mem_of_getElem? (i := 140) rfl) rfl, fun _ => mb_0 (List.mem_of_getElem? (i := 32) rfl) rfl⟩
set_option maxRecDepth 100000 in
theorem mwR_82 : mwR mr_82 := ⟨mb_4 (List.mem_of_getElem? (i := 178) rfl) rfl, mb_1 (List.mem_of_getElem? (i := 4) rfl) rfl, mb_4 (List.mem_of_getElem? (i := 176) rfl) rfl, fun _ => mb_4 (List.mem_of_getElem? (i := 177) rfl) rfl⟩
set_option maxRecDepth 100000 in
theorem mwR_83 : mwR mr_83 := ⟨mb_4 (List.mem_of_getElem? (i := 182) rfl) rfl, mb_1 (List.mem_of_getElem? (i := 4) rfl) rfl, mb_4 (List.mem_of_getElem? (i := 181) rfl) rfl, fun _ => mb_0 (List.mem_of_getElem? (i := 35) rfl) rfl⟩
set_option maxRecDepth 100000 in
theorem mwR_84 : mwR mr_84 := ⟨mb_4 (List.mem_of_getElem? (i := 191) rfl) rfl, mb_1 (List.mem_of_getElem? (i := 4) rfl) rfl, mb_4 (List.mem_of_getElem? (i := 190) rfl) rfl, fun _ => mb_0 (List.mem_of_getElem? (i := 37) rfl) rfl⟩
set_option maxRecDepth 100000 in
theorem mwR_85 : mwR mr_85 := ⟨mb_4 (List.mem_of_getElem? (i := 186) rfl) rfl, mb_1 (List.mem_of_getElem? (i := 4) rfl) rfl, mb_4 (List.mem_of_getElem? (i := 185) rfl) rfl, fun _ => mb_0 (List.mem_of_getElem? (i := 36) rfl) rfl⟩
set_option maxRecDepth 100000 in
theorem mwR_86 : mwR mr_86 := ⟨mb_4 (List.mem_of_getElem? (i := 196) rfl) rfl, mb_1 (List.mem_of_getElem? (i := 4) rfl) rfl, mb_4 (List.mem_of_getElem? (i := 195) rfl) rfl, fun _ => mb_0 (List.mem_of_getElem? (i := 38) rfl) rfl⟩
set_option maxRecDepth 100000 in
theorem mwR_87 : mwR mr_87 := ⟨mb_4 (List.mem_of_getElem? (i := 201) rfl) rfl, mb_1 (List.mem_of_getElem? (i := 4) rfl) rfl, mb_4 (List.mem_of_getElem? (i := 200) rfl) rfl, fun _ => mb_0 (List.mem_of_getElem? (i := 39) rfl) rfl⟩
set_option maxRecDepth 100000 in
theorem mwR_88 : mwR mr_88 := ⟨mb_4 (List.mem_of_getElem? (i := 205) rfl) rfl, mb_1 (List.mem_of_getElem? (i := 4) rfl) rfl, mb_4 (List.mem_of_getElem? (i := 204) rfl) rfl, fun _ => mb_0 (List.mem_of_getElem? (i := 40) rfl) rfl⟩
set_option maxRecDepth 100000 in
theorem mwR_89 : mwR mr_89 := ⟨mb_4 (List.mem_of_getElem? (i := 137) rfl) rfl, mb_1 (List.mem_of_getElem? (i := 4) rfl) rfl, mb_4 (List.mem_of_getElem? (i := 135) rfl) rfl, fun _ => mb_4 (List.mem_of_getElem? (i := 136) rfl) rfl⟩
set_option maxRecDepth 100000 in
theorem mwR_90 : mwR mr_90 := ⟨mb_1 (List.mem_of_getElem? (i := 155) rfl) rfl, mb_1 (List.mem_of_getElem? (i := 8) rfl) rfl, mb_1 (List.mem_of_getElem? (i := 154) rfl) rfl, fun h => absurd h (by decide)⟩
set_option maxRecDepth 100000 in
theorem mwR_91 : mwR mr_91 := ⟨mb_3 (List.mem_of_getElem? (i := 17) rfl) rfl, mb_1 (List.mem_of_getElem? (i := 8) rfl) rfl, mb_3 (List.mem_of_getElem? (i := 15) rfl) rfl, fun _ => mb_3 (List.mem_of_getElem? (i := 16) rfl) rfl⟩
set_option maxRecDepth 100000 in
theorem mwR_92 : mwR mr_92 := ⟨mb_2 (List.mem_of_getElem? (i := 218) rfl) rfl, mb_1 (List.mem_of_getElem? (i := 8) rfl) rfl, mb_2 (List.mem_of_getElem? (i := 216) rfl) rfl, fun _ => mb_2 (List.mem_of_getElem? (i := 217) rfl) rfl⟩
set_option maxRecDepth 100000 in
theorem mwR_93 : mwR mr_93 := ⟨mb_3 (List.mem_of_getElem? (i := 30) rfl) rfl, mb_1 (List.mem_of_getElem? (i := 8) rfl) rfl, mb_3 (List.mem_of_getElem? (i := 28) rfl) rfl, fun _ => mb_3 (List.mem_of_getElem? (i := 29) rfl) rfl⟩
set_option maxRecDepth 100000 in
theorem mwR_94 : mwR mr_94 := ⟨mb_2 (List.mem_of_getElem? (i := 214) rfl) rfl, mb_1 (List.mem_of_getElem? (i := 8) rfl) rfl, mb_2 (List.mem_of_getElem? (i := 212) rfl) rfl, fun _ => mb_2 (List.mem_of_getElem? (i := 213) rfl) rfl⟩
set_option maxRecDepth 100000 in
theorem mwR_95 : mwR mr_95 := ⟨mb_3 (List.mem_of_getElem? (i := 85) rfl) rfl, mb_1 (List.mem_of_getElem? (i := 8) rfl) rfl, mb_3 (List.mem_of_getElem? (i := 83) rfl) rfl, fun _ => mb_3 (List.mem_of_getElem? (i := 84) rfl) rfl⟩
set_option maxRecDepth 100000 in
theorem mwR_96 : mwR mr_96 := ⟨mb_3 (List.mem_of_getElem? (i := 89) rfl) rfl, mb_1 (List.mem_of_getElem? (i := 8) rfl) rfl, mb_3 (List.mem_of_getElem? (i := 87) rfl) rfl, fun _ => mb_3 (List.mem_of_getElem? (i := 88) rfl) rfl⟩
set_option maxRecDepth 100000 in
theorem mwR_97 : mwR mr_97 := ⟨mb_3 (List.mem_of_getElem? (i := 97) rfl) rfl, mb_1 (List.mem_of_getElem? (i := 8) rfl) rfl, mb_3 (List.mem_of_getElem? (i := 95) rfl) rfl, fun _ => mb_3 (List.mem_of_getElem? (i := 96) rfl) rfl⟩
set_option maxRecDepth 100000 in
theorem mwR_98 : mwR mr_98 := ⟨mb_5 (List.mem_of_getElem? (i := 124) rfl) rfl, mb_1 (List.mem_of_getElem? (i := 8) rfl) rfl, mb_5 (List.mem_of_getElem? (i := 122) rfl) rfl, fun _ => mb_5 (List.mem_of_getElem? (i := 123) rfl) rfl⟩
set_option maxRecDepth 100000 in
theorem mwR_99 : mwR mr_99 := ⟨mb_5 (List.mem_of_getElem? (i := 151) rfl) rfl, mb_1 (List.mem_of_getElem? (i := 8) rfl) rfl, mb_5 (List.mem_of_getElem? (i := 149) rfl) rfl, fun _ => mb_5 (List.mem_of_getElem? (i := 150) rfl) rfl⟩
set_option maxRecDepth 100000 in
theorem mwR_100 : mwR mr_100 := ⟨mb_2 (List.mem_of_getElem? (i := 46) rfl) rfl, mb_1 (List.mem_of_getElem? (i := 11) rfl) rfl, mb_2 (List.mem_of_getElem? (i := 45) rfl) rfl, fun h => absurd h (by decide)⟩
set_option maxRecDepth 100000 in
theorem mwR_101 : mwR mr_101 := ⟨mb_4 (List.mem_of_getElem? (i := 89) rfl) rfl, mb_1 (List.mem_of_getElem? (i := 11) rfl) rfl, mb_4 (List.mem_of_getElem? (i := 87) rfl) rfl, fun _ => mb_4 (List.mem_of_getElem? (i := 88) rfl) rfl⟩
set_option maxRecDepth 100000 in
theorem mwR_102 : mwR mr_102 := ⟨mb_4 (List.mem_of_getElem? (i := 106) rfl) rfl, mb_1 (List.mem_of_getElem? (i := 11) rfl) rfl, mb_4 (List.mem_of_getElem? (i := 104) rfl) rfl, fun _ => mb_4 (List.mem_of_getElem? (i := 105) rfl) rfl⟩
set_option maxRecDepth 100000 in
theorem mwR_103 : mwR mr_103 := ⟨mb_4 (List.mem_of_getElem? (i := 149) rfl) rfl, mb_1 (List.mem_of_getElem? (i := 11) rfl) rfl, mb_4 (List.mem_of_getElem? (i := 147) rfl) rfl, fun _ => mb_4 (List.mem_of_getElem? (i := 148) rfl) rfl⟩
set_option maxRecDepth 100000 in
theorem mwR_104 : mwR mr_104 := ⟨mb_4 (List.mem_of_getElem? (i := 110) rfl) rfl, mb_1 (List.mem_of_getElem? (i := 11) rfl) rfl, mb_4 (List.mem_of_getElem? (i := 109) rfl) rfl, fun _ => mb_0 (List.mem_of_getElem? (i := 29) rfl) rfl⟩
set_option maxRecDepth 100000 in
theorem mwR_105 : mwR mr_105 := ⟨mb_4 (List.mem_of_getElem? (i := 119) rfl) rfl, mb_1 (List.mem_of_getElem? (i := 11) rfl) rfl, mb_4 (List.mem_of_getElem? (i := 118) rfl) rfl, fun _ => mb_0 (List.mem_of_getElem? (i := 30) rfl) rfl⟩
set_option maxRecDepth 100000 in
theorem mwR_106 : mwR mr_106 := ⟨mb_4 (List.mem_of_getElem? (i := 133) rfl) rfl, mb_1 (List.mem_of_getElem? (i := 11) rfl) rfl, mb_4 (List.mem_of_getElem? (i := 132) rfl) rfl, fun _ => mb_0 (List.mem_of_getElem? (i := 31) rfl) rfl⟩
set_option maxRecDepth 100000 in
theorem mwR_107 : mwR mr_107 := ⟨mb_1 (List.mem_of_getElem? (i := 21) rfl) rfl, mb_1 (List.mem_of_getElem? (i := 1) rfl) rfl, mb_1 (List.mem_of_getElem? (i := 20) rfl) rfl, fun h => absurd h (by decide)⟩
set_option maxRecDepth 100000 in
theorem mwR_108 : mwR mr_108 := ⟨mb_2 (List.mem_of_getElem? (i := 182) rfl) rfl, mb_1 (List.mem_of_getElem? (i := 1) rfl) rfl, mb_2 (List.mem_of_getElem? (i := 180) rfl) rfl, fun _ => mb_2 (List.mem_of_getElem? (i := 181) rfl) rfl⟩
set_option maxRecDepth 100000 in
theorem mwR_109 : mwR mr_109 := ⟨mb_2 (List.mem_of_getElem? (i := 194) rfl) rfl, mb_1 (List.mem_of_getElem? (i := 1) rfl) rfl, mb_2 (List.mem_of_getElem? (i := 192) rfl) rfl, fun _ => mb_2 (List.mem_of_getElem? (i := 193) rfl) rfl⟩
set_option maxRecDepth 100000 in
theorem mwR_110 : mwR mr_110 := ⟨mb_2 (List.mem_of_getElem? (i := 222) rfl) rfl, mb_1 (List.mem_of_getElem? (i := 1) rfl) rfl, mb_2 (List.mem_of_getElem? (i := 220) rfl) rfl, fun _ => mb_2 (List.mem_of_getElem? (i := 221) rfl) rfl⟩
set_option maxRecDepth 100000 in
theorem mwR_111 : mwR mr_111 := ⟨mb_3 (List.mem_of_getElem? (i := 10) rfl) rfl, mb_1 (List.mem_of_getElem? (i := 1) rfl) rfl, mb_3 (List.mem_of_getElem? (i := 8) rfl) rfl, fun _ => mb_3 (List.mem_of_getElem? (i := 9) rfl) rfl⟩
set_option maxRecDepth 100000 in
theorem mwR_112 : mwR mr_112 := ⟨mb_3 (List.mem_of_getElem? (i := 22) rfl) rfl, mb_1 (List.mem_of_getElem? (i := 1) rfl) rfl, mb_3 (List.mem_of_getElem? (i := 20) rfl) rfl, fun _ => mb_3 (List.mem_of_getElem? (i := 21) rfl) rfl⟩
set_option maxRecDepth 100000 in
theorem mwR_113 : mwR mr_113 := ⟨mb_3 (List.mem_of_getElem? (i := 34) rfl) rfl, mb_1 (List.mem_of_getElem? (i := 1) rfl) rfl, mb_3 (List.mem_of_getElem? (i := 32) rfl) rfl, fun _ => mb_3 (List.mem_of_getElem? (i := 33) rfl) rfl⟩
set_option maxRecDepth 100000 in
theorem mwR_114 : mwR mr_114 := ⟨mb_3 (List.mem_of_getElem? (i := 144) rfl) rfl, mb_1 (List.mem_of_getElem? (i := 1) rfl) rfl, mb_3 (List.mem_of_getElem? (i := 142) rfl) rfl, fun _ => mb_3 (List.mem_of_getElem? (i := 143) rfl) rfl⟩
set_option maxRecDepth 100000 in
theorem mwR_115 : mwR mr_115 := ⟨mb_3 (List.mem_of_getElem? (i := 148) rfl) rfl, mb_1 (List.mem_of_getElem? (i := 1) rfl) rfl, mb_3 (List.mem_of_getElem? (i := 146) rfl) rfl, fun _ => mb_3 (List.mem_of_getElem? (i := 147) rfl) rfl⟩
set_option maxRecDepth 100000 in
theorem mwR_116 : mwR mr_116 := ⟨mb_3 (List.mem_of_getElem? (i := 184) rfl) rfl, mb_1 (List.mem_of_getElem? (i := 1) rfl) rfl, mb_3 (List.mem_of_getElem? (i := 182) rfl) rfl, fun _ => mb_3 (List.mem_of_getElem? (i := 183) rfl) rfl⟩
set_option maxRecDepth 100000 in
theorem mwR_117 : mwR mr_117 := ⟨mb_3 (List.mem_of_getElem? (i := 192) rfl) rfl, mb_1 (List.mem_of_getElem? (i := 1) rfl) rfl, mb_3 (List.mem_of_getElem? (i := 190) rfl) rfl, fun _ => mb_3 (List.mem_of_getElem? (i := 191) rfl) rfl⟩
set_option maxRecDepth 100000 in
theorem mwR_118 : mwR mr_118 := ⟨mb_3 (List.mem_of_getElem? (i := 197) rfl) rfl, mb_1 (List.mem_of_getElem? (i := 1) rfl) rfl, mb_3 (List.mem_of_getElem? (i := 195) rfl) rfl, fun _ => mb_3 (List.mem_of_getElem? (i := 196) rfl) rfl⟩
set_option maxRecDepth 100000 in
theorem mwR_119 : mwR mr_119 := ⟨mb_3 (List.mem_of_getElem? (i := 219) rfl) rfl, mb_1 (List.mem_of_getElem? (i := 1) rfl) rfl, mb_3 (List.mem_of_getElem? (i := 217) rfl) rfl, fun _ => mb_3 (List.mem_of_getElem? (i := 218) rfl) rfl⟩
set_option maxRecDepth 100000 in
theorem mwR_120 : mwR mr_120 := ⟨mb_4 (List.mem_of_getElem? (i := 82) rfl) rfl, mb_1 (List.mem_of_getElem? (i := 1) rfl) rfl, mb_4 (List.mem_of_getElem? (i := 80) rfl) rfl, fun _ => mb_4 (List.mem_of_getElem? (i := 81) rfl) rfl⟩
set_option maxRecDepth 100000 in
theorem mwR_121 : mwR mr_121 := ⟨mb_4 (List.mem_of_getElem? (i := 153) rfl) rfl, mb_1 (List.mem_of_getElem? (i := 1) rfl) rfl, mb_4 (List.mem_of_getElem? (i := 151) rfl) rfl, fun _ => mb_4 (List.mem_of_getElem? (i := 152) rfl) rfl⟩
set_option maxRecDepth 100000 in
theorem mwR_122 : mwR mr_122 := ⟨mb_4 (List.mem_of_getElem? (i := 162) rfl) rfl, mb_1 (List.mem_of_getElem? (i := 1) rfl) rfl, mb_4 (List.mem_of_getElem? (i := 160) rfl) rfl, fun _ => mb_4 (List.mem_of_getElem? (i := 161) rfl) rfl⟩
set_option maxRecDepth 100000 in
theorem mwR_123 : mwR mr_123 := ⟨mb_4 (List.mem_of_getElem? (i := 166) rfl) rfl, mb_1 (List.mem_of_getElem? (i := 1) rfl) rfl, mb_4 (List.mem_of_getElem? (i := 164) rfl) rfl, fun _ => mb_4 (List.mem_of_getElem? (i := 165) rfl) rfl⟩
set_option maxRecDepth 100000 in
theorem mwR_124 : mwR mr_124 := ⟨mb_4 (List.mem_of_getElem? (i := 170) rfl) rfl, mb_1 (List.mem_of_getElem? (i := 1) rfl) rfl, mb_4 (List.mem_of_getElem? (i := 168) rfl) rfl, fun _ => mb_4 (List.mem_of_getElem? (i := 169) rfl) rfl⟩
set_option maxRecDepth 100000 in
theorem mwR_125 : mwR mr_125 := ⟨mb_4 (List.mem_of_getElem? (i := 209) rfl) rfl, mb_1 (List.mem_of_getElem? (i := 1) rfl) rfl, mb_4 (List.mem_of_getElem? (i := 207) rfl) rfl, fun _ => mb_4 (List.mem_of_getElem? (i := 208) rfl) rfl⟩
set_option maxRecDepth 100000 in
theorem mwR_126 : mwR mr_126 := ⟨mb_4 (List.mem_of_getElem? (i := 222) rfl) rfl, mb_1 (List.mem_of_getElem? (i := 1) rfl) rfl, mb_4 (List.mem_of_getElem? (i := 220) rfl) rfl, fun _ => mb_4 (List.mem_of_getElem? (i := 221) rfl) rfl⟩
set_option maxRecDepth 100000 in
theorem mwR_127 : mwR mr_127 := ⟨mb_5 (List.mem_of_getElem? (i := 26) rfl) rfl, mb_1 (List.mem_of_getElem? (i := 1) rfl) rfl, mb_5 (List.mem_of_getElem? (i := 24) rfl) rfl, fun _ => mb_5 (List.mem_of_getElem? (i := 25) rfl) rfl⟩
set_option maxRecDepth 100000 in
theorem mwR_128 : mwR mr_128 := ⟨mb_5 (List.mem_of_getElem? (i := 39) rfl) rfl, mb_1 (List.mem_of_getElem? (i := 1) rfl) rfl, mb_5 (List.mem_of_getElem? (i := 37) rfl) rfl, fun _ => mb_5 (List.mem_of_getElem? (i := 38) rfl) rfl⟩
set_option maxRecDepth 100000 in
theorem mwR_129 : mwR mr_129 := ⟨mb_5 (List.mem_of_getElem? (i := 47) rfl) rfl, mb_1 (List.mem_of_getElem? (i := 1) rfl) rfl, mb_5 (List.mem_of_getElem? (i := 45) rfl) rfl, fun _ => mb_5 (List.mem_of_getElem? (i := 46) rfl) rfl⟩
set_option maxRecDepth 100000 in
theorem mwR_130 : mwR mr_130 := ⟨mb_5 (List.mem_of_getElem? (i := 51) rfl) rfl, mb_1 (List.mem_of_getElem? (i := 1) rfl) rfl, mb_5 (List.mem_of_getElem? (i := 49) rfl) rfl, fun _ => mb_5 (List.mem_of_getElem? (i := 50) rfl) rfl⟩
set_option maxRecDepth 100000 in
theorem mwR_131 : mwR mr_131 := ⟨mb_5 (List.mem_of_getElem? (i := 62) rfl) rfl, mb_1 (List.mem_of_getElem? (i := 1) rfl) rfl, mb_5 (List.mem_of_getElem? (i := 60) rfl) rfl, fun _ => mb_5 (List.mem_of_getElem? (i := 61) rfl) rfl⟩
set_option maxRecDepth 100000 in
theorem mwR_132 : mwR mr_132 := ⟨mb_5 (List.mem_of_getElem? (i := 85) rfl) rfl, mb_1 (List.mem_of_getElem? (i := 1) rfl) rfl, mb_5 (List.mem_of_getElem? (i := 83) rfl) rfl, fun _ => mb_5 (List.mem_of_getElem? (i := 84) rfl) rfl⟩
set_option maxRecDepth 100000 in
theorem mwR_133 : mwR mr_133 := ⟨mb_5 (List.mem_of_getElem? (i := 90) rfl) rfl, mb_1 (List.mem_of_getElem? (i := 1) rfl) rfl, mb_5 (List.mem_of_getElem? (i := 88) rfl) rfl, fun _ => mb_5 (List.mem_of_getElem? (i := 89) rfl) rfl⟩
set_option maxRecDepth 100000 in
theorem mwR_134 : mwR mr_134 := ⟨mb_5 (List.mem_of_getElem? (i := 98) rfl) rfl, mb_1 (List.mem_of_getElem? (i := 1) rfl) rfl, mb_5 (List.mem_of_getElem? (i := 96) rfl) rfl, fun _ => mb_5 (List.mem_of_getElem? (i := 97) rfl) rfl⟩
set_option maxRecDepth 100000 in
theorem mwR_135 : mwR mr_135 := ⟨mb_5 (List.mem_of_getElem? (i := 102) rfl) rfl, mb_1 (List.mem_of_getElem? (i := 1) rfl) rfl, mb_5 (List.mem_of_getElem? (i := 100) rfl) rfl, fun _ => mb_5 (List.mem_of_getElem? (i := 101) rfl) rfl⟩
set_option maxRecDepth 100000 in
theorem mwR_136 : mwR mr_136 := ⟨mb_5 (List.mem_of_getElem? (i := 114) rfl) rfl, mb_1 (List.mem_of_getElem? (i := 1) rfl) rfl, mb_5 (List.mem_of_getElem? (i := 112) rfl) rfl, fun _ => mb_5 (List.mem_of_getElem? (i := 113) rfl) rfl⟩
set_option maxRecDepth 100000 in
theorem mwR_137 : mwR mr_137 := ⟨mb_5 (List.mem_of_getElem? (i := 134) rfl) rfl, mb_1 (List.mem_of_getElem? (i := 1) rfl) rfl, mb_5 (List.mem_of_getElem? (i := 132) rfl) rfl, fun _ => mb_5 (List.mem_of_getElem? (i := 133) rfl) rfl⟩
set_option maxRecDepth 100000 in
theorem mwR_138 : mwR mr_138 := ⟨mb_5 (List.mem_of_getElem? (i := 157) rfl) rfl, mb_1 (List.mem_of_getElem? (i := 1) rfl) rfl, mb_5 (List.mem_of_getElem? (i := 155) rfl) rfl, fun _ => mb_5 (List.mem_of_getElem? (i := 156) rfl) rfl⟩
set_option maxRecDepth 100000 in
theorem mwR_139 : mwR mr_139 := ⟨mb_2 (List.mem_of_getElem? (i := 186) rfl) rfl, mb_1 (List.mem_of_getElem? (i := 1) rfl) rfl, mb_2 (List.mem_of_getElem? (i := 185) rfl) rfl, fun _ => mb_0 (List.mem_of_getElem? (i := 0) rfl) rfl⟩
set_option maxRecDepth 100000 in
theorem mwR_140 : mwR mr_140 := ⟨mb_2 (List.mem_of_getElem? (i := 239) rfl) rfl, mb_1 (List.mem_of_getElem? (i := 1) rfl) rfl, mb_2 (List.mem_of_getElem? (i := 238) rfl) rfl, fun h => absurd h (by decide)⟩
set_option maxRecDepth 100000 in
theorem mwR_141 : mwR mr_141 := ⟨mb_4 (List.mem_of_getElem? (i := 20) rfl) rfl, mb_1 (List.mem_of_getElem? (i := 1) rfl) rfl, mb_4 (List.mem_of_getElem? (i := 19) rfl) rfl, fun h => absurd h (by decide)⟩
set_option maxRecDepth 100000 in
theorem mwR_142 : mwR mr_142 := ⟨mb_4 (List.mem_of_getElem? (i := 8) rfl) rfl, mb_1 (List.mem_of_getElem? (i := 1) rfl) rfl, mb_4 (List.mem_of_getElem? (i := 7) rfl) rfl, fun h => absurd h (by decide)⟩
set_option maxRecDepth 100000 in
theorem mwR_143 : mwR mr_143 := ⟨mb_4 (List.mem_of_getElem? (i := 26) rfl) rfl, mb_1 (List.mem_of_getElem? (i := 1) rfl) rfl, mb_4 (List.mem_of_getElem? (i := 25) rfl) rfl, fun h => absurd h (by decide)⟩
set_option maxRecDepth 100000 in
theorem mwR_144 : mwR mr_144 := ⟨mb_4 (List.mem_of_getElem? (i := 145) rfl) rfl, mb_1 (List.mem_of_getElem? (i := 1) rfl) rfl, mb_4 (List.mem_of_getElem? (i := 144) rfl) rfl, fun h => absurd h (by decide)⟩
set_option maxRecDepth 100000 in
theorem mwR_145 : mwR mr_145 := ⟨mb_2 (List.mem_of_getElem? (i := 235) rfl) rfl, mb_1 (List.mem_of_getElem? (i := 1) rfl) rfl, mb_2 (List.mem_of_getElem? (i := 234) rfl) rfl, fun h => absurd h (by decide)⟩
set_option maxRecDepth 100000 in
theorem mwR_146 : mwR mr_146 := ⟨mb_3 (List.mem_of_getElem? (i := 13) rfl) rfl, mb_1 (List.mem_of_getElem? (i := 1) rfl) rfl, mb_3 (List.mem_of_getElem? (i := 12) rfl) rfl, fun h => absurd h (by decide)⟩
set_option maxRecDepth 100000 in
theorem mwR_147 : mwR mr_147 := ⟨mb_2 (List.mem_of_getElem? (i := 232) rfl) rfl, mb_1 (List.mem_of_getElem? (i := 1) rfl) rfl, mb_2 (List.mem_of_getElem? (i := 231) rfl) rfl, fun h => absurd h (by decide)⟩
set_option maxRecDepth 100000 in
theorem mwR_148 : mwR mr_148 := ⟨mb_2 (List.mem_of_getElem? (i := 229) rfl) rfl, mb_1 (List.mem_of_getElem? (i := 1) rfl) rfl, mb_2 (List.mem_of_getElem? (i := 228) rfl) rfl, fun h => absurd h (by decide)⟩
set_option maxRecDepth 100000 in
theorem mwR_149 : mwR mr_149 := ⟨mb_3 (List.mem_of_getElem? (i := 222) rfl) rfl, mb_1 (List.mem_of_getElem? (i := 1) rfl) rfl, mb_3 (List.mem_of_getElem? (i := 221) rfl) rfl, fun h => absurd h (by decide)⟩
set_option maxRecDepth 100000 in
theorem mwR_150 : mwR mr_150 := ⟨mb_4 (List.mem_of_getElem? (i := 85) rfl) rfl, mb_1 (List.mem_of_getElem? (i := 1) rfl) rfl, mb_4 (List.mem_of_getElem? (i := 84) rfl) rfl, fun h => absurd h (by decide)⟩
set_option maxRecDepth 100000 in
theorem mwR_151 : mwR mr_151 := ⟨mb_4 (List.mem_of_getElem? (i := 212) rfl) rfl, mb_1 (List.mem_of_getElem? (i := 1) rfl) rfl, mb_4 (List.mem_of_getElem? (i := 211) rfl) rfl, fun h => absurd h (by decide)⟩
set_option maxRecDepth 100000 in
theorem mwR_152 : mwR mr_152 := ⟨mb_2 (List.mem_of_getElem? (i := 202) rfl) rfl, mb_1 (List.mem_of_getElem? (i := 1) rfl) rfl, mb_2 (List.mem_of_getElem? (i := 201) rfl) rfl, fun _ => mb_0 (List.mem_of_getElem? (i := 3) rfl) rfl⟩
set_option maxRecDepth 100000 in
theorem mwR_153 : mwR mr_153 := ⟨mb_2 (List.mem_of_getElem? (i := 190) rfl) rfl, mb_1 (List.mem_of_getElem? (i := 1) rfl) rfl, mb_2 (List.mem_of_getElem? (i := 189) rfl) rfl, fun _ => mb_0 (List.mem_of_getElem? (i := 1) rfl) rfl⟩
set_option maxRecDepth 100000 in
theorem mwR_154 : mwR mr_154 := ⟨mb_2 (List.mem_of_getElem? (i := 198) rfl) rfl, mb_1 (List.mem_of_getElem? (i := 1) rfl) rfl, mb_2 (List.mem_of_getElem? (i := 197) rfl) rfl, fun _ => mb_0 (List.mem_of_getElem? (i := 2) rfl) rfl⟩
set_option maxRecDepth 100000 in
theorem mwR_155 : mwR mr_155 := ⟨mb_2 (List.mem_of_getElem? (i := 226) rfl) rfl, mb_1 (List.mem_of_getElem? (i := 1) rfl) rfl, mb_2 (List.mem_of_getElem? (i := 225) rfl) rfl, fun _ => mb_0 (List.mem_of_getElem? (i := 4) rfl) rfl⟩
set_option maxRecDepth 100000 in
theorem mwR_156 : mwR mr_156 := ⟨mb_3 (List.mem_of_getElem? (i := 152) rfl) rfl, mb_1 (List.mem_of_getElem? (i := 1) rfl) rfl, mb_3 (List.mem_of_getElem? (i := 151) rfl) rfl, fun _ => mb_0 (List.mem_of_getElem? (i := 20) rfl) rfl⟩
set_option maxRecDepth 100000 in
theorem mwR_157 : mwR mr_157 := ⟨mb_4 (List.mem_of_getElem? (i := 157) rfl) rfl, mb_1 (List.mem_of_getElem? (i := 1) rfl) rfl, mb_4 (List.mem_of_getElem? (i := 156) rfl) rfl, fun _ => mb_0 (List.mem_of_getElem? (i := 33) rfl) rfl⟩
set_option maxRecDepth 100000 in
theorem mwR_158 : mwR mr_158 := ⟨mb_4 (List.mem_of_getElem? (i := 226) rfl) rfl, mb_1 (List.mem_of_getElem? (i := 1) rfl) rfl, mb_4 (List.mem_of_getElem? (i := 225) rfl) rfl, fun _ => mb_0 (List.mem_of_getElem? (i := 41) rfl) rfl⟩
set_option maxRecDepth 100000 in
theorem mwR_159 : mwR mr_159 := ⟨mb_3 (List.mem_of_getElem? (i := 200) rfl) rfl, mb_1 (List.mem_of_getElem? (i := 1) rfl) rfl, mb_3 (List.mem_of_getElem? (i := 199) rfl) rfl, fun h => absurd h (by decide)⟩
set_option maxRecDepth 100000 in
theorem mwR_160 : mwR mr_160 := ⟨mb_3 (List.mem_of_getElem? (i := 208) rfl) rfl, mb_1 (List.mem_of_getElem? (i := 1) rfl) rfl, mb_3 (List.mem_of_getElem? (i := 207) rfl) rfl, fun _ => mb_0 (List.mem_of_getElem? (i := 22) rfl) rfl⟩
set_option maxRecDepth 100000 in
theorem mwR_161 : mwR mr_161 := ⟨mb_4 (List.mem_of_getElem? (i := 78) rfl) rfl, mb_1 (List.mem_of_getElem? (i := 1) rfl) rfl, mb_4 (List.mem_of_getElem? (i := 77) rfl) rfl, fun _ => mb_0 (List.mem_of_getElem? (i := 27) rfl) rfl⟩
set_option maxRecDepth 100000 in
theorem mwR_162 : mwR mr_162 := ⟨mb_3 (List.mem_of_getElem? (i := 226) rfl) rfl, mb_1 (List.mem_of_getElem? (i := 1) rfl) rfl, mb_3 (List.mem_of_getElem? (i := 225) rfl) rfl, fun _ => mb_0 (List.mem_of_getElem? (i := 23) rfl) rfl⟩
set_option maxRecDepth 100000 in
theorem mwR_163 : mwR mr_163 := ⟨mb_5 (List.mem_of_getElem? (i := 94) rfl) rfl, mb_1 (List.mem_of_getElem? (i := 1) rfl) rfl, mb_5 (List.mem_of_getElem? (i := 93) rfl) rfl, fun _ => mb_0 (List.mem_of_getElem? (i := 49) rfl) rfl⟩
set_option maxRecDepth 100000 in
theorem mwR_164 : mwR mr_164 := ⟨mb_4 (List.mem_of_getElem? (i := 94) rfl) rfl, mb_1 (List.mem_of_getElem? (i := 1) rfl) rfl, mb_4 (List.mem_of_getElem? (i := 93) rfl) rfl, fun _ => mb_0 (List.mem_of_getElem? (i := 28) rfl) rfl⟩
set_option maxRecDepth 100000 in
theorem mwR_165 : mwR mr_165 := ⟨mb_5 (List.mem_of_getElem? (i := 106) rfl) rfl, mb_1 (List.mem_of_getElem? (i := 1) rfl) rfl, mb_5 (List.mem_of_getElem? (i := 105) rfl) rfl, fun _ => mb_0 (List.mem_of_getElem? (i := 50) rfl) rfl⟩
set_option maxRecDepth 100000 in
theorem mwR_166 : mwR mr_166 := ⟨mb_5 (List.mem_of_getElem? (i := 73) rfl) rfl, mb_1 (List.mem_of_getElem? (i := 1) rfl) rfl, mb_5 (List.mem_of_getElem? (i := 72) rfl) rfl, fun _ => mb_0 (List.mem_of_getElem? (i := 47) rfl) rfl⟩
set_option maxRecDepth 100000 in
theorem mwR_167 : mwR mr_167 := ⟨mb_5 (List.mem_of_getElem? (i := 77) rfl) rfl, mb_1 (List.mem_of_getElem? (i := 1) rfl) rfl, mb_5 (List.mem_of_getElem? (i := 76) rfl) rfl, fun _ => mb_0 (List.mem_of_getElem? (i := 48) rfl) rfl⟩
set_option maxRecDepth 100000 in
theorem mwR_168 : mwR mr_168 := ⟨mb_5 (List.mem_of_getElem? (i := 22) rfl) rfl, mb_1 (List.mem_of_getElem? (i := 1) rfl) rfl, mb_5 (List.mem_of_getElem? (i := 21) rfl) rfl, fun _ => mb_0 (List.mem_of_getElem? (i := 46) rfl) rfl⟩
set_option maxRecDepth 100000 in
theorem mwR_169 : mwR mr_169 := ⟨mb_4 (List.mem_of_getElem? (i := 174) rfl) rfl, mb_1 (List.mem_of_getElem? (i := 1) rfl) rfl, mb_4 (List.mem_of_getElem? (i := 173) rfl) rfl, fun _ => mb_0 (List.mem_of_getElem? (i := 34) rfl) rfl⟩
set_option maxRecDepth 100000 in
theorem mwR_170 : mwR mr_170 := ⟨mb_5 (List.mem_of_getElem? (i := 128) rfl) rfl, mb_1 (List.mem_of_getElem? (i := 1) rfl) rfl, mb_5 (List.mem_of_getElem? (i := 127) rfl) rfl, fun h => absurd h (by decide)⟩
set_option maxRecDepth 100000 in
theorem mwR_171 : mwR mr_171 := ⟨mb_5 (List.mem_of_getElem? (i := 162) rfl) rfl, mb_1 (List.mem_of_getElem? (i := 13) rfl) rfl, mb_5 (List.mem_of_getElem? (i := 161) rfl) rfl, fun h => absurd h (by decide)⟩
set_option maxRecDepth 100000 in
theorem mwR_172 : mwR mr_172 := ⟨mb_6 (List.mem_of_getElem? (i := 143) rfl) rfl, mb_1 (List.mem_of_getElem? (i := 13) rfl) rfl, mb_6 (List.mem_of_getElem? (i := 142) rfl) rfl, fun _ => mb_0 (List.mem_of_getElem? (i := 51) rfl) rfl⟩
set_option maxRecDepth 100000 in
theorem mwR_173 : mwR mr_173 := ⟨mb_6 (List.mem_of_getElem? (i := 139) rfl) rfl, mb_1 (List.mem_of_getElem? (i := 13) rfl) rfl, mb_6 (List.mem_of_getElem? (i := 138) rfl) rfl, fun h => absurd h (by decide)⟩
set_option maxRecDepth 100000 in
theorem mwR_174 : mwR mr_174 := ⟨mb_7 (List.mem_of_getElem? (i := 67) rfl) rfl, mb_1 (List.mem_of_getElem? (i := 13) rfl) rfl, mb_7 (List.mem_of_getElem? (i := 66) rfl) rfl, fun h => absurd h (by decide)⟩
set_option maxRecDepth 100000 in
theorem mwR_175 : mwR mr_175 := ⟨mb_7 (List.mem_of_getElem? (i := 64) rfl) rfl, mb_1 (List.mem_of_getElem? (i := 13) rfl) rfl, mb_7 (List.mem_of_getElem? (i := 63) rfl) rfl, fun h => absurd h (by decide)⟩
set_option maxRecDepth 100000 in
theorem mwR_176 : mwR mr_176 := ⟨mb_6 (List.mem_of_getElem? (i := 173) rfl) rfl, mb_1 (List.mem_of_getElem? (i := 13) rfl) rfl, mb_6 (List.mem_of_getElem? (i := 172) rfl) rfl, fun h => absurd h (by decide)⟩
set_option maxRecDepth 100000 in
theorem mwR_177 : mwR mr_177 := ⟨mb_6 (List.mem_of_getElem? (i := 151) rfl) rfl, mb_1 (List.mem_of_getElem? (i := 13) rfl) rfl, mb_6 (List.mem_of_getElem? (i := 150) rfl) rfl, fun _ => mb_0 (List.mem_of_getElem? (i := 52) rfl) rfl⟩
set_option maxRecDepth 100000 in
theorem mwR_178 : mwR mr_178 := ⟨mb_6 (List.mem_of_getElem? (i := 136) rfl) rfl, mb_1 (List.mem_of_getElem? (i := 13) rfl) rfl, mb_6 (List.mem_of_getElem? (i := 134) rfl) rfl, fun _ => mb_6 (List.mem_of_getElem? (i := 135) rfl) rfl⟩
set_option maxRecDepth 100000 in
theorem mwR_179 : mwR mr_179 := ⟨mb_6 (List.mem_of_getElem? (i := 155) rfl) rfl, mb_1 (List.mem_of_getElem? (i := 13) rfl) rfl, mb_6 (List.mem_of_getElem? (i := 154) rfl) rfl, fun _ => mb_0 (List.mem_of_getElem? (i := 53) rfl) rfl⟩
set_option maxRecDepth 100000 in
theorem mwR_180 : mwR mr_180 := ⟨mb_6 (List.mem_of_getElem? (i := 159) rfl) rfl, mb_1 (List.mem_of_getElem? (i := 13) rfl) rfl, mb_6 (List.mem_of_getElem? (i := 158) rfl) rfl, fun _ => mb_0 (List.mem_of_getElem? (i := 54) rfl) rfl⟩
set_option maxRecDepth 100000 in
theorem mwR_181 : mwR mr_181 := ⟨mb_6 (List.mem_of_getElem? (i := 147) rfl) rfl, mb_1 (List.mem_of_getElem? (i := 13) rfl) rfl, mb_6 (List.mem_of_getElem? (i := 145) rfl) rfl, fun _ => mb_6 (List.mem_of_getElem? (i := 146) rfl) rfl⟩
set_option maxRecDepth 100000 in
theorem mwR_182 : mwR mr_182 := ⟨mb_6 (List.mem_of_getElem? (i := 167) rfl) rfl, mb_1 (List.mem_of_getElem? (i := 13) rfl) rfl, mb_6 (List.mem_of_getElem? (i := 166) rfl) rfl, fun _ => mb_0 (List.mem_of_getElem? (i := 55) rfl) rfl⟩
set_option maxRecDepth 100000 in
theorem mwR_183 : mwR mr_183 := ⟨mb_6 (List.mem_of_getElem? (i := 170) rfl) rfl, mb_1 (List.mem_of_getElem? (i := 13) rfl) rfl, mb_6 (List.mem_of_getElem? (i := 169) rfl) rfl, fun h => absurd h (by decide)⟩
set_option maxRecDepth 100000 in
theorem mwR_184 : mwR mr_184 := ⟨mb_6 (List.mem_of_getElem? (i := 180) rfl) rfl, mb_1 (List.mem_of_getElem? (i := 13) rfl) rfl, mb_6 (List.mem_of_getElem? (i := 179) rfl) rfl, fun _ => mb_0 (List.mem_of_getElem? (i := 56) rfl) rfl⟩
set_option maxRecDepth 100000 in
theorem mwR_185 : mwR mr_185 := ⟨mb_6 (List.mem_of_getElem? (i := 188) rfl) rfl, mb_1 (List.mem_of_getElem? (i := 13) rfl) rfl, mb_6 (List.mem_of_getElem? (i := 187) rfl) rfl, fun _ => mb_0 (List.mem_of_getElem? (i := 57) rfl) rfl⟩
set_option maxRecDepth 100000 in
theorem mwR_186 : mwR mr_186 := ⟨mb_6 (List.mem_of_getElem? (i := 163) rfl) rfl, mb_1 (List.mem_of_getElem? (i := 13) rfl) rfl, mb_6 (List.mem_of_getElem? (i := 161) rfl) rfl, fun _ => mb_6 (List.mem_of_getElem? (i := 162) rfl) rfl⟩
set_option maxRecDepth 100000 in
theorem mwR_187 : mwR mr_187 := ⟨mb_6 (List.mem_of_getElem? (i := 184) rfl) rfl, mb_1 (List.mem_of_getElem? (i := 13) rfl) rfl, mb_6 (List.mem_of_getElem? (i := 182) rfl) rfl, fun _ => mb_6 (List.mem_of_getElem? (i := 183) rfl) rfl⟩
set_option maxRecDepth 100000 in
theorem mwR_188 : mwR mr_188 := ⟨mb_6 (List.mem_of_getElem? (i := 192) rfl) rfl, mb_1 (List.mem_of_getElem? (i := 13) rfl) rfl, mb_6 (List.mem_of_getElem? (i := 190) rfl) rfl, fun _ => mb_6 (List.mem_of_getElem? (i := 191) rfl) rfl⟩
set_option maxRecDepth 100000 in
theorem mwR_189 : mwR mr_189 := ⟨mb_6 (List.mem_of_getElem? (i := 204) rfl) rfl, mb_1 (List.mem_of_getElem? (i := 13) rfl) rfl, mb_6 (List.mem_of_getElem? (i := 203) rfl) rfl, fun _ => mb_0 (List.mem_of_getElem? (i := 59) rfl) rfl⟩
set_option maxRecDepth 100000 in
theorem mwR_190 : mwR mr_190 := ⟨mb_6 (List.mem_of_getElem? (i := 212) rfl) rfl, mb_1 (List.mem_of_getElem? (i := 13) rfl) rfl, mb_6 (List.mem_of_getElem? (i := 211) rfl) rfl, fun _ => mb_0 (List.mem_of_getElem? (i := 61) rfl) rfl⟩
set_option maxRecDepth 100000 in
theorem mwR_191 : mwR mr_191 := ⟨mb_6 (List.mem_of_getElem? (i := 216) rfl) rfl, mb_1 (List.mem_of_getElem? (i := 13) rfl) rfl, mb_6 (List.mem_of_getElem? (i := 215) rfl) rfl, fun _ => mb_0 (List.mem_of_getElem? (i := 62) rfl) rfl⟩
set_option maxRecDepth 100000 in
theorem mwR_192 : mwR mr_192 := ⟨mb_6 (List.mem_of_getElem? (i := 220) rfl) rfl, mb_1 (List.mem_of_getElem? (i := 13) rfl) rfl, mb_6 (List.mem_of_getElem? (i := 219) rfl) rfl, fun _ => mb_0 (List.mem_of_getElem? (i := 63) rfl) rfl⟩
set_option maxRecDepth 100000 in
theorem mwR_193 : mwR mr_193 := ⟨mb_6 (List.mem_of_getElem? (i := 208) rfl) rfl, mb_1 (List.mem_of_getElem? (i := 13) rfl) rfl, mb_6 (List.mem_of_getElem? (i := 207) rfl) rfl, fun _ => mb_0 (List.mem_of_getElem? (i := 60) rfl) rfl⟩
set_option maxRecDepth 100000 in
theorem mwR_194 : mwR mr_194 := ⟨mb_6 (List.mem_of_getElem? (i := 228) rfl) rfl, mb_1 (List.mem_of_getElem? (i := 13) rfl) rfl, mb_6 (List.mem_of_getElem? (i := 227) rfl) rfl, fun _ => mb_0 (List.mem_of_getElem? (i := 65) rfl) rfl⟩
set_option maxRecDepth 100000 in
theorem mwR_195 : mwR mr_195 := ⟨mb_6 (List.mem_of_getElem? (i := 232) rfl) rfl, mb_1 (List.mem_of_getElem? (i := 13) rfl) rfl, mb_6 (List.mem_of_getElem? (i := 231) rfl) rfl, fun _ => mb_0 (List.mem_of_getElem? (i := 66) rfl) rfl⟩
set_option maxRecDepth 100000 in
theorem mwR_196 : mwR mr_196 := ⟨mb_6 (List.mem_of_getElem? (i := 224) rfl) rfl, mb_1 (List.mem_of_getElem? (i := 13) rfl) rfl, mb_6 (List.mem_of_getElem? (i := 223) rfl) rfl, fun _ => mb_0 (List.mem_of_getElem? (i := 64) rfl) rfl⟩
set_option maxRecDepth 100000 in
theorem mwR_197 : mwR mr_197 := ⟨mb_6 (List.mem_of_getElem? (i := 200) rfl) rfl, mb_1 (List.mem_of_getElem? (i := 13) rfl) rfl, mb_6 (List.mem_of_getElem? (i := 199) rfl) rfl, fun _ => mb_0 (List.mem_of_getElem? (i := 58) rfl) rfl⟩
set_option maxRecDepth 100000 in
theorem mwR_198 : mwR mr_198 := ⟨mb_6 (List.mem_of_getElem? (i := 196) rfl) rfl, mb_1 (List.mem_of_getElem? (i := 13) rfl) rfl, mb_6 (List.mem_of_getElem? (i := 194) rfl) rfl, fun _ => mb_6 (List.mem_of_getElem? (i := 195) rfl) rfl⟩
set_option maxRecDepth 100000 in
theorem mwR_199 : mwR mr_199 := ⟨mb_6 (List.mem_of_getElem? (i := 236) rfl) rfl, mb_1 (List.mem_of_getElem? (i := 13) rfl) rfl, mb_6 (List.mem_of_getElem? (i := 234) rfl) rfl, fun _ => mb_6 (List.mem_of_getElem? (i := 235) rfl) rfl⟩
set_option maxRecDepth 100000 in
theorem mwR_200 : mwR mr_200 := ⟨mb_7 (List.mem_of_getElem? (i := 9) rfl) rfl, mb_1 (List.mem_of_getElem? (i := 13) rfl) rfl, mb_7 (List.mem_of_getElem? (i := 8) rfl) rfl, fun _ => mb_0 (List.mem_of_getElem? (i := 68) rfl) rfl⟩
set_option maxRecDepth 100000 in
theorem mwR_201 : mwR mr_201 := ⟨mb_7 (List.mem_of_getElem? (i := 4) rfl) rfl, mb_1 (List.mem_of_getElem? (i := 13) rfl) rfl, mb_7 (List.mem_of_getElem? (i := 3) rfl) rfl, fun _ => mb_0 (List.mem_of_getElem? (i := 67) rfl) rfl⟩
set_option maxRecDepth 100000 in
theorem mwR_202 : mwR mr_202 := ⟨mb_7 (List.mem_of_getElem? (i := 13) rfl) rfl, mb_1 (List.mem_of_getElem? (i := 13) rfl) rfl, mb_7 (List.mem_of_getElem? (i := 12) rfl) rfl, fun h => absurd h (by decide)⟩
set_option maxRecDepth 100000 in
theorem mwR_203 : mwR mr_203 := ⟨mb_7 (List.mem_of_getElem? (i := 16) rfl) rfl, mb_1 (List.mem_of_getElem? (i := 13) rfl) rfl, mb_7 (List.mem_of_getElem? (i := 15) rfl) rfl, fun h => absurd h (by decide)⟩
set_option maxRecDepth 100000 in
theorem mwR_204 : mwR mr_204 := ⟨mb_7 (List.mem_of_getElem? (i := 20) rfl) rfl, mb_1 (List.mem_of_getElem? (i := 13) rfl) rfl, mb_7 (List.mem_of_getElem? (i := 19) rfl) rfl, fun h => absurd h (by decide)⟩
set_option maxRecDepth 100000 in
theorem mwR_205 : mwR mr_205 := ⟨mb_7 (List.mem_of_getElem? (i := 24) rfl) rfl, mb_1 (List.mem_of_getElem? (i := 13) rfl) rfl, mb_7 (List.mem_of_getElem? (i := 23) rfl) rfl, fun _ => mb_0 (List.mem_of_getElem? (i := 69) rfl) rfl⟩
set_option maxRecDepth 100000 in
theorem mwR_206 : mwR mr_206 := ⟨mb_7 (List.mem_of_getElem? (i := 0) rfl) rfl, mb_1 (List.mem_of_getElem? (i := 13) rfl) rfl, mb_6 (List.mem_of_getElem? (i := 238) rfl) rfl, fun _ => mb_6 (List.mem_of_getElem? (i := 239) rfl) rfl⟩
set_option maxRecDepth 100000 in
theorem mwR_207 : mwR mr_207 := ⟨mb_7 (List.mem_of_getElem? (i := 28) rfl) rfl, mb_1 (List.mem_of_getElem? (i := 13) rfl) rfl, mb_7 (List.mem_of_getElem? (i := 26) rfl) rfl, fun _ => mb_7 (List.mem_of_getElem? (i := 27) rfl) rfl⟩
set_option maxRecDepth 100000 in
theorem mwR_208 : mwR mr_208 := ⟨mb_7 (List.mem_of_getElem? (i := 32) rfl) rfl, mb_1 (List.mem_of_getElem? (i := 13) rfl) rfl, mb_7 (List.mem_of_getElem? (i := 30) rfl) rfl, fun _ => mb_7 (List.mem_of_getElem? (i := 31) rfl) rfl⟩
set_option maxRecDepth 100000 in
theorem mwR_209 : mwR mr_209 := ⟨mb_7 (List.mem_of_getElem? (i := 37) rfl) rfl, mb_1 (List.mem_of_getElem? (i := 13) rfl) rfl, mb_7 (List.mem_of_getElem? (i := 35) rfl) rfl, fun _ => mb_7 (List.mem_of_getElem? (i := 36) rfl) rfl⟩
set_option maxRecDepth 100000 in
theorem mwR_210 : mwR mr_210 := ⟨mb_7 (List.mem_of_getElem? (i := 76) rfl) rfl, mb_1 (List.mem_of_getElem? (i := 13) rfl) rfl, mb_7 (List.mem_of_getElem? (i := 75) rfl) rfl, fun _ => mb_0 (List.mem_of_getElem? (i := 76) rfl) rfl⟩
set_option maxRecDepth 100000 in
theorem mwR_211 : mwR mr_211 := ⟨mb_7 (List.mem_of_getElem? (i := 72) rfl) rfl, mb_1 (List.mem_of_getElem? (i := 13) rfl) rfl, mb_7 (List.mem_of_getElem? (i := 71) rfl) rfl, fun _ => mb_0 (List.mem_of_getElem? (i := 75) rfl) rfl⟩
set_option maxRecDepth 100000 in
theorem mwR_212 : mwR mr_212 := ⟨mb_7 (List.mem_of_getElem? (i := 53) rfl) rfl, mb_1 (List.mem_of_getElem? (i := 13) rfl) rfl, mb_7 (List.mem_of_getElem? (i := 52) rfl) rfl, fun _ => mb_0 (List.mem_of_getElem? (i := 72) rfl) rfl⟩
set_option maxRecDepth 100000 in
theorem mwR_213 : mwR mr_213 := ⟨mb_7 (List.mem_of_getElem? (i := 61) rfl) rfl, mb_1 (List.mem_of_getElem? (i := 13) rfl) rfl, mb_7 (List.mem_of_getElem? (i := 60) rfl) rfl, fun _ => mb_0 (List.mem_of_getElem? (i := 74) rfl) rfl⟩
set_option maxRecDepth 100000 in
theorem mwR_214 : mwR mr_214 := ⟨mb_7 (List.mem_of_getElem? (i := 57) rfl) rfl, mb_1 (List.mem_of_getElem? (i := 13) rfl) rfl, mb_7 (List.mem_of_getElem? (i := 56) rfl) rfl, fun _ => mb_0 (List.mem_of_getElem? (i := 73) rfl) rfl⟩
set_option maxRecDepth 100000 in
theorem mwR_215 : mwR mr_215 := ⟨mb_7 (List.mem_of_getElem? (i := 49) rfl) rfl, mb_1 (List.mem_of_getElem? (i := 13) rfl) rfl, mb_7 (List.mem_of_getElem? (i := 48) rfl) rfl, fun _ => mb_0 (List.mem_of_getElem? (i := 71) rfl) rfl⟩
set_option maxRecDepth 100000 in
theorem mwR_216 : mwR mr_216 := ⟨mb_7 (List.mem_of_getElem? (i := 45) rfl) rfl, mb_1 (List.mem_of_getElem? (i := 13) rfl) rfl, mb_7 (List.mem_of_getElem? (i := 44) rfl) rfl, fun _ => mb_0 (List.mem_of_getElem? (i := 70) rfl) rfl⟩
set_option maxRecDepth 100000 in
theorem mwR_217 : mwR mr_217 := ⟨mb_7 (List.mem_of_getElem? (i := 104) rfl) rfl, mb_1 (List.mem_of_getElem? (i := 13) rfl) rfl, mb_7 (List.mem_of_getElem? (i := 103) rfl) rfl, fun _ => mb_0 (List.mem_of_getElem? (i := 82) rfl) rfl⟩
set_option maxRecDepth 100000 in
theorem mwR_218 : mwR mr_218 := ⟨mb_7 (List.mem_of_getElem? (i := 108) rfl) rfl, mb_1 (List.mem_of_getElem? (i := 13) rfl) rfl, mb_7 (List.mem_of_getElem? (i := 107) rfl) rfl, fun _ => mb_0 (List.mem_of_getElem? (i := 83) rfl) rfl⟩
set_option maxRecDepth 100000 in
theorem mwR_219 : mwR mr_219 := ⟨mb_7 (List.mem_of_getElem? (i := 100) rfl) rfl, mb_1 (List.mem_of_getElem? (i := 13) rfl) rfl, mb_7 (List.mem_of_getElem? (i := 99) rfl) rfl, fun _ => mb_0 (List.mem_of_getElem? (i := 81) rfl) rfl⟩
set_option maxRecDepth 100000 in
theorem mwR_220 : mwR mr_220 := ⟨mb_7 (List.mem_of_getElem? (i := 96) rfl) rfl, mb_1 (List.mem_of_getElem? (i := 13) rfl) rfl, mb_7 (List.mem_of_getElem? (i := 95) rfl) rfl, fun _ => mb_0 (List.mem_of_getElem? (i := 80) rfl) rfl⟩
set_option maxRecDepth 100000 in
theorem mwR_221 : mwR mr_221 := ⟨mb_7 (List.mem_of_getElem? (i := 116) rfl) rfl, mb_1 (List.mem_of_getElem? (i := 13) rfl) rfl, mb_7 (List.mem_of_getElem? (i := 115) rfl) rfl, fun _ => mb_0 (List.mem_of_getElem? (i := 85) rfl) rfl⟩
set_option maxRecDepth 100000 in
theorem mwR_222 : mwR mr_222 := ⟨mb_7 (List.mem_of_getElem? (i := 92) rfl) rfl, mb_1 (List.mem_of_getElem? (i := 13) rfl) rfl, mb_7 (List.mem_of_getElem? (i := 91) rfl) rfl, fun _ => mb_0 (List.mem_of_getElem? (i := 79) rfl) rfl⟩
set_option maxRecDepth 100000 in
theorem mwR_223 : mwR mr_223 := ⟨mb_7 (List.mem_of_getElem? (i := 112) rfl) rfl, mb_1 (List.mem_of_getElem? (i := 13) rfl) rfl, mb_7 (List.mem_of_getElem? (i := 111) rfl) rfl, fun _ => mb_0 (List.mem_of_getElem? (i := 84) rfl) rfl⟩
set_option maxRecDepth 100000 in
theorem mwR_224 : mwR mr_224 := ⟨mb_7 (List.mem_of_getElem? (i := 120) rfl) rfl, mb_1 (List.mem_of_getElem? (i := 13) rfl) rfl, mb_7 (List.mem_of_getElem? (i := 119) rfl) rfl, fun _ => mb_0 (List.mem_of_getElem? (i := 86) rfl) rfl⟩
set_option maxRecDepth 100000 in
theorem mwR_225 : mwR mr_225 := ⟨mb_7 (List.mem_of_getElem? (i := 124) rfl) rfl, mb_1 (List.mem_of_getElem? (i := 13) rfl) rfl, mb_7 (List.mem_of_getElem? (i := 123) rfl) rfl, fun _ => mb_0 (List.mem_of_getElem? (i := 87) rfl) rfl⟩
set_option maxRecDepth 100000 in
theorem mwR_226 : mwR mr_226 := ⟨mb_7 (List.mem_of_getElem? (i := 129) rfl) rfl, mb_1 (List.mem_of_getElem? (i := 13) rfl) rfl, mb_7 (List.mem_of_getElem? (i := 128) rfl) rfl, fun _ => mb_0 (List.mem_of_getElem? (i := 88) rfl) rfl⟩
set_option maxRecDepth 100000 in
theorem mwR_227 : mwR mr_227 := ⟨mb_7 (List.mem_of_getElem? (i := 88) rfl) rfl, mb_1 (List.mem_of_getElem? (i := 13) rfl) rfl, mb_7 (List.mem_of_getElem? (i := 87) rfl) rfl, fun _ => mb_0 (List.mem_of_getElem? (i := 78) rfl) rfl⟩
set_option maxRecDepth 100000 in
theorem mwR_228 : mwR mr_228 := ⟨mb_7 (List.mem_of_getElem? (i := 80) rfl) rfl, mb_1 (List.mem_of_getElem? (i := 13) rfl) rfl, mb_7 (List.mem_of_getElem? (i := 79) rfl) rfl, fun _ => mb_0 (List.mem_of_getElem? (i := 77) rfl) rfl⟩
set_option maxRecDepth 100000 in
theorem mwR_229 : mwR mr_229 := ⟨mb_7 (List.mem_of_getElem? (i := 41) rfl) rfl, mb_1 (List.mem_of_getElem? (i := 13) rfl) rfl, mb_7 (List.mem_of_getElem? (i := 39) rfl) rfl, fun _ => mb_7 (List.mem_of_getElem? (i := 40) rfl) rfl⟩
set_option maxRecDepth 100000 in
theorem mwR_230 : mwR mr_230 := ⟨mb_7 (List.mem_of_getElem? (i := 84) rfl) rfl, mb_1 (List.mem_of_getElem? (i := 13) rfl) rfl, mb_7 (List.mem_of_getElem? (i := 82) rfl) rfl, fun _ => mb_7 (List.mem_of_getElem? (i := 83) rfl) rfl⟩
set_option maxRecDepth 100000 in
theorem mwR_231 : mwR mr_231 := ⟨mb_7 (List.mem_of_getElem? (i := 133) rfl) rfl, mb_1 (List.mem_of_getElem? (i := 13) rfl) rfl, mb_7 (List.mem_of_getElem? (i := 131) rfl) rfl, fun _ => mb_7 (List.mem_of_getElem? (i := 132) rfl) rfl⟩
set_option maxRecDepth 100000 in
theorem mwR_232 : mwR mr_232 := ⟨mb_7 (List.mem_of_getElem? (i := 137) rfl) rfl, mb_1 (List.mem_of_getElem? (i := 13) rfl) rfl, mb_7 (List.mem_of_getElem? (i := 135) rfl) rfl, fun _ => mb_7 (List.mem_of_getElem? (i := 136) rfl) rfl⟩
set_option maxRecDepth 100000 in
theorem mwR_233 : mwR mr_233 := ⟨mb_7 (List.mem_of_getElem? (i := 141) rfl) rfl, mb_1 (List.mem_of_getElem? (i := 13) rfl) rfl, mb_7 (List.mem_of_getElem? (i := 139) rfl) rfl, fun _ => mb_7 (List.mem_of_getElem? (i := 140) rfl) rfl⟩
set_option maxRecDepth 100000 in
theorem mwR_234 : mwR mr_234 := ⟨mb_7 (List.mem_of_getElem? (i := 149) rfl) rfl, mb_1 (List.mem_of_getElem? (i := 13) rfl) rfl, mb_7 (List.mem_of_getElem? (i := 148) rfl) rfl, fun _ => mb_0 (List.mem_of_getElem? (i := 89) rfl) rfl⟩
set_option maxRecDepth 100000 in
theorem mwR_235 : mwR mr_235 := ⟨mb_7 (List.mem_of_getElem? (i := 153) rfl) rfl, mb_1 (List.mem_of_getElem? (i := 13) rfl) rfl, mb_7 (List.mem_of_getElem? (i := 152) rfl) rfl, fun _ => mb_0 (List.mem_of_getElem? (i := 90) rfl) rfl⟩
set_option maxRecDepth 100000 in
theorem mwR_236 : mwR mr_236 := ⟨mb_7 (List.mem_of_getElem? (i := 145) rfl) rfl, mb_1 (List.mem_of_getElem? (i := 13) rfl) rfl, mb_7 (List.mem_of_getElem? (i := 143) rfl) rfl, fun _ => mb_7 (List.mem_of_getElem? (i := 144) rfl) rfl⟩
set_option maxRecDepth 100000 in
theorem mwR_237 : mwR mr_237 := ⟨mb_7 (List.mem_of_getElem? (i := 157) rfl) rfl, mb_1 (List.mem_of_getElem? (i := 13) rfl) rfl, mb_7 (List.mem_of_getElem? (i := 155) rfl) rfl, fun _ => mb_7 (List.mem_of_getElem? (i := 156) rfl) rfl⟩
set_option maxRecDepth 100000 in
theorem mwR_238 : mwR mr_238 := ⟨mb_7 (List.mem_of_getElem? (i := 170) rfl) rfl, mb_1 (List.mem_of_getElem? (i := 13) rfl) rfl, mb_7 (List.mem_of_getElem? (i := 169) rfl) rfl, fun _ => mb_0 (List.mem_of_getElem? (i := 92) rfl) rfl⟩
set_option maxRecDepth 100000 in
theorem mwR_239 : mwR mr_239 := ⟨mb_7 (List.mem_of_getElem? (i := 174) rfl) rfl, mb_1 (List.mem_of_getElem? (i := 13) rfl) rfl, mb_7 (List.mem_of_getElem? (i := 173) rfl) rfl, fun _ => mb_0 (List.mem_of_getElem? (i := 93) rfl) rfl⟩
set_option maxRecDepth 100000 in
theorem mwR_240 : mwR mr_240 := ⟨mb_7 (List.mem_of_getElem? (i := 178) rfl) rfl, mb_1 (List.mem_of_getElem? (i := 13) rfl) rfl, mb_7 (List.mem_of_getElem? (i := 177) rfl) rfl, fun _ => mb_0 (List.mem_of_getElem? (i := 94) rfl) rfl⟩
set_option maxRecDepth 100000 in
theorem mwR_241 : mwR mr_241 := ⟨mb_7 (List.mem_of_getElem? (i := 166) rfl) rfl, mb_1 (List.mem_of_getElem? (i := 13) rfl) rfl, mb_7 (List.mem_of_getElem? (i := 165) rfl) rfl, fun _ => mb_0 (List.mem_of_getElem? (i := 91) rfl) rfl⟩
set_option maxRecDepth 100000 in
theorem mwR_242 : mwR mr_242 := ⟨mb_7 (List.mem_of_getElem? (i := 161) rfl) rfl, mb_1 (List.mem_of_getElem? (i := 13) rfl) rfl, mb_7 (List.mem_of_getElem? (i := 159) rfl) rfl, fun _ => mb_7 (List.mem_of_getElem? (i := 160) rfl) rfl⟩
set_option maxRecDepth 100000 in
theorem mwR_243 : mwR mr_243 := ⟨mb_7 (List.mem_of_getElem? (i := 182) rfl) rfl, mb_1 (List.mem_of_getElem? (i := 13) rfl) rfl, mb_7 (List.mem_of_getElem? (i := 180) rfl) rfl, fun _ => mb_7 (List.mem_of_getElem? (i := 181) rfl) rfl⟩
set_option maxRecDepth 100000 in
theorem mwR_244 : mwR mr_244 := ⟨mb_7 (List.mem_of_getElem? (i := 186) rfl) rfl, mb_1 (List.mem_of_getElem? (i := 13) rfl) rfl, mb_7 (List.mem_of_getElem? (i := 184) rfl) rfl, fun _ => mb_7 (List.mem_of_getElem? (i := 185) rfl) rfl⟩
set_option maxRecDepth 100000 in
theorem mwR_245 : mwR mr_245 := ⟨mb_7 (List.mem_of_getElem? (i := 190) rfl) rfl, mb_1 (List.mem_of_getElem? (i := 13) rfl) rfl, mb_7 (List.mem_of_getElem? (i := 188) rfl) rfl, fun _ => mb_7 (List.mem_of_getElem? (i := 189) rfl) rfl⟩
set_option maxRecDepth 100000 in
theorem mwR_246 : mwR mr_246 := ⟨mb_7 (List.mem_of_getElem? (i := 194) rfl) rfl, mb_1 (List.mem_of_getElem? (i := 13) rfl) rfl, mb_7 (List.mem_of_getElem? (i := 192) rfl) rfl, fun _ => mb_7 (List.mem_of_getElem? (i := 193) rfl) rfl⟩
set_option maxRecDepth 100000 in
theorem mwR_247 : mwR mr_247 := ⟨mb_7 (List.mem_of_getElem? (i := 202) rfl) rfl, mb_1 (List.mem_of_getElem? (i := 13) rfl) rfl, mb_7 (List.mem_of_getElem? (i := 201) rfl) rfl, fun _ => mb_0 (List.mem_of_getElem? (i := 95) rfl) rfl⟩
set_option maxRecDepth 100000 in
theorem mwR_248 : mwR mr_248 := ⟨mb_7 (List.mem_of_getElem? (i := 198) rfl) rfl, mb_1 (List.mem_of_getElem? (i := 13) rfl) rfl, mb_7 (List.mem_of_getElem? (i := 196) rfl) rfl, fun _ => mb_7 (List.mem_of_getElem? (i := 197) rfl) rfl⟩
set_option maxRecDepth 100000 in
theorem mwR_249 : mwR mr_249 := ⟨mb_7 (List.mem_of_getElem? (i := 206) rfl) rfl, mb_1 (List.mem_of_getElem? (i := 13) rfl) rfl, mb_7 (List.mem_of_getElem? (i := 204) rfl) rfl, fun _ => mb_7 (List.mem_of_getElem? (i := 205) rfl) rfl⟩
set_option maxRecDepth 100000 in
theorem mwR_250 : mwR mr_250 := ⟨mb_7 (List.mem_of_getElem? (i := 210) rfl) rfl, mb_1 (List.mem_of_getElem? (i := 13) rfl) rfl, mb_7 (List.mem_of_getElem? (i := 208) rfl) rfl, fun _ => mb_7 (List.mem_of_getElem? (i := 209) rfl) rfl⟩
set_option maxRecDepth 100000 in
theorem mwR_251 : mwR mr_251 := ⟨mb_7 (List.mem_of_getElem? (i := 214) rfl) rfl, mb_1 (List.mem_of_getElem? (i := 13) rfl) rfl, mb_7 (List.mem_of_getElem? (i := 212) rfl) rfl, fun _ => mb_7 (List.mem_of_getElem? (i := 213) rfl) rfl⟩
set_option maxRecDepth 100000 in
theorem mwR_252 : mwR mr_252 := ⟨mb_7 (List.mem_of_getElem? (i := 218) rfl) rfl, mb_1 (List.mem_of_getElem? (i := 13) rfl) rfl, mb_7 (List.mem_of_getElem? (i := 216) rfl) rfl, fun _ => mb_7 (List.mem_of_getElem? (i := 217) rfl) rfl⟩
set_option maxRecDepth 100000 in
theorem mwR_253 : mwR mr_253 := ⟨mb_7 (List.mem_of_getElem? (i := 227) rfl) rfl, mb_1 (List.mem_of_getElem? (i := 13) rfl) rfl, mb_7 (List.mem_of_getElem? (i := 226) rfl) rfl, fun _ => mb_0 (List.mem_of_getElem? (i := 96) rfl) rfl⟩
set_option maxRecDepth 100000 in
theorem mwR_254 : mwR mr_254 := ⟨mb_7 (List.mem_of_getElem? (i := 223) rfl) rfl, mb_1 (List.mem_of_getElem? (i := 13) rfl) rfl, mb_7 (List.mem_of_getElem? (i := 221) rfl) rfl, fun _ => mb_7 (List.mem_of_getElem? (i := 222) rfl) rfl⟩
set_option maxRecDepth 100000 in
theorem mwR_255 : mwR mr_255 := ⟨mb_8 (List.mem_of_getElem? (i := 0) rfl) rfl, mb_1 (List.mem_of_getElem? (i := 13) rfl) rfl, mb_7 (List.mem_of_getElem? (i := 239) rfl) rfl, fun _ => mb_0 (List.mem_of_getElem? (i := 98) rfl) rfl⟩
set_option maxRecDepth 100000 in
theorem mwR_256 : mwR mr_256 := ⟨mb_7 (List.mem_of_getElem? (i := 236) rfl) rfl, mb_1 (List.mem_of_getElem? (i := 13) rfl) rfl, mb_7 (List.mem_of_getElem? (i := 235) rfl) rfl, fun _ => mb_0 (List.mem_of_getElem? (i := 97) rfl) rfl⟩
set_option maxRecDepth 100000 in
theorem mwR_257 : mwR mr_257 := ⟨mb_8 (List.mem_of_getElem? (i := 4) rfl) rfl, mb_1 (List.mem_of_getElem? (i := 13) rfl) rfl, mb_8 (List.mem_of_getElem? (i := 3) rfl) rfl, fun _ => mb_0 (List.mem_of_getElem? (i := 99) rfl) rfl⟩
set_option maxRecDepth 100000 in
theorem mwR_258 : mwR mr_258 := ⟨mb_8 (List.mem_of_getElem? (i := 8) rfl) rfl, mb_1 (List.mem_of_getElem? (i := 13) rfl) rfl, mb_8 (List.mem_of_getElem? (i := 7) rfl) rfl, fun _ => mb_0 (List.mem_of_getElem? (i := 100) rfl) rfl⟩
set_option maxRecDepth 100000 in
theorem mwR_259 : mwR mr_259 := ⟨mb_7 (List.mem_of_getElem? (i := 232) rfl) rfl, mb_1 (List.mem_of_getElem? (i := 13) rfl) rfl, mb_7 (List.mem_of_getElem? (i := 230) rfl) rfl, fun _ => mb_7 (List.mem_of_getElem? (i := 231) rfl) rfl⟩
set_option maxRecDepth 100000 in
theorem mwR_260 : mwR mr_260 := ⟨mb_8 (List.mem_of_getElem? (i := 12) rfl) rfl, mb_1 (List.mem_of_getElem? (i := 13) rfl) rfl, mb_8 (List.mem_of_getElem? (i := 10) rfl) rfl, fun _ => mb_8 (List.mem_of_getElem? (i := 11) rfl) rfl⟩
set_option maxRecDepth 100000 in
theorem mwR_261 : mwR mr_261 := ⟨mb_3 (List.mem_of_getElem? (i := 112) rfl) rfl, mb_1 (List.mem_of_getElem? (i := 14) rfl) rfl, mb_3 (List.mem_of_getElem? (i := 111) rfl) rfl, fun h => absurd h (by decide)⟩
theorem mwS_0 : mwS mr_0 := ⟨rfl, by decide +kernel, by decide +kernel, by decide +kernel, by decide +kernel, fun _ => ⟨rfl, rfl⟩, Or.inr (by decide), by decide, by decide, by decide⟩
theorem mwS_1 : mwS mr_1 := ⟨rfl, by decide +kernel, by decide +kernel, by decide +kernel, by decide +kernel, fun h => absurd h (by decide), Or.inr (by decide), by decide, by decide, by decide⟩
theorem mwS_2 : mwS mr_2 := ⟨rfl, by decide +kernel, by decide +kernel, by decide +kernel, by decide +kernel, fun h => absurd h (by decide), Or.inr (by decide), by decide, by decide, by decide⟩
theorem mwS_3 : mwS mr_3 := ⟨rfl, by decide +kernel, by decide +kernel, by decide +kernel, by decide +kernel, fun h => absurd h (by decide), Or.inr (by decide), by decide, by decide, by decide⟩
theorem mwS_4 : mwS mr_4 := ⟨rfl, by decide +kernel, by decide +kernel, by decide +kernel, by decide +kernel, fun h => absurd h (by decide), Or.inr (by decide), by decide, by decide, by decide⟩
theorem mwS_5 : mwS mr_5 := ⟨rfl, by decide +kernel, by decide +kernel, by decide +kernel, by decide +kernel, fun h => absurd h (by decide), Or.inr (by decide), by decide, by decide, by decide⟩
theorem mwS_6 : mwS mr_6 := ⟨rfl, by decide +kernel, by decide +kernel, by decide +kernel, by decide +kernel, fun h => absurd h (by decide), Or.inr (by decide), by decide, by decide, by decide⟩
theorem mwS_7 : mwS mr_7 := ⟨rfl, by decide +kernel, by decide +kernel, by decide +kernel, by decide +kernel, fun h => absurd h (by decide), Or.inr (by decide), by decide, by decide, by decide⟩
theorem mwS_8 : mwS mr_8 := ⟨rfl, by decide +kernel, by decide +kernel, by decide +kernel, by decide +kernel, fun h => absurd h (by decide), Or.inl rfl, by decide, by decide, by decide⟩
theorem mwS_9 : mwS mr_9 := ⟨rfl, by decide +kernel, by decide +kernel, by decide +kernel, by decide +kernel, fun h => absurd h (by decide), Or.inl rfl, by decide, by decide, by decide⟩
theorem mwS_10 : mwS mr_10 := ⟨rfl, by decide +kernel, by decide +kernel, by decide +kernel, by decide +kernel, fun h => absurd h (by decide), Or.inl rfl, by decide, by decide, by decide⟩
theorem mwS_11 : mwS mr_11 := ⟨rfl, by decide +kernel, by decide +kernel, by decide +kernel, by decide +kernel, fun h => absurd h (by decide), Or.inl rfl, by decide, by decide, by decide⟩
theorem mwS_12 : mwS mr_12 := ⟨rfl, by decide +kernel, by decide +kernel, by decide +kernel, by decide +kernel, fun h => absurd h (by decide), Or.inl rfl, by decide, by decide, by decide⟩
theorem mwS_13 : mwS mr_13 := ⟨rfl, by decide +kernel, by decide +kernel, by decide +kernel, by decide +kernel, fun h => absurd h (by decide), Or.inl rfl, by decide, by decide, by decide⟩
theorem mwS_14 : mwS mr_14 := ⟨rfl, by decide +kernel, by decide +kernel, by decide +kernel, by decide +kernel, fun h => absurd h (by decide), Or.inl rfl, by decide, by decide, by decide⟩
theorem mwS_15 : mwS mr_15 := ⟨rfl, by decide +kernel, by decide +kernel, by decide +kernel, by decide +kernel, fun h => absurd h (by decide), Or.inl rfl, by decide, by decide, by decide⟩
theorem mwS_16 : mwS mr_16 := ⟨rfl, by decide +kernel, by decide +kernel, by decide +kernel, by decide +kernel, fun h => absurd h (by decide), Or.inl rfl, by decide, by decide, by decide⟩
theorem mwS_17 : mwS mr_17 := ⟨rfl, by decide +kernel, by decide +kernel, by decide +kernel, by decide +kernel, fun _ => ⟨rfl, rfl⟩, Or.inr (by decide), by decide, by decide, by decide⟩
theorem mwS_18 : mwS mr_18 := ⟨rfl, by decide +kernel, by decide +kernel, by decide +kernel, by decide +kernel, fun h => absurd h (by decide), Or.inr (by decide), by decide, by decide, by decide⟩
theorem mwS_19 : mwS mr_19 := ⟨rfl, by decide +kernel, by decide +kernel, by decide +kernel, by decide +kernel, fun h => absurd h (by decide), Or.inr (by decide), by decide, by decide, by decide⟩
theorem mwS_20 : mwS mr_20 := ⟨rfl, by decide +kernel, by decide +kernel, by decide +kernel, by decide +kernel, fun h => absurd h (by decide), Or.inr (by decide), by decide, by decide, by decide⟩
theorem mwS_21 : mwS mr_21 := ⟨rfl, by decide +kernel, by decide +kernel, by decide +kernel, by decide +kernel, fun h => absurd h (by decide), Or.inr (by decide), by decide, by decide, by decide⟩
theorem mwS_22 : mwS mr_22 := ⟨rfl, by decide +kernel, by decide +kernel, by decide +kernel, by decide +kernel, fun _ => ⟨rfl, rfl⟩, Or.inr (by decide), by decide, by decide, by decide⟩
theorem mwS_23 : mwS mr_23 := ⟨rfl, by decide +kernel, by decide +kernel, by decide +kernel, by decide +kernel, fun h => absurd h (by decide), Or.inr (by decide), by decide, by decide, by decide⟩
theorem mwS_24 : mwS mr_24 := ⟨rfl, by decide +kernel, by decide +kernel, by decide +kernel, by decide +kernel, fun h => absurd h (by decide), Or.inr (by decide), by decide, by decide, by decide⟩
theorem mwS_25 : mwS mr_25 := ⟨rfl, by decide +kernel, by decide +kernel, by decide +kernel, by decide +kernel, fun h => absurd h (by decide), Or.inr (by decide), by decide, by decide, by decide⟩
theorem mwS_26 : mwS mr_26 := ⟨rfl, by decide +kernel, by decide +kernel, by decide +kernel, by decide +kernel, fun h => absurd h (by decide), Or.inr (by decide), by decide, by decide, by decide⟩
theorem mwS_27 : mwS mr_27 := ⟨rfl, by decide +kernel, by decide +kernel, by decide +kernel, by decide +kernel, fun h => absurd h (by decide), Or.inr (by decide), by decide, by decide, by decide⟩
theorem mwS_28 : mwS mr_28 := ⟨rfl, by decide +kernel, by decide +kernel, by decide +kernel, by decide +kernel, fun h => absurd h (by decide), Or.inr (by decide), by decide, by decide, by decide⟩
theorem mwS_29 : mwS mr_29 := ⟨rfl, by decide +kernel, by decide +kernel, by decide +kernel, by decide +kernel, fun h => absurd h (by decide), Or.inr (by decide), by decide, by decide, by decide⟩
theorem mwS_30 : mwS mr_30 := ⟨rfl, by decide +kernel, by decide +kernel, by decide +kernel, by decide +kernel, fun h => absurd h (by decide), Or.inr (by decide), by decide, by decide, by decide⟩
theorem mwS_31 : mwS mr_31 := ⟨rfl, by decide +kernel, by decide +kernel, by decide +kernel, by decide +kernel, fun h => absurd h (by decide), Or.inr (by decide), by decide, by decide, by decide⟩
theorem mwS_32 : mwS mr_32 := ⟨rfl, by decide +kernel, by decide +kernel, by decide +kernel, by decide +kernel, fun h => absurd h (by decide), Or.inr (by decide), by decide, by decide, by decide⟩
theorem mwS_33 : mwS mr_33 := ⟨rfl, by decide +kernel, by decide +kernel, by decide +kernel, by decide +kernel, fun _ => ⟨rfl, rfl⟩, Or.inr (by decide), by decide, by decide, by decide⟩
theorem mwS_34 : mwS mr_34 := ⟨rfl, by decide +kernel, by decide +kernel, by decide +kernel, by decide +kernel, fun h => absurd h (by decide), Or.inr (by decide), by decide, by decide, by decide⟩
theorem mwS_35 : mwS mr_35 := ⟨rfl, by decide +kernel, by decide +kernel, by decide +kernel, by decide +kernel, fun h => absurd h (by decide), Or.inl rfl, by decide, by decide, by decide⟩
theorem mwS_36 : mwS mr_36 := ⟨rfl, by decide +kernel, by decide +kernel, by decide +kernel, by decide +kernel, fun h => absurd h (by decide), Or.inr (by decide), by decide, by decide, by decide⟩
theorem mwS_37 : mwS mr_37 := ⟨rfl, by decide +kernel, by decide +kernel, by decide +kernel, by decide +kernel, fun h => absurd h (by decide), Or.inr (by decide), by decide, by decide, by decide⟩
theorem mwS_38 : mwS mr_38 := ⟨rfl, by decide +kernel, by decide +kernel, by decide +kernel, by decide +kernel, fun h => absurd h (by decide), Or.inr (by decide), by decide, by decide, by decide⟩
theorem mwS_39 : mwS mr_39 := ⟨rfl, by decide +kernel, by decide +kernel, by decide +kernel, by decide +kernel, fun h => absurd h (by decide), Or.inr (by decide), by decide, by decide, by decide⟩
theorem mwS_40 : mwS mr_40 := ⟨rfl, by decide +kernel, by decide +kernel, by decide +kernel, by decide +kernel, fun h => absurd h (by decide), Or.inr (by decide), by decide, by decide, by decide⟩
theorem mwS_41 : mwS mr_41 := ⟨rfl, by decide +kernel, by decide +kernel, by decide +kernel, by decide +kernel, fun h => absurd h (by decide), Or.inr (by decide), by decide, by decide, by decide⟩
theorem mwS_42 : mwS mr_42 := ⟨rfl, by decide +kernel, by decide +kernel, by decide +kernel, by decide +kernel, fun h => absurd h (by decide), Or.inr (by decide), by decide, by decide, by decide⟩
theorem mwS_43 : mwS mr_43 := ⟨rfl, by decide +kernel, by decide +kernel, by decide +kernel, by decide +kernel, fun h => absurd h (by decide), Or.inr (by decide), by decide, by decide, by decide⟩
theorem mwS_44 : mwS mr_44 := ⟨rfl, by decide +kernel, by decide +kernel, by decide +kernel, by decide +kernel, fun h => absurd h (by decide), Or.inr (by decide), by decide, by decide, by decide⟩
theorem mwS_45 : mwS mr_45 := ⟨rfl, by decide +kernel, by decide +kernel, by decide +kernel, by decide +kernel, fun h => absurd h (by decide), Or.inr (by decide), by decide, by decide, by decide⟩
theorem mwS_46 : mwS mr_46 := ⟨rfl, by decide +kernel, by decide +kernel, by decide +kernel, by decide +kernel, fun h => absurd h (by decide), Or.inr (by decide), by decide, by decide, by decide⟩
theorem mwS_47 : mwS mr_47 := ⟨rfl, by decide +kernel, by decide +kernel, by decide +kernel, by decide +kernel, fun h => absurd h (by decide), Or.inr (by decide), by decide, by decide, by decide⟩
theorem mwS_48 : mwS mr_48 := ⟨rfl, by decide +kernel, by decide +kernel, by decide +kernel, by decide +kernel, fun h => absurd h (by decide), Or.inr (by decide), by decide, by decide, by decide⟩
theorem mwS_49 : mwS mr_49 := ⟨rfl, by decide +kernel, by decide +kernel, by decide +kernel, by decide +kernel, fun h => absurd h (by decide), Or.inr (by decide), by decide, by decide, by decide⟩
theorem mwS_50 : mwS mr_50 := ⟨rfl, by decide +kernel, by decide +kernel, by decide +kernel, by decide +kernel, fun h => absurd h (by decide), Or.inr (by decide), by decide, by decide, by decide⟩
theorem mwS_51 : mwS mr_51 := ⟨rfl, by decide +kernel, by decide +kernel, by decide +kernel, by decide +kernel, fun h => absurd h (by decide), Or.inr (by decide), by decide, by decide, by decide⟩
theorem mwS_52 : mwS mr_52 := ⟨rfl, by decide +kernel, by decide +kernel, by decide +kernel, by decide +kernel, fun h => absurd h (by decide), Or.inr (by decide), by decide, by decide, by decide⟩
theorem mwS_53 : mwS mr_53 := ⟨rfl, by decide +kernel, by decide +kernel, by decide +kernel, by decide +kernel, fun h => absurd h (by decide), Or.inr (by decide), by decide, by decide, by decide⟩
theorem mwS_54 : mwS mr_54 := ⟨rfl, by decide +kernel, by decide +kernel, by decide +kernel, by decide +kernel, fun h => absurd h (by decide), Or.inr (by decide), by decide, by decide, by decide⟩
theorem mwS_55 : mwS mr_55 := ⟨rfl, by decide +kernel, by decide +kernel, by decide +kernel, by decide +kernel, fun h => absurd h (by decide), Or.inr (by decide), by decide, by decide, by decide⟩
theorem mwS_56 : mwS mr_56 := ⟨rfl, by decide +kernel, by decide +kernel, by decide +kernel, by decide +kernel, fun h => absurd h (by decide), Or.inr (by decide), by decide, by decide, by decide⟩
theorem mwS_57 : mwS mr_57 := ⟨rfl, by decide +kernel, by decide +kernel, by decide +kernel, by decide +kernel, fun h => absurd h (by decide), Or.inr (by decide), by decide, by decide, by decide⟩
theorem mwS_58 : mwS mr_58 := ⟨rfl, by decide +kernel, by decide +kernel, by decide +kernel, by decide +kernel, fun _ => ⟨rfl, rfl⟩, Or.inr (by decide), by decide, by decide, by decide⟩
theorem mwS_59 : mwS mr_59 := ⟨rfl, by decide +kernel, by decide +kernel, by decide +kernel, by decide +kernel, fun h => absurd h (by decide), Or.inr (by decide), by decide, by decide, by decide⟩
theorem mwS_60 : mwS mr_60 := ⟨rfl, by decide +kernel, by decide +kernel, by decide +kernel, by decide +kernel, fun h => absurd h (by decide), Or.inr (by decide), by decide, by decide, by decide⟩
theorem mwS_61 : mwS mr_61 := ⟨rfl, by decide +kernel, by decide +kernel, by decide +kernel, by decide +kernel, fun h => absurd h (by decide), Or.inr (by decide), by decide, by decide, by decide⟩
theorem mwS_62 : mwS mr_62 := ⟨rfl, by decide +kernel, by decide +kernel, by decide +kernel, by decide +kernel, fun _ => ⟨rfl, rfl⟩, Or.inr (by decide), by decide, by decide, by decide⟩
theorem mwS_63 : mwS mr_63 := ⟨rfl, by decide +kernel, by decide +kernel, by decide +kernel, by decide +kernel, fun h => absurd h (by decide), Or.inl rfl, by decide, by decide, by decide⟩
theorem mwS_64 : mwS mr_64 := ⟨rfl, by decide +kernel, by decide +kernel, by decide +kernel, by decide +kernel, fun h => absurd h (by decide), Or.inr (by decide), by decide, by decide, by decide⟩
theorem mwS_65 : mwS mr_65 := ⟨rfl, by decide +kernel, by decide +kernel, by decide +kernel, by decide +kernel, fun h => absurd h (by decide), Or.inl rfl, by decide, by decide, by decide⟩
theorem mwS_66 : mwS mr_66 := ⟨rfl, by decide +kernel, by decide +kernel, by decide +kernel, by decide +kernel, fun h => absurd h (by decide), Or.inr (by decide), by decide, by decide, by decide⟩
theorem mwS_67 : mwS mr_67 := ⟨rfl, by decide +kernel, by decide +kernel, by decide +kernel, by decide +kernel, fun h => absurd h (by decide), Or.inr (by decide), by decide, by decide, by decide⟩
theorem mwS_68 : mwS mr_68 := ⟨rfl, by decide +kernel, by decide +kernel, by decide +kernel, by decide +kernel, fun h => absurd h (by decide), Or.inr (by decide), by decide, by decide, by decide⟩
theorem mwS_69 : mwS mr_69 := ⟨rfl, by decide +kernel, by decide +kernel, by decide +kernel, by decide +kernel, fun h => absurd h (by decide), Or.inr (by decide), by decide, by decide, by decide⟩
theorem mwS_70 : mwS mr_70 := ⟨rfl, by decide +kernel, by decide +kernel, by decide +kernel, by decide +kernel, fun _ => ⟨rfl, rfl⟩, Or.inr (by decide), by decide, by decide, by decide⟩
theorem mwS_71 : mwS mr_71 := ⟨rfl, by decide +kernel, by decide +kernel, by decide +kernel, by decide +kernel, fun h => absurd h (by decide), Or.inr (by decide), by decide, by decide, by decide⟩
theorem mwS_72 : mwS mr_72 := ⟨rfl, by decide +kernel, by decide +kernel, by decide +kernel, by decide +kernel, fun h => absurd h (by decide), Or.inr (by decide), by decide, by decide, by decide⟩
theorem mwS_73 : mwS mr_73 := ⟨rfl, by decide +kernel, by decide +kernel, by decide +kernel, by decide +kernel, fun h => absurd h (by decide), Or.inr (by decide), by decide, by decide, by decide⟩
theorem mwS_74 : mwS mr_74 := ⟨rfl, by decide +kernel, by decide +kernel, by decide +kernel, by decide +kernel, fun h => absurd h (by decide), Or.inr (by decide), by decide, by decide, by decide⟩
theorem mwS_75 : mwS mr_75 := ⟨rfl, by decide +kernel, by decide +kernel, by decide +kernel, by decide +kernel, fun h => absurd h (by decide), Or.inr (by decide), by decide, by decide, by decide⟩
theorem mwS_76 : mwS mr_76 := ⟨rfl, by decide +kernel, by decide +kernel, by decide +kernel, by decide +kernel, fun h => absurd h (by decide), Or.inr (by decide), by decide, by decide, by decide⟩
theorem mwS_77 : mwS mr_77 := ⟨rfl, by decide +kernel, by decide +kernel, by decide +kernel, by decide +kernel, fun h => absurd h (by decide), Or.inl rfl, by decide, by decide, by decide⟩
theorem mwS_78 : mwS mr_78 := ⟨rfl, by decide +kernel, by decide +kernel, by decide +kernel, by decide +kernel, fun h => absurd h (by decide), Or.inr (by decide), by decide, by decide, by decide⟩
theorem mwS_79 : mwS mr_79 := ⟨rfl, by decide +kernel, by decide +kernel, by decide +kernel, by decide +kernel, fun h => absurd h (by decide), Or.inr (by decide), by decide, by decide, by decide⟩
theorem mwS_80 : mwS mr_80 := ⟨rfl, by decide +kernel, by decide +kernel, by decide +kernel, by decide +kernel, fun _ => ⟨rfl, rfl⟩, Or.inr (by decide), by decide, by decide, by decide⟩
theorem mwS_81 : mwS mr_81 := ⟨rfl, by decide +kernel, by decide +kernel, by decide +kernel, by decide +kernel, fun h => absurd h (by decide), Or.inr (by decide), by decide, by decide, by decide⟩
theorem mwS_82 : mwS mr_82 := ⟨rfl, by decide +kernel, by decide +kernel, by decide +kernel, by decide +kernel, fun h => absurd h (by decide), Or.inr (by decide), by decide, by decide, by decide⟩
theorem mwS_83 : mwS mr_83 := ⟨rfl, by decide +kernel, by decide +kernel, by decide +kernel, by decide +kernel, fun h => absurd h (by decide), Or.inr (by decide), by decide, by decide, by decide⟩
theorem mwS_84 : mwS mr_84 := ⟨rfl, by decide +kernel, by decide +kernel, by decide +kernel, by decide +kernel, fun h => absurd h (by decide), Or.inr (by decide), by decide, by decide, by decide⟩
theorem mwS_85 : mwS mr_85 := ⟨rfl, by decide +kernel, by decide +kernel, by decide +kernel, by decide +kernel, fun h => absurd h (by decide), Or.inr (by decide), by decide, by decide, by decide⟩
theorem mwS_86 : mwS mr_86 := ⟨rfl, by decide +kernel, by decide +kernel, by decide +kernel, by decide +kernel, fun h => absurd h (by decide), Or.inr (by decide), by decide, by decide, by decide⟩
theorem mwS_87 : mwS mr_87 := ⟨rfl, by decide +kernel, by decide +kernel, by decide +kernel, by decide +kernel, fun h => absurd h (by decide), Or.inr (by decide), by decide, by decide, by decide⟩
theorem mwS_88 : mwS mr_88 := ⟨rfl, by decide +kernel, by decide +kernel, by decide +kernel, by decide +kernel, fun h => absurd h (by decide), Or.inr (by decide), by decide, by decide, by decide⟩
theorem mwS_89 : mwS mr_89 := ⟨rfl, by decide +kernel, by decide +kernel, by decide +kernel, by decide +kernel, fun h => absurd h (by decide), Or.inr (by decide), by decide, by decide, by decide⟩
theorem mwS_90 : mwS mr_90 := ⟨rfl, by decide +kernel, by decide +kernel, by decide +kernel, by decide +kernel, fun _ => ⟨rfl, rfl⟩, Or.inr (by decide), by decide, by decide, by decide⟩
theorem mwS_91 : mwS mr_91 := ⟨rfl, by decide +kernel, by decide +kernel, by decide +kernel, by decide +kernel, fun h => absurd h (by decide), Or.inr (by decide), by decide, by decide, by decide⟩
theorem mwS_92 : mwS mr_92 := ⟨rfl, by decide +kernel, by decide +kernel, by decide +kernel, by decide +kernel, fun h => absurd h (by decide), Or.inr (by decide), by decide, by decide, by decide⟩
theorem mwS_93 : mwS mr_93 := ⟨rfl, by decide +kernel, by decide +kernel, by decide +kernel, by decide +kernel, fun h => absurd h (by decide), Or.inr (by decide), by decide, by decide, by decide⟩
theorem mwS_94 : mwS mr_94 := ⟨rfl, by decide +kernel, by decide +kernel, by decide +kernel, by decide +kernel, fun h => absurd h (by decide), Or.inr (by decide), by decide, by decide, by decide⟩
theorem mwS_95 : mwS mr_95 := ⟨rfl, by decide +kernel, by decide +kernel, by decide +kernel, by decide +kernel, fun h => absurd h (by decide), Or.inr (by decide), by decide, by decide, by decide⟩
theorem mwS_96 : mwS mr_96 := ⟨rfl, by decide +kernel, by decide +kernel, by decide +kernel, by decide +kernel, fun h => absurd h (by decide), Or.inr (by decide), by decide, by decide, by decide⟩
theorem mwS_97 : mwS mr_97 := ⟨rfl, by decide +kernel, by decide +kernel, by decide +kernel, by decide +kernel, fun h => absurd h (by decide), Or.inr (by decide), by decide, by decide, by decide⟩
theorem mwS_98 : mwS mr_98 := ⟨rfl, by decide +kernel, by decide +kernel, by decide +kernel, by decide +kernel, fun h => absurd h (by decide), Or.inr (by decide), by decide, by decide, by decide⟩
theorem mwS_99 : mwS mr_99 := ⟨rfl, by decide +kernel, by decide +kernel, by decide +kernel, by decide +kernel, fun h => absurd h (by decide), Or.inr (by decide), by decide, by decide, by decide⟩
theorem mwS_100 : mwS mr_100 := ⟨rfl, by decide +kernel, by decide +kernel, by decide +kernel, by decide +kernel, fun _ => ⟨rfl, rfl⟩, Or.inr (by decide), by decide, by decide, by decide⟩
theorem mwS_101 : mwS mr_101 := ⟨rfl, by decide +kernel, by decide +kernel, by decide +kernel, by decide +kernel, fun h => absurd h (by decide), Or.inr (by decide), by decide, by decide, by decide⟩
theorem mwS_102 : mwS mr_102 := ⟨rfl, by decide +kernel, by decide +kernel, by decide +kernel, by decide +kernel, fun h => absurd h (by decide), Or.inr (by decide), by decide, by decide, by decide⟩
theorem mwS_103 : mwS mr_103 := ⟨rfl, by decide +kernel, by decide +kernel, by decide +kernel, by decide +kernel, fun h => absurd h (by decide), Or.inr (by decide), by decide, by decide, by decide⟩
theorem mwS_104 : mwS mr_104 := ⟨rfl, by decide +kernel, by decide +kernel, by decide +kernel, by decide +kernel, fun h => absurd h (by decide), Or.inr (by decide), by decide, by decide, by decide⟩
theorem mwS_105 : mwS mr_105 := ⟨rfl, by decide +kernel, by decide +kernel, by decide +kernel, by decide +kernel, fun h => absurd h (by decide), Or.inr (by decide), by decide, by decide, by decide⟩
theorem mwS_106 : mwS mr_106 := ⟨rfl, by decide +kernel, by decide +kernel, by decide +kernel, by decide +kernel, fun h => absurd h (by decide), Or.inr (by decide), by decide, by decide, by decide⟩
theorem mwS_107 : mwS mr_107 := ⟨rfl, by decide +kernel, by decide +kernel, by decide +kernel, by decide +kernel, fun _ => ⟨rfl, rfl⟩, Or.inr (by decide), by decide, by decide, by decide⟩
theorem mwS_108 : mwS mr_108 := ⟨rfl, by decide +kernel, by decide +kernel, by decide +kernel, by decide +kernel, fun h => absurd h (by decide), Or.inr (by decide), by decide, by decide, by decide⟩
theorem mwS_109 : mwS mr_109 := ⟨rfl, by decide +kernel, by decide +kernel, by decide +kernel, by decide +kernel, fun h => absurd h (by decide), Or.inr (by decide), by decide, by decide, by decide⟩
theorem mwS_110 : mwS mr_110 := ⟨rfl, by decide +kernel, by decide +kernel, by decide +kernel, by decide +kernel, fun h => absurd h (by decide), Or.inr (by decide), by decide, by decide, by decide⟩
theorem mwS_111 : mwS mr_111 := ⟨rfl, by decide +kernel, by decide +kernel, by decide +kernel, by decide +kernel, fun h => absurd h (by decide), Or.inr (by decide), by decide, by decide, by decide⟩
theorem mwS_112 : mwS mr_112 := ⟨rfl, by decide +kernel, by decide +kernel, by decide +kernel, by decide +kernel, fun h => absurd h (by decide), Or.inr (by decide), by decide, by decide, by decide⟩
theorem mwS_113 : mwS mr_113 := ⟨rfl, by decide +kernel, by decide +kernel, by decide +kernel, by decide +kernel, fun h => absurd h (by decide), Or.inr (by decide), by decide, by decide, by decide⟩
theorem mwS_114 : mwS mr_114 := ⟨rfl, by decide +kernel, by decide +kernel, by decide +kernel, by decide +kernel, fun h => absurd h (by decide), Or.inr (by decide), by decide, by decide, by decide⟩
theorem mwS_115 : mwS mr_115 := ⟨rfl, by decide +kernel, by decide +kernel, by decide +kernel, by decide +kernel, fun h => absurd h (by decide), Or.inr (by decide), by decide, by decide, by decide⟩
theorem mwS_116 : mwS mr_116 := ⟨rfl, by decide +kernel, by decide +kernel, by decide +kernel, by decide +kernel, fun h => absurd h (by decide), Or.inr (by decide), by decide, by decide, by decide⟩
theorem mwS_117 : mwS mr_117 := ⟨rfl, by decide +kernel, by decide +kernel, by decide +kernel, by decide +kernel, fun h => absurd h (by decide), Or.inr (by decide), by decide, by decide, by decide⟩
theorem mwS_118 : mwS mr_118 := ⟨rfl, by decide +kernel, by decide +kernel, by decide +kernel, by decide +kernel, fun h => absurd h (by decide), Or.inr (by decide), by decide, by decide, by decide⟩
theorem mwS_119 : mwS mr_119 := ⟨rfl, by decide +kernel, by decide +kernel, by decide +kernel, by decide +kernel, fun h => absurd h (by decide), Or.inr (by decide), by decide, by decide, by decide⟩
theorem mwS_120 : mwS mr_120 := ⟨rfl, by decide +kernel, by decide +kernel, by decide +kernel, by decide +kernel, fun h => absurd h (by decide), Or.inr (by decide), by decide, by decide, by decide⟩
theorem mwS_121 : mwS mr_121 := ⟨rfl, by decide +kernel, by decide +kernel, by decide +kernel, by decide +kernel, fun h => absurd h (by decide), Or.inr (by decide), by decide, by decide, by decide⟩
theorem mwS_122 : mwS mr_122 := ⟨rfl, by decide +kernel, by decide +kernel, by decide +kernel, by decide +kernel, fun h => absurd h (by decide), Or.inr (by decide), by decide, by decide, by decide⟩
theorem mwS_123 : mwS mr_123 := ⟨rfl, by decide +kernel, by decide +kernel, by decide +kernel, by decide +kernel, fun h => absurd h (by decide), Or.inr (by decide), by decide, by decide, by decide⟩
theorem mwS_124 : mwS mr_124 := ⟨rfl, by decide +kernel, by decide +kernel, by decide +kernel, by decide +kernel, fun h => absurd h (by decide), Or.inr (by decide), by decide, by decide, by decide⟩
theorem mwS_125 : mwS mr_125 := ⟨rfl, by decide +kernel, by decide +kernel, by decide +kernel, by decide +kernel, fun h => absurd h (by decide), Or.inr (by decide), by decide, by decide, by decide⟩
theorem mwS_126 : mwS mr_126 := ⟨rfl, by decide +kernel, by decide +kernel, by decide +kernel, by decide +kernel, fun h => absurd h (by decide), Or.inr (by decide), by decide, by decide, by decide⟩
theorem mwS_127 : mwS mr_127 := ⟨rfl, by decide +kernel, by decide +kernel, by decide +kernel, by decide +kernel, fun h => absurd h (by decide), Or.inr (by decide), by decide, by decide, by decide⟩
theorem mwS_128 : mwS mr_128 := ⟨rfl, by decide +kernel, by decide +kernel, by decide +kernel, by decide +kernel, fun h => absurd h (by decide), Or.inr (by decide), by decide, by decide, by decide⟩
theorem mwS_129 : mwS mr_129 := ⟨rfl, by decide +kernel, by decide +kernel, by decide +kernel, by decide +kernel, fun h => absurd h (by decide), Or.inr (by decide), by decide, by decide, by decide⟩
theorem mwS_130 : mwS mr_130 := ⟨rfl, by decide +kernel, by decide +kernel, by decide +kernel, by decide +kernel, fun h => absurd h (by decide), Or.inr (by decide), by decide, by decide, by decide⟩
theorem mwS_131 : mwS mr_131 := ⟨rfl, by decide +kernel, by decide +kernel, by decide +kernel, by decide +kernel, fun h => absurd h (by decide), Or.inr (by decide), by decide, by decide, by decide⟩
theorem mwS_132 : mwS mr_132 := ⟨rfl, by decide +kernel, by decide +kernel, by decide +kernel, by decide +kernel, fun h => absurd h (by decide), Or.inr (by decide), by decide, by decide, by decide⟩
theorem mwS_133 : mwS mr_133 := ⟨rfl, by decide +kernel, by decide +kernel, by decide +kernel, by decide +kernel, fun h => absurd h (by decide), Or.inr (by decide), by decide, by decide, by decide⟩
theorem mwS_134 : mwS mr_134 := ⟨rfl, by decide +kernel, by decide +kernel, by decide +kernel, by decide +kernel, fun h => absurd h (by decide), Or.inr (by decide), by decide, by decide, by decide⟩
theorem mwS_135 : mwS mr_135 := ⟨rfl, by decide +kernel, by decide +kernel, by decide +kernel, by decide +kernel, fun h => absurd h (by decide), Or.inr (by decide), by decide, by decide, by decide⟩
theorem mwS_136 : mwS mr_136 := ⟨rfl, by decide +kernel, by decide +kernel, by decide +kernel, by decide +kernel, fun h => absurd h (by decide), Or.inr (by decide), by decide, by decide, by decide⟩
theorem mwS_137 : mwS mr_137 := ⟨rfl, by decide +kernel, by decide +kernel, by decide +kernel, by decide +kernel, fun h => absurd h (by decide), Or.inr (by decide), by decide, by decide, by decide⟩
theorem mwS_138 : mwS mr_138 := ⟨rfl, by decide +kernel, by decide +kernel, by decide +kernel, by decide +kernel, fun h => absurd h (by decide), Or.inr (by decide), by decide, by decide, by decide⟩
theorem mwS_139 : mwS mr_139 := ⟨rfl, by decide +kernel, by decide +kernel, by decide +kernel, by decide +kernel, fun h => absurd h (by decide), Or.inr (by decide), by decide, by decide, by decide⟩
theorem mwS_140 : mwS mr_140 := ⟨rfl, by decide +kernel, by decide +kernel, by decide +kernel, by decide +kernel, fun h => absurd h (by decide), Or.inl rfl, by decide, by decide, by decide⟩
theorem mwS_141 : mwS mr_141 := ⟨rfl, by decide +kernel, by decide +kernel, by decide +kernel, by decide +kernel, fun h => absurd h (by decide), Or.inl rfl, by decide, by decide, by decide⟩
theorem mwS_142 : mwS mr_142 := ⟨rfl, by decide +kernel, by decide +kernel, by decide +kernel, by decide +kernel, fun h => absurd h (by decide), Or.inl rfl, by decide, by decide, by decide⟩
theorem mwS_143 : mwS mr_143 := ⟨rfl, by decide +kernel, by decide +kernel, by decide +kernel, by decide +kernel, fun h => absurd h (by decide), Or.inl rfl, by decide, by decide, by decide⟩
theorem mwS_144 : mwS mr_144 := ⟨rfl, by decide +kernel, by decide +kernel, by decide +kernel, by decide +kernel, fun h => absurd h (by decide), Or.inl rfl, by decide, by decide, by decide⟩
theorem mwS_145 : mwS mr_145 := ⟨rfl, by decide +kernel, by decide +kernel, by decide +kernel, by decide +kernel, fun h => absurd h (by decide), Or.inl rfl, by decide, by decide, by decide⟩
theorem mwS_146 : mwS mr_146 := ⟨rfl, by decide +kernel, by decide +kernel, by decide +kernel, by decide +kernel, fun h => absurd h (by decide), Or.inl rfl, by decide, by decide, by decide⟩
theorem mwS_147 : mwS mr_147 := ⟨rfl, by decide +kernel, by decide +kernel, by decide +kernel, by decide +kernel, fun h => absurd h (by decide), Or.inl rfl, by decide, by decide, by decide⟩
theorem mwS_148 : mwS mr_148 := ⟨rfl, by decide +kernel, by decide +kernel, by decide +kernel, by decide +kernel, fun h => absurd h (by decide), Or.inl rfl, by decide, by decide, by decide⟩
theorem mwS_149 : mwS mr_149 := ⟨rfl, by decide +kernel, by decide +kernel, by decide +kernel, by decide +kernel, fun h => absurd h (by decide), Or.inl rfl, by decide, by decide, by decide⟩
theorem mwS_150 : mwS mr_150 := ⟨rfl, by decide +kernel, by decide +kernel, by decide +kernel, by decide +kernel, fun h => absurd h (by decide), Or.inl rfl, by decide, by decide, by decide⟩
theorem mwS_151 : mwS mr_151 := ⟨rfl, by decide +kernel, by decide +kernel, by decide +kernel, by decide +kernel, fun h => absurd h (by decide), Or.inl rfl, by decide, by decide, by decide⟩
theorem mwS_152 : mwS mr_152 := ⟨rfl, by decide +kernel, by decide +kernel, by decide +kernel, by decide +kernel, fun h => absurd h (by decide), Or.inr (by decide), by decide, by decide, by decide⟩
theorem mwS_153 : mwS mr_153 := ⟨rfl, by decide +kernel, by decide +kernel, by decide +kernel, by decide +kernel, fun h => absurd h (by decide), Or.inr (by decide), by decide, by decide, by decide⟩
theorem mwS_154 : mwS mr_154 := ⟨rfl, by decide +kernel, by decide +kernel, by decide +kernel, by decide +kernel, fun h => absurd h (by decide), Or.inr (by decide), by decide, by decide, by decide⟩
theorem mwS_155 : mwS mr_155 := ⟨rfl, by decide +kernel, by decide +kernel, by decide +kernel, by decide +kernel, fun h => absurd h (by decide), Or.inr (by decide), by decide, by decide, by decide⟩
theorem mwS_156 : mwS mr_156 := ⟨rfl, by decide +kernel, by decide +kernel, by decide +kernel, by decide +kernel, fun h => absurd h (by decide), Or.inr (by decide), by decide, by decide, by decide⟩
theorem mwS_157 : mwS mr_157 := ⟨rfl, by decide +kernel, by decide +kernel, by decide +kernel, by decide +kernel, fun h => absurd h (by decide), Or.inr (by decide), by decide, by decide, by decide⟩
theorem mwS_158 : mwS mr_158 := ⟨rfl, by decide +kernel, by decide +kernel, by decide +kernel, by decide +kernel, fun h => absurd h (by decide), Or.inr (by decide), by decide, by decide, by decide⟩
theorem mwS_159 : mwS mr_159 := ⟨rfl, by decide +kernel, by decide +kernel, by decide +kernel, by decide +kernel, fun h => absurd h (by decide), Or.inl rfl, by decide, by decide, by decide⟩
theorem mwS_160 : mwS mr_160 := ⟨rfl, by decide +kernel, by decide +kernel, by decide +kernel, by decide +kernel, fun h => absurd h (by decide), Or.inr (by decide), by decide, by decide, by decide⟩
theorem mwS_161 : mwS mr_161 := ⟨rfl, by decide +kernel, by decide +kernel, by decide +kernel, by decide +kernel, fun h => absurd h (by decide), Or.inr (by decide), by decide, by decide, by decide⟩
theorem mwS_162 : mwS mr_162 := ⟨rfl, by decide +kernel, by decide +kernel, by decide +kernel, by decide +kernel, fun h => absurd h (by decide), Or.inr (by decide), by decide, by decide, by decide⟩
theorem mwS_163 : mwS mr_163 := ⟨rfl, by decide +kernel, by decide +kernel, by decide +kernel, by decide +kernel, fun h => absurd h (by decide), Or.inr (by decide), by decide, by decide, by decide⟩
theorem mwS_164 : mwS mr_164 := ⟨rfl, by decide +kernel, by decide +kernel, by decide +kernel, by decide +kernel, fun h => absurd h (by decide), Or.inr (by decide), by decide, by decide, by decide⟩
theorem mwS_165 : mwS mr_165 := ⟨rfl, by decide +kernel, by decide +kernel, by decide +kernel, by decide +kernel, fun h => absurd h (by decide), Or.inr (by decide), by decide, by decide, by decide⟩
theorem mwS_166 : mwS mr_166 := ⟨rfl, by decide +kernel, by decide +kernel, by decide +kernel, by decide +kernel, fun h => absurd h (by decide), Or.inr (by decide), by decide, by decide, by decide⟩
theorem mwS_167 : mwS mr_167 := ⟨rfl, by decide +kernel, by decide +kernel, by decide +kernel, by decide +kernel, fun h => absurd h (by decide), Or.inr (by decide), by decide, by decide, by decide⟩
theorem mwS_168 : mwS mr_168 := ⟨rfl, by decide +kernel, by decide +kernel, by decide +kernel, by decide +kernel, fun h => absurd h (by decide), Or.inr (by decide), by decide, by decide, by decide⟩
theorem mwS_169 : mwS mr_169 := ⟨rfl, by decide +kernel, by decide +kernel, by decide +kernel, by decide +kernel, fun h => absurd h (by decide), Or.inr (by decide), by decide, by decide, by decide⟩
theorem mwS_170 : mwS mr_170 := ⟨rfl, by decide +kernel, by decide +kernel, by decide +kernel, by decide +kernel, fun h => absurd h (by decide), Or.inl rfl, by decide, by decide, by decide⟩
theorem mwS_171 : mwS mr_171 := ⟨rfl, by decide +kernel, by decide +kernel, by decide +kernel, by decide +kernel, fun _ => ⟨rfl, rfl⟩, Or.inr (by decide), by decide, by decide, by decide⟩
theorem mwS_172 : mwS mr_172 := ⟨rfl, by decide +kernel, by decide +kernel, by decide +kernel, by decide +kernel, fun h => absurd h (by decide), Or.inr (by decide), by decide, by decide, by decide⟩
theorem mwS_173 : mwS mr_173 := ⟨rfl, by decide +kernel, by decide +kernel, by decide +kernel, by decide +kernel, fun h => absurd h (by decide), Or.inl rfl, by decide, by decide, by decide⟩
theorem mwS_174 : mwS mr_174 := ⟨rfl, by decide +kernel, by decide +kernel, by decide +kernel, by decide +kernel, fun h => absurd h (by decide), Or.inl rfl, by decide, by decide, by decide⟩
theorem mwS_175 : mwS mr_175 := ⟨rfl, by decide +kernel, by decide +kernel, by decide +kernel, by decide +kernel, fun h => absurd h (by decide), Or.inl rfl, by decide, by decide, by decide⟩
theorem mwS_176 : mwS mr_176 := ⟨rfl, by decide +kernel, by decide +kernel, by decide +kernel, by decide +kernel, fun h => absurd h (by decide), Or.inl rfl, by decide, by decide, by decide⟩
theorem mwS_177 : mwS mr_177 := ⟨rfl, by decide +kernel, by decide +kernel, by decide +kernel, by decide +kernel, fun h => absurd h (by decide), Or.inr (by decide), by decide, by decide, by decide⟩
theorem mwS_178 : mwS mr_178 := ⟨rfl, by decide +kernel, by decide +kernel, by decide +kernel, by decide +kernel, fun h => absurd h (by decide), Or.inr (by decide), by decide, by decide, by decide⟩
theorem mwS_179 : mwS mr_179 := ⟨rfl, by decide +kernel, by decide +kernel, by decide +kernel, by decide +kernel, fun h => absurd h (by decide), Or.inr (by decide), by decide, by decide, by decide⟩
theorem mwS_180 : mwS mr_180 := ⟨rfl, by decide +kernel, by decide +kernel, by decide +kernel, by decide +kernel, fun h => absurd h (by decide), Or.inr (by decide), by decide, by decide, by decide⟩
theorem mwS_181 : mwS mr_181 := ⟨rfl, by decide +kernel, by decide +kernel, by decide +kernel, by decide +kernel, fun h => absurd h (by decide), Or.inr (by decide), by decide, by decide, by decide⟩
theorem mwS_182 : mwS mr_182 := ⟨rfl, by decide +kernel, by decide +kernel, by decide +kernel, by decide +kernel, fun h => absurd h (by decide), Or.inr (by decide), by decide, by decide, by decide⟩
theorem mwS_183 : mwS mr_183 := ⟨rfl, by decide +kernel, by decide +kernel, by decide +kernel, by decide +kernel, fun h => absurd h (by decide), Or.inl rfl, by decide, by decide, by decide⟩
theorem mwS_184 : mwS mr_184 := ⟨rfl, by decide +kernel, by decide +kernel, by decide +kernel, by decide +kernel, fun h => absurd h (by decide), Or.inr (by decide), by decide, by decide, by decide⟩
theorem mwS_185 : mwS mr_185 := ⟨rfl, by decide +kernel, by decide +kernel, by decide +kernel, by decide +kernel, fun h => absurd h (by decide), Or.inr (by decide), by decide, by decide, by decide⟩
theorem mwS_186 : mwS mr_186 := ⟨rfl, by decide +kernel, by decide +kernel, by decide +kernel, by decide +kernel, fun h => absurd h (by decide), Or.inr (by decide), by decide, by decide, by decide⟩
theorem mwS_187 : mwS mr_187 := ⟨rfl, by decide +kernel, by decide +kernel, by decide +kernel, by decide +kernel, fun h => absurd h (by decide), Or.inr (by decide), by decide, by decide, by decide⟩
theorem mwS_188 : mwS mr_188 := ⟨rfl, by decide +kernel, by decide +kernel, by decide +kernel, by decide +kernel, fun h => absurd h (by decide), Or.inr (by decide), by decide, by decide, by decide⟩
theorem mwS_189 : mwS mr_189 := ⟨rfl, by decide +kernel, by decide +kernel, by decide +kernel, by decide +kernel, fun h => absurd h (by decide), Or.inr (by decide), by decide, by decide, by decide⟩
theorem mwS_190 : mwS mr_190 := ⟨rfl, by decide +kernel, by decide +kernel, by decide +kernel, by decide +kernel, fun h => absurd h (by decide), Or.inr (by decide), by decide, by decide, by decide⟩
theorem mwS_191 : mwS mr_191 := ⟨rfl, by decide +kernel, by decide +kernel, by decide +kernel, by decide +kernel, fun h => absurd h (by decide), Or.inr (by decide), by decide, by decide, by decide⟩
theorem mwS_192 : mwS mr_192 := ⟨rfl, by decide +kernel, by decide +kernel, by decide +kernel, by decide +kernel, fun h => absurd h (by decide), Or.inr (by decide), by decide, by decide, by decide⟩
theorem mwS_193 : mwS mr_193 := ⟨rfl, by decide +kernel, by decide +kernel, by decide +kernel, by decide +kernel, fun h => absurd h (by decide), Or.inr (by decide), by decide, by decide, by decide⟩
theorem mwS_194 : mwS mr_194 := ⟨rfl, by decide +kernel, by decide +kernel, by decide +kernel, by decide +kernel, fun h => absurd h (by decide), Or.inr (by decide), by decide, by decide, by decide⟩
theorem mwS_195 : mwS mr_195 := ⟨rfl, by decide +kernel, by decide +kernel, by decide +kernel, by decide +kernel, fun h => absurd h (by decide), Or.inr (by decide), by decide, by decide, by decide⟩
theorem mwS_196 : mwS mr_196 := ⟨rfl, by decide +kernel, by decide +kernel, by decide +kernel, by decide +kernel, fun h => absurd h (by decide), Or.inr (by decide), by decide, by decide, by decide⟩
theorem mwS_197 : mwS mr_197 := ⟨rfl, by decide +kernel, by decide +kernel, by decide +kernel, by decide +kernel, fun h => absurd h (by decide), Or.inr (by decide), by decide, by decide, by decide⟩
theorem mwS_198 : mwS mr_198 := ⟨rfl, by decide +kernel, by decide +kernel, by decide +kernel, by decide +kernel, fun h => absurd h (by decide), Or.inr (by decide), by decide, by decide, by decide⟩
theorem mwS_199 : mwS mr_199 := ⟨rfl, by decide +kernel, by decide +kernel, by decide +kernel, by decide +kernel, fun h => absurd h (by decide), Or.inr (by decide), by decide, by decide, by decide⟩
theorem mwS_200 : mwS mr_200 := ⟨rfl, by decide +kernel, by decide +kernel, by decide +kernel, by decide +kernel, fun h => absurd h (by decide), Or.inr (by decide), by decide, by decide, by decide⟩
theorem mwS_201 : mwS mr_201 := ⟨rfl, by decide +kernel, by decide +kernel, by decide +kernel, by decide +kernel, fun h => absurd h (by decide), Or.inr (by decide), by decide, by decide, by decide⟩
theorem mwS_202 : mwS mr_202 := ⟨rfl, by decide +kernel, by decide +kernel, by decide +kernel, by decide +kernel, fun h => absurd h (by decide), Or.inl rfl, by decide, by decide, by decide⟩
theorem mwS_203 : mwS mr_203 := ⟨rfl, by decide +kernel, by decide +kernel, by decide +kernel, by decide +kernel, fun h => absurd h (by decide), Or.inl rfl, by decide, by decide, by decide⟩
theorem mwS_204 : mwS mr_204 := ⟨rfl, by decide +kernel, by decide +kernel, by decide +kernel, by decide +kernel, fun h => absurd h (by decide), Or.inl rfl, by decide, by decide, by decide⟩
theorem mwS_205 : mwS mr_205 := ⟨rfl, by decide +kernel, by decide +kernel, by decide +kernel, by decide +kernel, fun h => absurd h (by decide), Or.inr (by decide), by decide, by decide, by decide⟩
theorem mwS_206 : mwS mr_206 := ⟨rfl, by decide +kernel, by decide +kernel, by decide +kernel, by decide +kernel, fun h => absurd h (by decide), Or.inr (by decide), by decide, by decide, by decide⟩
theorem mwS_207 : mwS mr_207 := ⟨rfl, by decide +kernel, by decide +kernel, by decide +kernel, by decide +kernel, fun h => absurd h (by decide), Or.inr (by decide), by decide, by decide, by decide⟩
theorem mwS_208 : mwS mr_208 := ⟨rfl, by decide +kernel, by decide +kernel, by decide +kernel, by decide +kernel, fun h => absurd h (by decide), Or.inr (by decide), by decide, by decide, by decide⟩
theorem mwS_209 : mwS mr_209 := ⟨rfl, by decide +kernel, by decide +kernel, by decide +kernel, by decide +kernel, fun h => absurd h (by decide), Or.inr (by decide), by decide, by decide, by decide⟩
theorem mwS_210 : mwS mr_210 := ⟨rfl, by decide +kernel, by decide +kernel, by decide +kernel, by decide +kernel, fun h => absurd h (by decide), Or.inr (by decide), by decide, by decide, by decide⟩
theorem mwS_211 : mwS mr_211 := ⟨rfl, by decide +kernel, by decide +kernel, by decide +kernel, by decide +kernel, fun h => absurd h (by decide), Or.inr (by decide), by decide, by decide, by decide⟩
theorem mwS_212 : mwS mr_212 := ⟨rfl, by decide +kernel, by decide +kernel, by decide +kernel, by decide +kernel, fun h => absurd h (by decide), Or.inr (by decide), by decide, by decide, by decide⟩
theorem mwS_213 : mwS mr_213 := ⟨rfl, by decide +kernel, by decide +kernel, by decide +kernel, by decide +kernel, fun h => absurd h (by decide), Or.inr (by decide), by decide, by decide, by decide⟩
theorem mwS_214 : mwS mr_214 := ⟨rfl, by decide +kernel, by decide +kernel, by decide +kernel, by decide +kernel, fun h => absurd h (by decide), Or.inr (by decide), by decide, by decide, by decide⟩
theorem mwS_215 : mwS mr_215 := ⟨rfl, by decide +kernel, by decide +kernel, by decide +kernel, by decide +kernel, fun h => absurd h (by decide), Or.inr (by decide), by decide, by decide, by decide⟩
theorem mwS_216 : mwS mr_216 := ⟨rfl, by decide +kernel, by decide +kernel, by decide +kernel, by decide +kernel, fun h => absurd h (by decide), Or.inr (by decide), by decide, by decide, by decide⟩
theorem mwS_217 : mwS mr_217 := ⟨rfl, by decide +kernel, by decide +kernel, by decide +kernel, by decide +kernel, fun h => absurd h (by decide), Or.inr (by decide), by decide, by decide, by decide⟩
theorem mwS_218 : mwS mr_218 := ⟨rfl, by decide +kernel, by decide +kernel, by decide +kernel, by decide +kernel, fun h => absurd h (by decide), Or.inr (by decide), by decide, by decide, by decide⟩
theorem mwS_219 : mwS mr_219 := ⟨rfl, by decide +kernel, by decide +kernel, by decide +kernel, by decide +kernel, fun h => absurd h (by decide), Or.inr (by decide), by decide, by decide, by decide⟩
theorem mwS_220 : mwS mr_220 := ⟨rfl, by decide +kernel, by decide +kernel, by decide +kernel, by decide +kernel, fun h => absurd h (by decide), Or.inr (by decide), by decide, by decide, by decide⟩
theorem mwS_221 : mwS mr_221 := ⟨rfl, by decide +kernel, by decide +kernel, by decide +kernel, by decide +kernel, fun h => absurd h (by decide), Or.inr (by decide), by decide, by decide, by decide⟩
theorem mwS_222 : mwS mr_222 := ⟨rfl, by decide +kernel, by decide +kernel, by decide +kernel, by decide +kernel, fun h => absurd h (by decide), Or.inr (by decide), by decide, by decide, by decide⟩
theorem mwS_223 : mwS mr_223 := ⟨rfl, by decide +kernel, by decide +kernel, by decide +kernel, by decide +kernel, fun h => absurd h (by decide), Or.inr (by decide), by decide, by decide, by decide⟩
theorem mwS_224 : mwS mr_224 := ⟨rfl, by decide +kernel, by decide +kernel, by decide +kernel, by decide +kernel, fun h => absurd h (by decide), Or.inr (by decide), by decide, by decide, by decide⟩
theorem mwS_225 : mwS mr_225 := ⟨rfl, by decide +kernel, by decide +kernel, by decide +kernel, by decide +kernel, fun h => absurd h (by decide), Or.inr (by decide), by decide, by decide, by decide⟩
theorem mwS_226 : mwS mr_226 := ⟨rfl, by decide +kernel, by decide +kernel, by decide +kernel, by decide +kernel, fun h => absurd h (by decide), Or.inr (by decide), by decide, by decide, by decide⟩
theorem mwS_227 : mwS mr_227 := ⟨rfl, by decide +kernel, by decide +kernel, by decide +kernel, by decide +kernel, fun h => absurd h (by decide), Or.inr (by decide), by decide, by decide, by decide⟩
theorem mwS_228 : mwS mr_228 := ⟨rfl, by decide +kernel, by decide +kernel, by decide +kernel, by decide +kernel, fun h => absurd h (by decide), Or.inr (by decide), by decide, by decide, by decide⟩
theorem mwS_229 : mwS mr_229 := ⟨rfl, by decide +kernel, by decide +kernel, by decide +kernel, by decide +kernel, fun h => absurd h (by decide), Or.inr (by decide), by decide, by decide, by decide⟩
theorem mwS_230 : mwS mr_230 := ⟨rfl, by decide +kernel, by decide +kernel, by decide +kernel, by decide +kernel, fun h => absurd h (by decide), Or.inr (by decide), by decide, by decide, by decide⟩
theorem mwS_231 : mwS mr_231 := ⟨rfl, by decide +kernel, by decide +kernel, by decide +kernel, by decide +kernel, fun h => absurd h (by decide), Or.inr (by decide), by decide, by decide, by decide⟩
theorem mwS_232 : mwS mr_232 := ⟨rfl, by decide +kernel, by decide +kernel, by decide +kernel, by decide +kernel, fun h => absurd h (by decide), Or.inr (by decide), by decide, by decide, by decide⟩
theorem mwS_233 : mwS mr_233 := ⟨rfl, by decide +kernel, by decide +kernel, by decide +kernel, by decide +kernel, fun h => absurd h (by decide), Or.inr (by decide), by decide, by decide, by decide⟩
theorem mwS_234 : mwS mr_234 := ⟨rfl, by decide +kernel, by decide +kernel, by decide +kernel, by decide +kernel, fun h => absurd h (by decide), Or.inr (by decide), by decide, by decide, by decide⟩
theorem mwS_235 : mwS mr_235 := ⟨rfl, by decide +kernel, by decide +kernel, by decide +kernel, by decide +kernel, fun h => absurd h (by decide), Or.inr (by decide), by decide, by decide, by decide⟩
theorem mwS_236 : mwS mr_236 := ⟨rfl, by decide +kernel, by decide +kernel, by decide +kernel, by decide +kernel, fun h => absurd h (by decide), Or.inr (by decide), by decide, by decide, by decide⟩
theorem mwS_237 : mwS mr_237 := ⟨rfl, by decide +kernel, by decide +kernel, by decide +kernel, by decide +kernel, fun h => absurd h (by decide), Or.inr (by decide), by decide, by decide, by decide⟩
theorem mwS_238 : mwS mr_238 := ⟨rfl, by decide +kernel, by decide +kernel, by decide +kernel, by decide +kernel, fun h => absurd h (by decide), Or.inr (by decide), by decide, by decide, by decide⟩
theorem mwS_239 : mwS mr_239 := ⟨rfl, by decide +kernel, by decide +kernel, by decide +kernel, by decide +kernel, fun h => absurd h (by decide), Or.inr (by decide), by decide, by decide, by decide⟩
theorem mwS_240 : mwS mr_240 := ⟨rfl, by decide +kernel, by decide +kernel, by decide +kernel, by decide +kernel, fun h => absurd h (by decide), Or.inr (by decide), by decide, by decide, by decide⟩
theorem mwS_241 : mwS mr_241 := ⟨rfl, by decide +kernel, by decide +kernel, by decide +kernel, by decide +kernel, fun h => absurd h (by decide), Or.inr (by decide), by decide, by decide, by decide⟩
theorem mwS_242 : mwS mr_242 := ⟨rfl, by decide +kernel, by decide +kernel, by decide +kernel, by decide +kernel, fun h => absurd h (by decide), Or.inr (by decide), by decide, by decide, by decide⟩
theorem mwS_243 : mwS mr_243 := ⟨rfl, by decide +kernel, by decide +kernel, by decide +kernel, by decide +kernel, fun h => absurd h (by decide), Or.inr (by decide), by decide, by decide, by decide⟩
theorem mwS_244 : mwS mr_244 := ⟨rfl, by decide +kernel, by decide +kernel, by decide +kernel, by decide +kernel, fun h => absurd h (by decide), Or.inr (by decide), by decide, by decide, by decide⟩
theorem mwS_245 : mwS mr_245 := ⟨rfl, by decide +kernel, by decide +kernel, by decide +kernel, by decide +kernel, fun h => absurd h (by decide), Or.inr (by decide), by decide, by decide, by decide⟩
theorem mwS_246 : mwS mr_246 := ⟨rfl, by decide +kernel, by decide +kernel, by decide +kernel, by decide +kernel, fun h => absurd h (by decide), Or.inr (by decide), by decide, by decide, by decide⟩
theorem mwS_247 : mwS mr_247 := ⟨rfl, by decide +kernel, by decide +kernel, by decide +kernel, by decide +kernel, fun h => absurd h (by decide), Or.inr (by decide), by decide, by decide, by decide⟩
theorem mwS_248 : mwS mr_248 := ⟨rfl, by decide +kernel, by decide +kernel, by decide +kernel, by decide +kernel, fun h => absurd h (by decide), Or.inr (by decide), by decide, by decide, by decide⟩
theorem mwS_249 : mwS mr_249 := ⟨rfl, by decide +kernel, by decide +kernel, by decide +kernel, by decide +kernel, fun h => absurd h (by decide), Or.inr (by decide), by decide, by decide, by decide⟩
theorem mwS_250 : mwS mr_250 := ⟨rfl, by decide +kernel, by decide +kernel, by decide +kernel, by decide +kernel, fun h => absurd h (by decide), Or.inr (by decide), by decide, by decide, by decide⟩
theorem mwS_251 : mwS mr_251 := ⟨rfl, by decide +kernel, by decide +kernel, by decide +kernel, by decide +kernel, fun h => absurd h (by decide), Or.inr (by decide), by decide, by decide, by decide⟩
theorem mwS_252 : mwS mr_252 := ⟨rfl, by decide +kernel, by decide +kernel, by decide +kernel, by decide +kernel, fun h => absurd h (by decide), Or.inr (by decide), by decide, by decide, by decide⟩
theorem mwS_253 : mwS mr_253 := ⟨rfl, by decide +kernel, by decide +kernel, by decide +kernel, by decide +kernel, fun h => absurd h (by decide), Or.inr (by decide), by decide, by decide, by decide⟩
theorem mwS_254 : mwS mr_254 := ⟨rfl, by decide +kernel, by decide +kernel, by decide +kernel, by decide +kernel, fun h => absurd h (by decide), Or.inr (by decide), by decide, by decide, by decide⟩
theorem mwS_255 : mwS mr_255 := ⟨rfl, by decide +kernel, by decide +kernel, by decide +kernel, by decide +kernel, fun h => absurd h (by decide), Or.inr (by decide), by decide, by decide, by decide⟩
theorem mwS_256 : mwS mr_256 := ⟨rfl, by decide +kernel, by decide +kernel, by decide +kernel, by decide +kernel, fun h => absurd h (by decide), Or.inr (by decide), by decide, by decide, by decide⟩
theorem mwS_257 : mwS mr_257 := ⟨rfl, by decide +kernel, by decide +kernel, by decide +kernel, by decide +kernel, fun h => absurd h (by decide), Or.inr (by decide), by decide, by decide, by decide⟩
theorem mwS_258 : mwS mr_258 := ⟨rfl, by decide +kernel, by decide +kernel, by decide +kernel, by decide +kernel, fun h => absurd h (by decide), Or.inr (by decide), by decide, by decide, by decide⟩
theorem mwS_259 : mwS mr_259 := ⟨rfl, by decide +kernel, by decide +kernel, by decide +kernel, by decide +kernel, fun h => absurd h (by decide), Or.inr (by decide), by decide, by decide, by decide⟩
theorem mwS_260 : mwS mr_260 := ⟨rfl, by decide +kernel, by decide +kernel, by decide +kernel, by decide +kernel, fun h => absurd h (by decide), Or.inr (by decide), by decide, by decide, by decide⟩
theorem mwS_261 : mwS mr_261 := ⟨rfl, by decide +kernel, by decide +kernel, by decide +kernel, by decide +kernel, fun h => absurd h (by decide), Or.inl rfl, by decide, by decide, by decide⟩
def mOkC (r : mR) : Prop := r.2.2.2.2.2.2.2.2.2.1.all (mChI r.2.2.2.2.1 (decide (r.2.2.2.2.2.2.1 = 2)) (mBz r.2.2.2.1) r.2.1) = true
def mOk (r : mR) : Prop := mwR r ∧ mwS r ∧ mOkC r
theorem mOk_0 : ∀ r ∈ mT_0, mOk r := List.forall_mem_cons.mpr ⟨⟨mwR_0, mwS_0, ck_0⟩, List.forall_mem_cons.mpr ⟨⟨mwR_1, mwS_1, ck_1⟩, List.forall_mem_cons.mpr ⟨⟨mwR_2, mwS_2, ck_2⟩, List.forall_mem_cons.mpr ⟨⟨mwR_3, mwS_3, ck_3⟩, List.forall_mem_cons.mpr ⟨⟨mwR_4, mwS_4, ck_4⟩, List.forall_mem_cons.mpr ⟨⟨mwR_5, mwS_5, ck_5⟩, List.forall_mem_cons.mpr ⟨⟨mwR_6, mwS_6, ck_6⟩, List.forall_mem_cons.mpr ⟨⟨mwR_7, mwS_7, ck_7⟩, List.forall_mem_cons.mpr ⟨⟨mwR_8, mwS_8, ck_8⟩, List.forall_mem_cons.mpr ⟨⟨mwR_9, mwS_9, ck_9⟩, List.forall_mem_cons.mpr ⟨⟨mwR_10, mwS_10, ck_10⟩, List.forall_mem_cons.mpr ⟨⟨mwR_11, mwS_11, ck_11⟩, List.forall_mem_cons.mpr ⟨⟨mwR_12, mwS_12, ck_12⟩, List.forall_mem_cons.mpr ⟨⟨mwR_13, mwS_13, ck_13⟩, List.forall_mem_cons.mpr ⟨⟨mwR_14, mwS_14, ck_14⟩, List.forall_mem_cons.mpr ⟨⟨mwR_15, mwS_15, ck_15⟩, List.forall_mem_cons.mpr ⟨⟨mwR_16, mwS_16, ck_16⟩, List.forall_mem_cons.mpr ⟨⟨mwR_17, mwS_17, ck_17⟩, List.forall_mem_cons.mpr ⟨⟨mwR_18, mwS_18, ck_18⟩, List.forall_mem_cons.mpr ⟨⟨mwR_19, mwS_19, ck_19⟩, fun _ h => absurd h List.not_mem_nil⟩⟩⟩⟩⟩⟩⟩⟩⟩⟩⟩⟩⟩⟩⟩⟩⟩⟩⟩⟩
theorem mOk_1 : ∀ r ∈ mT_1, mOk r := List.forall_mem_cons.mpr ⟨⟨mwR_20, mwS_20, ck_20⟩, List.forall_mem_cons.mpr ⟨⟨mwR_21, mwS_21, ck_21⟩, List.forall_mem_cons.mpr ⟨⟨mwR_22, mwS_22, ck_22⟩, List.forall_mem_cons.mpr ⟨⟨mwR_23, mwS_23, ck_23⟩, List.forall_mem_cons.mpr ⟨⟨mwR_24, mwS_24, ck_24⟩, List.forall_mem_cons.mpr ⟨⟨mwR_25, mwS_25, ck_25⟩, List.forall_mem_cons.mpr ⟨⟨mwR_26, mwS_26, ck_26⟩, List.forall_mem_cons.mpr ⟨⟨mwR_27, mwS_27, ck_27⟩, List.forall_mem_cons.mpr ⟨⟨mwR_28, mwS_28, ck_28⟩, List.forall_mem_cons.mpr ⟨⟨mwR_29, mwS_29, ck_29⟩, List.forall_mem_cons.mpr ⟨⟨mwR_30, mwS_30, ck_30⟩, List.forall_mem_cons.mpr ⟨⟨mwR_31, mwS_31, ck_31⟩, List.forall_mem_cons.mpr ⟨⟨mwR_32, mwS_32, ck_32⟩, List.forall_mem_cons.mpr ⟨⟨mwR_33, mwS_33, ck_33⟩, List.forall_mem_cons.mpr ⟨⟨mwR_34, mwS_34, ck_34⟩, List.forall_mem_cons.mpr ⟨⟨mwR_35, mwS_35, ck_35⟩, List.forall_mem_cons.mpr ⟨⟨mwR_36, mwS_36, ck_36⟩, List.forall_mem_cons.mpr ⟨⟨mwR_37, mwS_37, ck_37⟩, List.forall_mem_cons.mpr ⟨⟨mwR_38, mwS_38, ck_38⟩, List.forall_mem_cons.mpr ⟨⟨mwR_39, mwS_39, ck_39⟩, fun _ h => absurd h List.not_mem_nil⟩⟩⟩⟩⟩⟩⟩⟩⟩⟩⟩⟩⟩⟩⟩⟩⟩⟩⟩⟩
theorem mOk_2 : ∀ r ∈ mT_2, mOk r := List.forall_mem_cons.mpr ⟨⟨mwR_40, mwS_40, ck_40⟩, List.forall_mem_cons.mpr ⟨⟨mwR_41, mwS_41, ck_41⟩, List.forall_mem_cons.mpr ⟨⟨mwR_42, mwS_42, ck_42⟩, List.forall_mem_cons.mpr ⟨⟨mwR_43, mwS_43, ck_43⟩, List.forall_mem_cons.mpr ⟨⟨mwR_44, mwS_44, ck_44⟩, List.forall_mem_cons.mpr ⟨⟨mwR_45, mwS_45, ck_45⟩, List.forall_mem_cons.mpr ⟨⟨mwR_46, mwS_46, ck_46⟩, List.forall_mem_cons.mpr ⟨⟨mwR_47, mwS_47, ck_47⟩, List.forall_mem_cons.mpr ⟨⟨mwR_48, mwS_48, ck_48⟩, List.forall_mem_cons.mpr ⟨⟨mwR_49, mwS_49, ck_49⟩, List.forall_mem_cons.mpr ⟨⟨mwR_50, mwS_50, ck_50⟩, List.forall_mem_cons.mpr ⟨⟨mwR_51, mwS_51, ck_51⟩, List.forall_mem_cons.mpr ⟨⟨mwR_52, mwS_52, ck_52⟩, List.forall_mem_cons.mpr ⟨⟨mwR_53, mwS_53, ck_53⟩, List.forall_mem_cons.mpr ⟨⟨mwR_54, mwS_54, ck_54⟩, List.forall_mem_cons.mpr ⟨⟨mwR_55, mwS_55, ck_55⟩, List.forall_mem_cons.mpr ⟨⟨mwR_56, mwS_56, ck_56⟩, List.forall_mem_cons.mpr ⟨⟨mwR_57, mwS_57, ck_57⟩, List.forall_mem_cons.mpr ⟨⟨mwR_58, mwS_58, ck_58⟩, List.forall_mem_cons.mpr ⟨⟨mwR_59, mwS_59, ck_59⟩, fun _ h => absurd h List.not_mem_nil⟩⟩⟩⟩⟩⟩⟩⟩⟩⟩⟩⟩⟩⟩⟩⟩⟩⟩⟩⟩
theorem mOk_3 : ∀ r ∈ mT_3, mOk r := List.forall_mem_cons.mpr ⟨⟨mwR_60, mwS_60, ck_60⟩, List.forall_mem_cons.mpr ⟨⟨mwR_61, mwS_61, ck_61⟩, List.forall_mem_cons.mpr ⟨⟨mwR_62, mwS_62, ck_62⟩, List.forall_mem_cons.mpr ⟨⟨mwR_63, mwS_63, ck_63⟩, List.forall_mem_cons.mpr ⟨⟨mwR_64, mwS_64, ck_64⟩, List.forall_mem_cons.mpr ⟨⟨mwR_65, mwS_65, ck_65⟩, List.forall_mem_cons.mpr ⟨⟨mwR_66, mwS_66, ck_66⟩, List.forall_mem_cons.mpr ⟨⟨mwR_67, mwS_67, ck_67⟩, List.forall_mem_cons.mpr ⟨⟨mwR_68, mwS_68, ck_68⟩, List.forall_mem_cons.mpr ⟨⟨mwR_69, mwS_69, ck_69⟩, List.forall_mem_cons.mpr ⟨⟨mwR_70, mwS_70, ck_70⟩, List.forall_mem_cons.mpr ⟨⟨mwR_71, mwS_71, ck_71⟩, List.forall_mem_cons.mpr ⟨⟨mwR_72, mwS_72, ck_72⟩, List.forall_mem_cons.mpr ⟨⟨mwR_73, mwS_73, ck_73⟩, List.forall_mem_cons.mpr ⟨⟨mwR_74, mwS_74, ck_74⟩, List.forall_mem_cons.mpr ⟨⟨mwR_75, mwS_75, ck_75⟩, List.forall_mem_cons.mpr ⟨⟨mwR_76, mwS_76, ck_76⟩, List.forall_mem_cons.mpr ⟨⟨mwR_77, mwS_77, ck_77⟩, List.forall_mem_cons.mpr ⟨⟨mwR_78, mwS_78, ck_78⟩, List.forall_mem_cons.mpr ⟨⟨mwR_79, mwS_79, ck_79⟩, fun _ h => absurd h List.not_mem_nil⟩⟩⟩⟩⟩⟩⟩⟩⟩⟩⟩⟩⟩⟩⟩⟩⟩⟩⟩⟩
theorem mOk_4 : ∀ r ∈ mT_4, mOk r := List.forall_mem_cons.mpr ⟨⟨mwR_80, mwS_80, ck_80⟩, List.forall_mem_cons.mpr ⟨⟨mwR_81, mwS_81, ck_81⟩, List.forall_mem_cons.mpr ⟨⟨mwR_82, mwS_82, ck_82⟩, List.forall_mem_cons.mpr ⟨⟨mwR_83, mwS_83, ck_83⟩, List.forall_mem_cons.mpr ⟨⟨mwR_84, mwS_84, ck_84⟩, List.forall_mem_cons.mpr ⟨⟨mwR_85, mwS_85, ck_85⟩, List.forall_mem_cons.mpr ⟨⟨mwR_86, mwS_86, ck_86⟩, List.forall_mem_cons.mpr ⟨⟨mwR_87, mwS_87, ck_87⟩, List.forall_mem_cons.mpr ⟨⟨mwR_88, mwS_88, ck_88⟩, List.forall_mem_cons.mpr ⟨⟨mwR_89, mwS_89, ck_89⟩, List.forall_mem_cons.mpr ⟨⟨mwR_90, mwS_90, ck_90⟩, List.forall_mem_cons.mpr ⟨⟨mwR_91, mwS_91, ck_91⟩, List.forall_mem_cons.mpr ⟨⟨mwR_92, mwS_92, ck_92⟩, List.forall_mem_cons.mpr ⟨⟨mwR_93, mwS_93, ck_93⟩, List.forall_mem_cons.mpr ⟨⟨mwR_94, mwS_94, ck_94⟩, List.forall_mem_cons.mpr ⟨⟨mwR_95, mwS_95, ck_95⟩, List.forall_mem_cons.mpr ⟨⟨mwR_96, mwS_96, ck_96⟩, List.forall_mem_cons.mpr ⟨⟨mwR_97, mwS_97, ck_97⟩, List.forall_mem_cons.mpr ⟨⟨mwR_98, mwS_98, ck_98⟩, List.forall_mem_cons.mpr ⟨⟨mwR_99, mwS_99, ck_99⟩, fun _ h => absurd h List.not_mem_nil⟩⟩⟩⟩⟩⟩⟩⟩⟩⟩⟩⟩⟩⟩⟩⟩⟩⟩⟩⟩
theorem mOk_5 : ∀ r ∈ mT_5, mOk r := List.forall_mem_cons.mpr ⟨⟨mwR_100, mwS_100, ck_100⟩, List.forall_mem_cons.mpr ⟨⟨mwR_101, mwS_101, ck_101⟩, List.forall_mem_cons.mpr ⟨⟨mwR_102, mwS_102, ck_102⟩, List.forall_mem_cons.mpr ⟨⟨mwR_103, mwS_103, ck_103⟩, List.forall_mem_cons.mpr ⟨⟨mwR_104, mwS_104, ck_104⟩, List.forall_mem_cons.mpr ⟨⟨mwR_105, mwS_105, ck_105⟩, List.forall_mem_cons.mpr ⟨⟨mwR_106, mwS_106, ck_106⟩, List.forall_mem_cons.mpr ⟨⟨mwR_107, mwS_107, ck_107⟩, List.forall_mem_cons.mpr ⟨⟨mwR_108, mwS_108, ck_108⟩, List.forall_mem_cons.mpr ⟨⟨mwR_109, mwS_109, ck_109⟩, List.forall_mem_cons.mpr ⟨⟨mwR_110, mwS_110, ck_110⟩, List.forall_mem_cons.mpr ⟨⟨mwR_111, mwS_111, ck_111⟩, List.forall_mem_cons.mpr ⟨⟨mwR_112, mwS_112, ck_112⟩, List.forall_mem_cons.mpr ⟨⟨mwR_113, mwS_113, ck_113⟩, List.forall_mem_cons.mpr ⟨⟨mwR_114, mwS_114, ck_114⟩, List.forall_mem_cons.mpr ⟨⟨mwR_115, mwS_115, ck_115⟩, List.forall_mem_cons.mpr ⟨⟨mwR_116, mwS_116, ck_116⟩, List.forall_mem_cons.mpr ⟨⟨mwR_117, mwS_117, ck_117⟩, List.forall_mem_cons.mpr ⟨⟨mwR_118, mwS_118, ck_118⟩, List.forall_mem_cons.mpr ⟨⟨mwR_119, mwS_119, ck_119⟩, fun _ h => absurd h List.not_mem_nil⟩⟩⟩⟩⟩⟩⟩⟩⟩⟩⟩⟩⟩⟩⟩⟩⟩⟩⟩⟩
theorem mOk_6 : ∀ r ∈ mT_6, mOk r := List.forall_mem_cons.mpr ⟨⟨mwR_120, mwS_120, ck_120⟩, List.forall_mem_cons.mpr ⟨⟨mwR_121, mwS_121, ck_121⟩, List.forall_mem_cons.mpr ⟨⟨mwR_122, mwS_122, ck_122⟩, List.forall_mem_cons.mpr ⟨⟨mwR_123, mwS_123, ck_123⟩, List.forall_mem_cons.mpr ⟨⟨mwR_124, mwS_124, ck_124⟩, List.forall_mem_cons.mpr ⟨⟨mwR_125, mwS_125, ck_125⟩, List.forall_mem_cons.mpr ⟨⟨mwR_126, mwS_126, ck_126⟩, List.forall_mem_cons.mpr ⟨⟨mwR_127, mwS_127, ck_127⟩, List.forall_mem_cons.mpr ⟨⟨mwR_128, mwS_128, ck_128⟩, List.forall_mem_cons.mpr ⟨⟨mwR_129, mwS_129, ck_129⟩, List.forall_mem_cons.mpr ⟨⟨mwR_130, mwS_130, ck_130⟩, List.forall_mem_cons.mpr ⟨⟨mwR_131, mwS_131, ck_131⟩, List.forall_mem_cons.mpr ⟨⟨mwR_132, mwS_132, ck_132⟩, List.forall_mem_cons.mpr ⟨⟨mwR_133, mwS_133, ck_133⟩, List.forall_mem_cons.mpr ⟨⟨mwR_134, mwS_134, ck_134⟩, List.forall_mem_cons.mpr ⟨⟨mwR_135, mwS_135, ck_135⟩, List.forall_mem_cons.mpr ⟨⟨mwR_136, mwS_136, ck_136⟩, List.forall_mem_cons.mpr ⟨⟨mwR_137, mwS_137, ck_137⟩, List.forall_mem_cons.mpr ⟨⟨mwR_138, mwS_138, ck_138⟩, List.forall_mem_cons.mpr ⟨⟨mwR_139, mwS_139, ck_139⟩, fun _ h => absurd h List.not_mem_nil⟩⟩⟩⟩⟩⟩⟩⟩⟩⟩⟩⟩⟩⟩⟩⟩⟩⟩⟩⟩
theorem mOk_7 : ∀ r ∈ mT_7, mOk r := List.forall_mem_cons.mpr ⟨⟨mwR_140, mwS_140, ck_140⟩, List.forall_mem_cons.mpr ⟨⟨mwR_141, mwS_141, ck_141⟩, List.forall_mem_cons.mpr ⟨⟨mwR_142, mwS_142, ck_142⟩, List.forall_mem_cons.mpr ⟨⟨mwR_143, mwS_143, ck_143⟩, List.forall_mem_cons.mpr ⟨⟨mwR_144, mwS_144, ck_144⟩, List.forall_mem_cons.mpr ⟨⟨mwR_145, mwS_145, ck_145⟩, List.forall_mem_cons.mpr ⟨⟨mwR_146, mwS_146, ck_146⟩, List.forall_mem_cons.mpr ⟨⟨mwR_147, mwS_147, ck_147⟩, List.forall_mem_cons.mpr ⟨⟨mwR_148, mwS_148, ck_148⟩, List.forall_mem_cons.mpr ⟨⟨mwR_149, mwS_149, ck_149⟩, List.forall_mem_cons.mpr ⟨⟨mwR_150, mwS_150, ck_150⟩, List.forall_mem_cons.mpr ⟨⟨mwR_151, mwS_151, ck_151⟩, List.forall_mem_cons.mpr ⟨⟨mwR_152, mwS_152, ck_152⟩, List.forall_mem_cons.mpr ⟨⟨mwR_153, mwS_153, ck_153⟩, List.forall_mem_cons.mpr ⟨⟨mwR_154, mwS_154, ck_154⟩, List.forall_mem_cons.mpr ⟨⟨mwR_155, mwS_155, ck_155⟩, List.forall_mem_cons.mpr ⟨⟨mwR_156, mwS_156, ck_156⟩, List.forall_mem_cons.mpr ⟨⟨mwR_157, mwS_157, ck_157⟩, List.forall_mem_cons.mpr ⟨⟨mwR_158, mwS_158, ck_158⟩, List.forall_mem_cons.mpr ⟨⟨mwR_159, mwS_159, ck_159⟩, fun _ h => absurd h List.not_mem_nil⟩⟩⟩⟩⟩⟩⟩⟩⟩⟩⟩⟩⟩⟩⟩⟩⟩⟩⟩⟩
theorem mOk_8 : ∀ r ∈ mT_8, mOk r := List.forall_mem_cons.mpr ⟨⟨mwR_160, mwS_160, ck_160⟩, List.forall_mem_cons.mpr ⟨⟨mwR_161, mwS_161, ck_161⟩, List.forall_mem_cons.mpr ⟨⟨mwR_162, mwS_162, ck_162⟩, List.forall_mem_cons.mpr ⟨⟨mwR_163, mwS_163, ck_163⟩, List.forall_mem_cons.mpr ⟨⟨mwR_164, mwS_164, ck_164⟩, List.forall_mem_cons.mpr ⟨⟨mwR_165, mwS_165, ck_165⟩, List.forall_mem_cons.mpr ⟨⟨mwR_166, mwS_166, ck_166⟩, List.forall_mem_cons.mpr ⟨⟨mwR_167, mwS_167, ck_167⟩, List.forall_mem_cons.mpr ⟨⟨mwR_168, mwS_168, ck_168⟩, List.forall_mem_cons.mpr ⟨⟨mwR_169, mwS_169, ck_169⟩, List.forall_mem_cons.mpr ⟨⟨mwR_170, mwS_170, ck_170⟩, List.forall_mem_cons.mpr ⟨⟨mwR_171, mwS_171, ck_171⟩, List.forall_mem_cons.mpr ⟨⟨mwR_172, mwS_172, ck_172⟩, List.forall_mem_cons.mpr ⟨⟨mwR_173, mwS_173, ck_173⟩, List.forall_mem_cons.mpr ⟨⟨mwR_174, mwS_174, ck_174⟩, List.forall_mem_cons.mpr ⟨⟨mwR_175, mwS_175, ck_175⟩, List.forall_mem_cons.mpr ⟨⟨mwR_176, mwS_176, ck_176⟩, List.forall_mem_cons.mpr ⟨⟨mwR_177, mwS_177, ck_177⟩, List.forall_mem_cons.mpr ⟨⟨mwR_178, mwS_178, ck_178⟩, List.forall_mem_cons.mpr ⟨⟨mwR_179, mwS_179, ck_179⟩, fun _ h => absurd h List.not_mem_nil⟩⟩⟩⟩⟩⟩⟩⟩⟩⟩⟩⟩⟩⟩⟩⟩⟩⟩⟩⟩
theorem mOk_9 : ∀ r ∈ mT_9, mOk r := List.forall_mem_cons.mpr ⟨⟨mwR_180, mwS_180, ck_180⟩, List.forall_mem_cons.mpr ⟨⟨mwR_181, mwS_181, ck_181⟩, List.forall_mem_cons.mpr ⟨⟨mwR_182, mwS_182, ck_182⟩, List.forall_mem_cons.mpr ⟨⟨mwR_183, mwS_183, ck_183⟩, List.forall_mem_cons.mpr ⟨⟨mwR_184, mwS_184, ck_184⟩, List.forall_mem_cons.mpr ⟨⟨mwR_185, mwS_185, ck_185⟩, List.forall_mem_cons.mpr ⟨⟨mwR_186, mwS_186, ck_186⟩, List.forall_mem_cons.mpr ⟨⟨mwR_187, mwS_187, ck_187⟩, List.forall_mem_cons.mpr ⟨⟨mwR_188, mwS_188, ck_188⟩, List.forall_mem_cons.mpr ⟨⟨mwR_189, mwS_189, ck_189⟩, List.forall_mem_cons.mpr ⟨⟨mwR_190, mwS_190, ck_190⟩, List.forall_mem_cons.mpr ⟨⟨mwR_191, mwS_191, ck_191⟩, List.forall_mem_cons.mpr ⟨⟨mwR_192, mwS_192, ck_192⟩, List.forall_mem_cons.mpr ⟨⟨mwR_193, mwS_193, ck_193⟩, List.forall_mem_cons.mpr ⟨⟨mwR_194, mwS_194, ck_194⟩, List.forall_mem_cons.mpr ⟨⟨mwR_195, mwS_195, ck_195⟩, List.forall_mem_cons.mpr ⟨⟨mwR_196, mwS_196, ck_196⟩, List.forall_mem_cons.mpr ⟨⟨mwR_197, mwS_197, ck_197⟩, List.forall_mem_cons.mpr ⟨⟨mwR_198, mwS_198, ck_198⟩, List.forall_mem_cons.mpr ⟨⟨mwR_199, mwS_199, ck_199⟩, fun _ h => absurd h List.not_mem_nil⟩⟩⟩⟩⟩⟩⟩⟩⟩⟩⟩⟩⟩⟩⟩⟩⟩⟩⟩⟩
theorem mOk_10 : ∀ r ∈ mT_10, mOk r := List.forall_mem_cons.mpr ⟨⟨mwR_200, mwS_200, ck_200⟩, List.forall_mem_cons.mpr ⟨⟨mwR_201, mwS_201, ck_201⟩, List.forall_mem_cons.mpr ⟨⟨mwR_202, mwS_202, ck_202⟩, List.forall_mem_cons.mpr ⟨⟨mwR_203, mwS_203, ck_203⟩, List.forall_mem_cons.mpr ⟨⟨mwR_204, mwS_204, ck_204⟩, List.forall_mem_cons.mpr ⟨⟨mwR_205, mwS_205, ck_205⟩, List.forall_mem_cons.mpr ⟨⟨mwR_206, mwS_206, ck_206⟩, List.forall_mem_cons.mpr ⟨⟨mwR_207, mwS_207, ck_207⟩, List.forall_mem_cons.mpr ⟨⟨mwR_208, mwS_208, ck_208⟩, List.forall_mem_cons.mpr ⟨⟨mwR_209, mwS_209, ck_209⟩, List.forall_mem_cons.mpr ⟨⟨mwR_210, mwS_210, ck_210⟩, List.forall_mem_cons.mpr ⟨⟨mwR_211, mwS_211, ck_211⟩, List.forall_mem_cons.mpr ⟨⟨mwR_212, mwS_212, ck_212⟩, List.forall_mem_cons.mpr ⟨⟨mwR_213, mwS_213, ck_213⟩, List.forall_mem_cons.mpr ⟨⟨mwR_214, mwS_214, ck_214⟩, List.forall_mem_cons.mpr ⟨⟨mwR_215, mwS_215, ck_215⟩, List.forall_mem_cons.mpr ⟨⟨mwR_216, mwS_216, ck_216⟩, List.forall_mem_cons.mpr ⟨⟨mwR_217, mwS_217, ck_217⟩, List.forall_mem_cons.mpr ⟨⟨mwR_218, mwS_218, ck_218⟩, List.forall_mem_cons.mpr ⟨⟨mwR_219, mwS_219, ck_219⟩, fun _ h => absurd h List.not_mem_nil⟩⟩⟩⟩⟩⟩⟩⟩⟩⟩⟩⟩⟩⟩⟩⟩⟩⟩⟩⟩
theorem mOk_11 : ∀ r ∈ mT_11, mOk r := List.forall_mem_cons.mpr ⟨⟨mwR_220, mwS_220, ck_220⟩, List.forall_mem_cons.mpr ⟨⟨mwR_221, mwS_221, ck_221⟩, List.forall_mem_cons.mpr ⟨⟨mwR_222, mwS_222, ck_222⟩, List.forall_mem_cons.mpr ⟨⟨mwR_223, mwS_223, ck_223⟩, List.forall_mem_cons.mpr ⟨⟨mwR_224, mwS_224, ck_224⟩, List.forall_mem_cons.mpr ⟨⟨mwR_225, mwS_225, ck_225⟩, List.forall_mem_cons.mpr ⟨⟨mwR_226, mwS_226, ck_226⟩, List.forall_mem_cons.mpr ⟨⟨mwR_227, mwS_227, ck_227⟩, List.forall_mem_cons.mpr ⟨⟨mwR_228, mwS_228, ck_228⟩, List.forall_mem_cons.mpr ⟨⟨mwR_229, mwS_229, ck_229⟩, List.forall_mem_cons.mpr ⟨⟨mwR_230, mwS_230, ck_230⟩, List.forall_mem_cons.mpr ⟨⟨mwR_231, mwS_231, ck_231⟩, List.forall_mem_cons.mpr ⟨⟨mwR_232, mwS_232, ck_232⟩, List.forall_mem_cons.mpr ⟨⟨mwR_233, mwS_233, ck_233⟩, List.forall_mem_cons.mpr ⟨⟨mwR_234, mwS_234, ck_234⟩, List.forall_mem_cons.mpr ⟨⟨mwR_235, mwS_235, ck_235⟩, List.forall_mem_cons.mpr ⟨⟨mwR_236, mwS_236, ck_236⟩, List.forall_mem_cons.mpr ⟨⟨mwR_237, mwS_237, ck_237⟩, List.forall_mem_cons.mpr ⟨⟨mwR_238, mwS_238, ck_238⟩, List.forall_mem_cons.mpr ⟨⟨mwR_239, mwS_239, ck_239⟩, fun _ h => absurd h List.not_mem_nil⟩⟩⟩⟩⟩⟩⟩⟩⟩⟩⟩⟩⟩⟩⟩⟩⟩⟩⟩⟩
theorem mOk_12 : ∀ r ∈ mT_12, mOk r := List.forall_mem_cons.mpr ⟨⟨mwR_240, mwS_240, ck_240⟩, List.forall_mem_cons.mpr ⟨⟨mwR_241, mwS_241, ck_241⟩, List.forall_mem_cons.mpr ⟨⟨mwR_242, mwS_242, ck_242⟩, List.forall_mem_cons.mpr ⟨⟨mwR_243, mwS_243, ck_243⟩, List.forall_mem_cons.mpr ⟨⟨mwR_244, mwS_244, ck_244⟩, List.forall_mem_cons.mpr ⟨⟨mwR_245, mwS_245, ck_245⟩, List.forall_mem_cons.mpr ⟨⟨mwR_246, mwS_246, ck_246⟩, List.forall_mem_cons.mpr ⟨⟨mwR_247, mwS_247, ck_247⟩, List.forall_mem_cons.mpr ⟨⟨mwR_248, mwS_248, ck_248⟩, List.forall_mem_cons.mpr ⟨⟨mwR_249, mwS_249, ck_249⟩, List.forall_mem_cons.mpr ⟨⟨mwR_250, mwS_250, ck_250⟩, List.forall_mem_cons.mpr ⟨⟨mwR_251, mwS_251, ck_251⟩, List.forall_mem_cons.mpr ⟨⟨mwR_252, mwS_252, ck_252⟩, List.forall_mem_cons.mpr ⟨⟨mwR_253, mwS_253, ck_253⟩, List.forall_mem_cons.mpr ⟨⟨mwR_254, mwS_254, ck_254⟩, List.forall_mem_cons.mpr ⟨⟨mwR_255, mwS_255, ck_255⟩, List.forall_mem_cons.mpr ⟨⟨mwR_256, mwS_256, ck_256⟩, List.forall_mem_cons.mpr ⟨⟨mwR_257, mwS_257, ck_257⟩, List.forall_mem_cons.mpr ⟨⟨mwR_258, mwS_258, ck_258⟩, List.forall_mem_cons.mpr ⟨⟨mwR_259, mwS_259, ck_259⟩, fun _ h => absurd h List.not_mem_nil⟩⟩⟩⟩⟩⟩⟩⟩⟩⟩⟩⟩⟩⟩⟩⟩⟩⟩⟩⟩
theorem mOk_13 : ∀ r ∈ [mr_260, mr_261], mOk r := List.forall_mem_cons.mpr ⟨⟨mwR_260, mwS_260, ck_260⟩, List.forall_mem_cons.mpr ⟨⟨mwR_261, mwS_261, ck_261⟩, fun _ h => absurd h List.not_mem_nil⟩⟩
def mTa : List mR := mT_0 ++ (mT_1 ++ (mT_2 ++ (mT_3 ++ (mT_4 ++ (mT_5 ++ (mT_6 ++ (mT_7 ++ (mT_8 ++ (mT_9 ++ (mT_10 ++ (mT_11 ++ (mT_12 ++ ([mr_260, mr_261])))))))))))))
theorem mTa_ok : ∀ r ∈ mTa, mOk r := List.forall_mem_append.mpr ⟨mOk_0, List.forall_mem_append.mpr ⟨mOk_1, List.forall_mem_append.mpr ⟨mOk_2, List.forall_mem_append.mpr ⟨mOk_3, List.forall_mem_append.mpr ⟨mOk_4, List.forall_mem_append.mpr ⟨mOk_5, List.forall_mem_append.mpr ⟨mOk_6, List.forall_mem_append.mpr ⟨mOk_7, List.forall_mem_append.mpr ⟨mOk_8, List.forall_mem_append.mpr ⟨mOk_9, List.forall_mem_append.mpr ⟨mOk_10, List.forall_mem_append.mpr ⟨mOk_11, List.forall_mem_append.mpr ⟨mOk_12, mOk_13⟩⟩⟩⟩⟩⟩⟩⟩⟩⟩⟩⟩⟩
theorem mT_split : mT = mTa ++ [mr_262] := by
  unfold mT mTa
  simp only [List.append_assoc]
  rfl
theorem mTa_len : mTa.length = 262 := by decide +kernel
theorem mT_ok {k : Nat} {r : mR} (hk : k < 262) (h : mT[k]? = some r) : mOk r := by
  rw [mT_split, List.getElem?_append_left (by rw [mTa_len]; exact hk)] at h
  exact mTa_ok r (List.mem_of_getElem? h)
end
section
/-! the mini machine's steps -/
abbrev mL : Type := List (Option Value)
/-- pc, locals, stack, heap, cells and slots made so far -/
abbrev mS : Type := Nat × mL × List Value × mH × Nat × Nat
/-- a step: the next state; a call (method, arguments; pc, locals, rest, cells, slots behind it); a return -/
abbrev mO : Type := mS ⊕ ((Nat × List Value × Nat × mL × List Value × Nat × Nat) ⊕ Option Value)
def mBop (c : Nat) (x y : Int32) : Int32 := match c with
  | 0 => x + y
  | 1 => x - y
  | 2 => x * y
  | 3 => x &&& y
  | 4 => x ||| y
  | 5 => x ^^^ y
  | 6 => x <<< (y &&& 31)
  | 7 => x >>> (y &&& 31)
  | _ => (x.toUInt32 >>> (y.toUInt32 &&& Int32.toUInt32 31)).toInt32
def mLop (c : Nat) (x y : Int64) : Int64 := match c with
  | 0 => x + y
  | 2 => x * y
  | 3 => x &&& y
  | _ => x ||| y
def mLsh (c : Nat) (x : Int64) (y : Int32) : Int64 := match c with
  | 0 => x <<< (y.toInt64 &&& 63)
  | 1 => x >>> (y.toInt64 &&& 63)
  | _ => (x.toUInt64 >>> (y.toInt64.toUInt64 &&& Int64.toUInt64 63)).toInt64
def mCnd (c : Nat) (x y : Int32) : Bool := match c with
  | 0 => decide (x = y)
  | 1 => decide (¬ x = y)
  | 2 => decide (x < y)
  | 3 => decide (y ≤ x)
  | 4 => decide (y < x)
  | _ => decide (x ≤ y)
def mFree (L : mL) (b : Nat) : Bool := match b with
  | 0 => true
  | k + 1 => match L[k]? with
    | some (some v) => Nat.beq v.category 1
    | _ => true
def mCat (r : List Value) : Nat := (r.map fun v => v.category).sum
def mBud (ts : List Nat) (nc ns bc bs : Nat) : Bool := decide (nc + ts.getD 1 0 ≤ bc) && decide (ns + ts.getD 2 0 ≤ bs)
def mDf (ci n : Nat) : List Value := (List.range n).map fun j => defaultValue (mm_ty ci j)
def mFit (ci k : Nat) (v : Value) : Bool := decide (narrow (mm_ty ci k) v = v) && fits (mm_ty ci k) v
def mSem (nx : Nat) (a : Int) (b c : Nat) (ts : List Nat) (L : mL) (st : List Value) (h : mH) (nc ns bc bs : Nat) (op : Nat) : Option mO := match op with
  | 0 => some (.inl (nx, L, .int (Int32.ofInt a) :: st, h, nc, ns))
  | 1 => some (.inl (nx, L, .long (Int64.ofInt a) :: st, h, nc, ns))
  | 2 => match L[b]? with
    | some (some (.int x)) => some (.inl (nx, L, .int x :: st, h, nc, ns))
    | _ => none
  | 3 => match L[b]? with
    | some (some (.ref x)) => some (.inl (nx, L, .ref x :: st, h, nc, ns))
    | some (some .null) => some (.inl (nx, L, .null :: st, h, nc, ns))
    | _ => none
  | 4 => match L[b]? with
    | some (some (.long x)) => some (.inl (nx, L, .long x :: st, h, nc, ns))
    | _ => none
  | 5 => match st with
    | .int x :: r => if b < L.length ∧ mFree L b = true then some (.inl (nx, L.set b (some (.int x)), r, h, nc, ns)) else none
    | _ => none
  | 6 => match st with
    | .ref x :: r => if b < L.length ∧ mFree L b = true then some (.inl (nx, L.set b (some (.ref x)), r, h, nc, ns)) else none
    | .null :: r => if b < L.length ∧ mFree L b = true then some (.inl (nx, L.set b (some .null), r, h, nc, ns)) else none
    | _ => none
  | 7 => match st with
    | .long x :: r => if b + 1 < L.length ∧ mFree L b = true then some (.inl (nx, (L.set b (some (.long x))).set (b + 1) none, r, h, nc, ns)) else none
    | _ => none
  | 8 => match L[b]? with
    | some (some (.int x)) => if mFree L b = true then some (.inl (nx, L.set b (some (.int (x + Int32.ofInt a))), st, h, nc, ns)) else none
    | _ => none
  | 9 => match st with
    | .int y :: .int x :: r => some (.inl (nx, L, .int (mBop c x y) :: r, h, nc, ns))
    | _ => none
  | 10 => match st with
    | .int y :: .int x :: r => if y = 0 then none else some (.inl (nx, L, .int (x / y) :: r, h, nc, ns))
    | _ => none
  | 11 => match st with
    | .int y :: .int x :: r => if y = 0 then none else some (.inl (nx, L, .int (x - x / y * y) :: r, h, nc, ns))
    | _ => none
  | 12 => match st with
    | .long y :: .long x :: r => some (.inl (nx, L, .long (mLop c x y) :: r, h, nc, ns))
    | _ => none
  | 13 => match st with
    | .long y :: .long x :: r => if y = 0 then none else some (.inl (nx, L, .long (x - x / y * y) :: r, h, nc, ns))
    | _ => none
  | 14 => match st with
    | .int y :: .long x :: r => some (.inl (nx, L, .long (mLsh c x y) :: r, h, nc, ns))
    | _ => none
  | 15 => match st with
    | .int x :: r => some (.inl (nx, L, .long x.toInt64 :: r, h, nc, ns))
    | _ => none
  | 16 => match st with
    | .long x :: r => some (.inl (nx, L, .int x.toInt32 :: r, h, nc, ns))
    | _ => none
  | 17 => match st with
    | .int x :: r => some (.inl (nx, L, .int x :: .int x :: r, h, nc, ns))
    | .ref x :: r => some (.inl (nx, L, .ref x :: .ref x :: r, h, nc, ns))
    | _ => none
  | 18 => match st with
    | .int _ :: r => some (.inl (nx, L, r, h, nc, ns))
    | _ => none
  | 19 => match st with
    | .int x :: .ref y :: r => some (.inl (nx, L, .int x :: .ref y :: .int x :: .ref y :: r, h, nc, ns))
    | _ => none
  | 20 => match st with
    | .int x :: r => some (.inl (if mCnd c x 0 = true then b else nx, L, r, h, nc, ns))
    | _ => none
  | 21 => match st with
    | .int y :: .int x :: r => some (.inl (if mCnd c x y = true then b else nx, L, r, h, nc, ns))
    | _ => none
  | 22 => some (.inl (b, L, st, h, nc, ns))
  | 23 => match st with
    | .ref _ :: r => some (.inl (b, L, r, h, nc, ns))
    | .null :: r => some (.inl (nx, L, r, h, nc, ns))
    | _ => none
  | 24 => match st with
    | .long y :: .long x :: r => some (.inl (nx, L, .int (lg_cmp x y) :: r, h, nc, ns))
    | _ => none
  | 25 => some (.inl (nx, L, .null :: st, h, nc, ns))
  | 26 => match st with
    | .int x :: r => some (.inl (if x.toInt < a ∨ a + ts.length ≤ x.toInt then b else ts.getD (x.toInt - a).toNat 0, L, r, h, nc, ns))
    | _ => none
  | 30 => match st with
    | .ref x :: r => match h.2 x with
      | .inr (.inr (ci, fs)) => if ci = b then match fs[c]? with
          | some v => some (.inl (nx, L, v :: r, h, nc, ns))
          | none => none
        else none
      | _ => none
    | _ => none
  | 31 => match st with
    | v :: .ref x :: r => match h.2 x with
      | .inr (.inr (ci, fs)) => if ci = b ∧ c < fs.length ∧ mFit b c v = true then some (.inl (nx, L, r, mSet h x (.inr (.inr (ci, fs.set c v))), nc, ns)) else none
      | _ => none
    | _ => none
  | 33 => match st with
    | .int i :: .ref x :: r => match h.2 x with
      | .inl (t, n, f) => if (t = 0 ∨ t = 9) ∧ ¬ (i < 0 ∨ n ≤ i.toNatClampNeg) then some (.inl (nx, L, .int (f i.toNatClampNeg) :: r, h, nc, ns)) else none
      | _ => none
    | _ => none
  | 34 => match st with
    | .int i :: .ref x :: r => match h.2 x with
      | .inl (t, n, f) => if t = 1 ∧ ¬ (i < 0 ∨ n ≤ i.toNatClampNeg) then some (.inl (nx, L, .int (f i.toNatClampNeg) :: r, h, nc, ns)) else none
      | _ => none
    | _ => none
  | 35 => match st with
    | .int i :: .ref x :: r => match h.2 x with
      | .inr (.inl (t, n, g)) => if (t = 2 ∨ t = 3) ∧ ¬ (i < 0 ∨ n ≤ i.toNatClampNeg) then some (.inl (nx, L, va_rf (g i.toNatClampNeg) :: r, h, nc, ns)) else none
      | _ => none
    | _ => none
  | 36 => match st with
    | .int v :: .int i :: .ref x :: r => match h.2 x with
      | .inl (t, n, f) => if t = 0 ∧ ¬ (i < 0 ∨ n ≤ i.toNatClampNeg) then some (.inl (nx, L, r, mSet h x (.inl (t, n, upd f i.toNatClampNeg v)), nc, ns)) else none
      | _ => none
    | _ => none
  | 37 => match st with
    | .int v :: .int i :: .ref x :: r => match h.2 x with
      | .inl (t, n, f) => if t = 1 ∧ ¬ (i < 0 ∨ n ≤ i.toNatClampNeg) ∧ (v = 0 ∨ v = 1) then some (.inl (nx, L, r, mSet h x (.inl (t, n, upd f i.toNatClampNeg v)), nc, ns)) else none
      | _ => none
    | _ => none
  | 38 => match st with
    | .ref v :: .int i :: .ref x :: r => match h.2 x, h.2 v with
      | .inr (.inl (t, n, g)), .inr (.inr (ci, _)) => if ((t = 2 ∧ ci = 4) ∨ (t = 3 ∧ ci = 3)) ∧ ¬ (i < 0 ∨ n ≤ i.toNatClampNeg) then some (.inl (nx, L, r, mSet h x (.inr (.inl (t, n, va_up g i.toNatClampNeg (some v)))), nc, ns)) else none
      | _, _ => none
    | _ => none
  | 39 => match st with
    | .ref x :: r => match h.2 x with
      | .inl (t, n, _) => if t = 0 ∨ t = 1 ∨ t = 9 then some (.inl (nx, L, .int (Int32.ofNat n) :: r, h, nc, ns)) else none
      | .inr (.inl (t, n, _)) => if t = 2 ∨ t = 3 then some (.inl (nx, L, .int (Int32.ofNat n) :: r, h, nc, ns)) else none
      | _ => none
    | _ => none
  | 40 => match st with
    | .int n :: r => if ¬ n < 0 ∧ n.toNatClampNeg ≤ 100000 ∧ nc + 1 ≤ bc ∧ ns + n.toNatClampNeg ≤ bs then some (.inl (nx, L, .ref h.1 :: r, mNew h (.inl (c, n.toNatClampNeg, fun _ => 0)), nc + 1, ns + n.toNatClampNeg)) else none
    | _ => none
  | 41 => match st with
    | .int n :: r => if ¬ n < 0 ∧ n.toNatClampNeg ≤ 100000 ∧ nc + 1 ≤ bc ∧ ns + n.toNatClampNeg ≤ bs then some (.inl (nx, L, .ref h.1 :: r, mNew h (.inr (.inl (c, n.toNatClampNeg, fun _ => none))), nc + 1, ns + n.toNatClampNeg)) else none
    | _ => none
  | 42 => if nc + 1 ≤ bc ∧ ns + c ≤ bs then some (.inl (nx, L, .ref h.1 :: st, mNew h (.inr (.inr (b, mDf b c))), nc + 1, ns + c)) else none
  | 50 => match st.drop c with
    | .ref x :: r => match h.2 x with
      | .inr (.inr (ci, _)) => if ci = ts.getD 0 0 ∧ c ≤ st.length ∧ mCat r ≤ 8 ∧ mBud ts nc ns bc bs = true then some (.inr (.inl (b, .ref x :: (st.take c).reverse, nx, L, r, nc + ts.getD 1 0, ns + ts.getD 2 0))) else none
      | _ => none
    | _ => none
  | 51 => if c ≤ st.length ∧ mCat (st.drop c) ≤ 8 ∧ mBud ts nc ns bc bs = true then some (.inr (.inl (b, (st.take c).reverse, nx, L, st.drop c, nc + ts.getD 1 0, ns + ts.getD 2 0))) else none
  | 52 => match st.drop c with
    | .ref x :: r => if c ≤ st.length ∧ mCat r ≤ 8 ∧ mBud ts nc ns bc bs = true then some (.inr (.inl (b, .ref x :: (st.take c).reverse, nx, L, r, nc + ts.getD 1 0, ns + ts.getD 2 0))) else none
    | _ => none
  | 53 => match st with
    | .ref _ :: r => if mCat r ≤ 8 then some (.inl (nx, L, r, h, nc, ns)) else none
    | _ => none
  | 54 => match st with
    | .int y :: .int x :: r => if mCat r ≤ 8 ∧ nc ≤ bc ∧ ns ≤ bs then some (.inl (nx, L, .int (if x < y then y else x) :: r, h, nc, ns)) else none
    | _ => none
  | 55 => match st with
    | .int y :: .int x :: r => if mCat r ≤ 8 ∧ nc ≤ bc ∧ ns ≤ bs then some (.inl (nx, L, .int (if y < x then y else x) :: r, h, nc, ns)) else none
    | _ => none
  | 56 => match st with
    | .int n :: .int dp :: .ref y :: .int sp :: .ref x :: r => match h.2 x, h.2 y with
      | .inl (t, n0, f), .inl (t', n1, g) => if mCat r ≤ 8 ∧ t = 0 ∧ t' = 0 ∧ ¬ sp < 0 ∧ ¬ dp < 0 ∧ ¬ n < 0 ∧ sp.toNatClampNeg + n.toNatClampNeg ≤ n0 ∧ dp.toNatClampNeg + n.toNatClampNeg ≤ n1 then some (.inl (nx, L, r, mSet h y (.inl (0, n1, va_cpy f g sp.toNatClampNeg dp.toNatClampNeg n.toNatClampNeg)), nc, ns)) else none
      | _, _ => none
    | _ => none
  | 70 => match st with
    | [.int v] => if nc ≤ bc ∧ ns ≤ bs ∧ (b = 0 ∨ v = 0 ∨ v = 1) then some (.inr (.inr (some (.int v)))) else none
    | _ => none
  | 71 => match st with
    | [.long v] => if nc ≤ bc ∧ ns ≤ bs then some (.inr (.inr (some (.long v)))) else none
    | _ => none
  | 72 => match st with
    | [] => if nc ≤ bc ∧ ns ≤ bs then some (.inr (.inr none)) else none
    | _ => none
  | _ => none
def mNext (t : mK) (bc bs : Nat) (s : mS) : Option mO := match mAt t s.1 with
  | none => none
  | some (len, op, a, b, c, ts) => mSem (s.1 + len) a b c ts s.2.1 s.2.2.1 s.2.2.2.1 s.2.2.2.2.1 s.2.2.2.2.2 bc bs op
abbrev mP : Type := Option Value → mH → Prop
abbrev mA : Type := Nat → List Value → mH → mP → Prop
def mStep (call : mA) (t : mK) (bc bs : Nat) (X : mS → Prop) (Q : mP) (s : mS) : Prop := match mNext t bc bs s with
  | none => False
  | some (.inl s') => X s'
  | some (.inr (.inl (k, As, pc', L', r, nc', ns'))) => call k As s.2.2.2.1 (fun v h' => X (pc', L', v.toList ++ r, h', nc', ns'))
  | some (.inr (.inr v)) => Q v s.2.2.2.1
def mWk (call : mA) (t : mK) (bc bs : Nat) (Q : mP) (s : mS) : Prop := ∀ X : mS → Prop, (∀ s, mStep call t bc bs X Q s → X s) → X s
def mMono (call : mA) : Prop := ∀ (k : Nat) (As : List Value) (h : mH) (Q Q' : mP), (∀ v h', Q v h' → Q' v h') → call k As h Q → call k As h Q'
theorem mStep_mono {call : mA} (hc : mMono call) {t : mK} {bc bs : Nat} {X Y : mS → Prop} {Q : mP} {s : mS} (h : ∀ s, X s → Y s) (hs : mStep call t bc bs X Q s) : mStep call t bc bs Y Q s := by
  unfold mStep at hs ⊢
  split
  · simp_all
  · rename_i s' e
    rw [e] at hs
    exact h _ hs
  · rename_i k As pc' L' r nc' ns' e
    rw [e] at hs
    exact hc _ _ _ _ _ (fun v h' hx => h _ hx) hs
  · rename_i v e
    rw [e] at hs
    exact hs
theorem mWk_step {call : mA} (hc : mMono call) {t : mK} {bc bs : Nat} {Q : mP} {s : mS} (h : mStep call t bc bs (mWk call t bc bs Q) Q s) : mWk call t bc bs Q s := by
  intro X hX
  exact hX _ (mStep_mono hc (fun s hs => hs X hX) h)
theorem mStep_post {call : mA} {t : mK} {bc bs : Nat} {X : mS → Prop} {Q Q' : mP} {s : mS} (h : ∀ v h', Q v h' → Q' v h') (hs : mStep call t bc bs X Q s) : mStep call t bc bs X Q' s := by
  unfold mStep at hs ⊢
  split
  · simp_all
  · rename_i s' e
    rw [e] at hs
    exact hs
  · rename_i k As pc' L' r nc' ns' e
    rw [e] at hs
    exact hs
  · rename_i v e
    rw [e] at hs
    exact h _ _ hs
theorem mWk_post {call : mA} {t : mK} {bc bs : Nat} {Q Q' : mP} {s : mS} (h : ∀ v h', Q v h' → Q' v h') (hs : mWk call t bc bs Q s) : mWk call t bc bs Q' s := fun X hX => hs X (fun s hs => hX s (mStep_post h hs))
def mSp : List Value → mL
  | [] => []
  | v :: r => if v.category = 2 then some v :: none :: mSp r else some v :: mSp r
/-- the locals at a method's entry -/
def mEnt (n : Nat) (As : List Value) : mL := mSp As ++ List.replicate (n - (mSp As).length) none
def mWP : Nat → mA
  | 0 => fun _ _ _ _ => False
  | d + 1 => fun k As h Q => match mT[k]? with
    | none => False
    | some (_, _, n, _, _, na, _, mc, ms, t, _) => As.length = na ∧ (mSp As).length ≤ n ∧ mWk (mWP d) t mc ms Q (0, mEnt n As, [], h, 0, 0)
theorem mWP_mono : ∀ d, mMono (mWP d)
  | 0 => fun _ _ _ _ _ _ h => h
  | d + 1 => by
    intro k As h Q Q' hq hw
    unfold mWP at hw ⊢
    split
    · simp_all
    · rename_i e
      rw [e] at hw
      exact ⟨hw.1, hw.2.1, mWk_post hq hw.2.2⟩
end
section
/-! the mini machine's heap and locals in the machine's own -/
def rho (base b : Nat) : Nat → Nat
  | 0 => b
  | k + 1 => base + k
def mv (base b : Nat) : Value → Value
  | .ref a => .ref (rho base b a)
  | v => v
theorem mv_cat (base b : Nat) (v : Value) : (mv base b v).category = v.category := by cases v <;> rfl
def me (ca : Nat → ClassId) (base b : Nat) : mC → va_E
  | .inl (t, n, f) => .inl (ca t, n, .inl f)
  | .inr (.inl (t, n, g)) => .inl (ca t, n, .inr (.inr (.inr (.inr fun i => (g i).map (rho base b)))))
  | .inr (.inr (ci, fs)) => .inr (ci, fs.map (mv base b))
/-- the classes whose objects are made: CodeExchange$Forms has none, another one stands at its number -/
abbrev mm_cm : List vw_C := [(RX0, TX0, 6), (RX0, TX0, 6), (RX2, TX2, 5), (RX3, TX3, 12), (RX4, TX4, 10), (RX5, TX5, 7), (RX6, TX6, 4), (RX7, TX7, 2), (RX8, TX8, 7), (RX9, TX9, 5), (RX10, TX10, 6), (RX11, TX11, 17), (RX12, TX12, 69)]
theorem mm_cm_of {ci : Nat} {q : vw_C} (h : mm_cl[ci]? = some q) (h1 : ci ≠ 1) : mm_cm[ci]? = some q := by
  match ci, h with
  | 0, h => exact h
  | 1, h => exact absurd rfl h1
  | k + 2, h => exact h
def mOkc : mC → Prop
  | .inl (t, _, _) => t = 0 ∨ t = 1
  | .inr (.inl (t, _, _)) => t = 2 ∨ t = 3
  | .inr (.inr _) => True
def mRep (D : va_G) (ca : Nat → ClassId) (base b Ls : Nat) (xs : Nat → Int32) (h : mH) (H : Heap) : Prop :=
  1 ≤ h.1 ∧ H.size + 1 = base + h.1 ∧ h.2 0 = .inl (9, Ls, xs) ∧ (∀ k, h.1 ≤ k → h.2 k = mJ) ∧ ∀ k, 1 ≤ k → k < h.1 → mOkc (h.2 k) ∧ va_at D mm_cm (rho base b k, me ca base b (h.2 k)) H
section MREP
variable {D : va_G} {ca : Nat → ClassId} {base b Ls : Nat} {xs : Nat → Int32} {h : mH} {H H1 : Heap}
theorem rho_inj {k x : Nat} (hk : 1 ≤ k) (hx : 1 ≤ x) (e : rho base b k = rho base b x) : k = x := by
  obtain ⟨k, rfl⟩ : ∃ j, k = j + 1 := ⟨k - 1, by omega⟩
  obtain ⟨x, rfl⟩ : ∃ j, x = j + 1 := ⟨x - 1, by omega⟩
  simp only [rho] at e
  omega
theorem rho_ge {k : Nat} (hk : 1 ≤ k) : base ≤ rho base b k := by
  obtain ⟨k, rfl⟩ : ∃ j, k = j + 1 := ⟨k - 1, by omega⟩
  simp only [rho]
  omega
theorem mRep.obj (hR : mRep D ca base b Ls xs h H) {x ci : Nat} {fs : List Value} (hx : h.2 x = .inr (.inr (ci, fs))) : 1 ≤ x ∧ x < h.1 ∧ va_at D mm_cm (rho base b x, .inr (ci, fs.map (mv base b))) H := by
  obtain ⟨h1, h2, h3, h4, h5⟩ := hR
  have a1 : 1 ≤ x := by
    rcases Nat.eq_zero_or_pos x with rfl | h
    · rw [h3] at hx; cases hx
    · exact h
  have a2 : x < h.1 := by
    rcases Nat.lt_or_ge x h.1 with q | q
    · exact q
    · rw [h4 x q] at hx; cases hx
  refine ⟨a1, a2, ?_⟩
  have := (h5 x a1 a2).2
  rw [hx] at this
  exact this
theorem mRep.int (hR : mRep D ca base b Ls xs h H) {x t n : Nat} {f : Nat → Int32} (hx : h.2 x = .inl (t, n, f)) (ht : t ≠ 9) : 1 ≤ x ∧ x < h.1 ∧ H[rho base b x]? = some (vp_cell (ca t) (n, .inl f)) ∧ (t = 0 ∨ t = 1) := by
  obtain ⟨h1, h2, h3, h4, h5⟩ := hR
  have a1 : 1 ≤ x := by
    rcases Nat.eq_zero_or_pos x with rfl | h
    · rw [h3] at hx; cases hx; exact absurd rfl ht
    · exact h
  have a2 : x < h.1 := by
    rcases Nat.lt_or_ge x h.1 with q | q
    · exact q
    · rw [h4 x q] at hx; cases hx
  have h6 := h5 x a1 a2
  rw [hx] at h6
  exact ⟨a1, a2, h6.2, h6.1⟩
theorem mRep.scr (hR : mRep D ca base b Ls xs h H) {x n : Nat} {f : Nat → Int32} (hx : h.2 x = .inl (9, n, f)) : x = 0 ∧ n = Ls ∧ f = xs := by
  obtain ⟨h1, h2, h3, h4, h5⟩ := hR
  rcases Nat.eq_zero_or_pos x with rfl | a1
  · rw [h3] at hx; cases hx; exact ⟨rfl, rfl, rfl⟩
  · rcases Nat.lt_or_ge x h.1 with q | q
    · have := (h5 x a1 q).1
      rw [hx] at this
      rcases this with h | h <;> cases h
    · rw [h4 x q] at hx; cases hx
theorem mRep.rf (hR : mRep D ca base b Ls xs h H) {x t n : Nat} {g : Nat → Option Nat} (hx : h.2 x = .inr (.inl (t, n, g))) (ht : t ≠ 99) : 1 ≤ x ∧ x < h.1 ∧ H[rho base b x]? = some (vp_cell (ca t) (n, .inr (.inr (.inr (.inr fun i => (g i).map (rho base b)))))) := by
  obtain ⟨h1, h2, h3, h4, h5⟩ := hR
  have a1 : 1 ≤ x := by
    rcases Nat.eq_zero_or_pos x with rfl | h
    · rw [h3] at hx; cases hx
    · exact h
  have a2 : x < h.1 := by
    rcases Nat.lt_or_ge x h.1 with q | q
    · exact q
    · rw [h4 x q] at hx; cases hx; exact absurd rfl ht
  have h6 := h5 x a1 a2
  rw [hx] at h6
  exact ⟨a1, a2, h6.2⟩
theorem mRep.set (hR : mRep D ca base b Ls xs h H) {x : Nat} {e : mC} (a1 : 1 ≤ x) (a2 : x < h.1) (he : mOkc e) (z : H1.size = H.size) (oq : ∀ q : Nat, q ≠ rho base b x → H1[q]? = H[q]?) (hv : va_at D mm_cm (rho base b x, me ca base b e) H1) : mRep D ca base b Ls xs (mSet h x e) H1 := by
  obtain ⟨h1, h2, h3, h4, h5⟩ := hR
  refine ⟨h1, by rw [z]; exact h2, ?_, fun k hk => ?_, fun k k1 k2 => ?_⟩
  · simp only [mSet]
    rw [if_neg (by omega)]
    exact h3
  · simp only [mSet] at hk ⊢
    rw [if_neg (by omega)]
    exact h4 k hk
  · simp only [mSet] at k2 ⊢
    by_cases hkx : k = x
    · subst hkx
      rw [if_pos rfl]
      exact ⟨he, hv⟩
    · rw [if_neg hkx]
      exact ⟨(h5 k k1 k2).1, (h5 k k1 k2).2.kept (oq _ (fun q => hkx (rho_inj k1 a1 q)))⟩
theorem mRep.new (hR : mRep D ca base b Ls xs h H) {e : mC} (he : mOkc e) (z : H1.size = H.size + 1) (oq : ∀ q : Nat, q < H.size → H1[q]? = H[q]?) (hv : va_at D mm_cm (H.size, me ca base b e) H1) : mRep D ca base b Ls xs (mNew h e) H1 ∧ rho base b h.1 = H.size := by
  obtain ⟨h1, h2, h3, h4, h5⟩ := hR
  have hr : rho base b h.1 = H.size := by
    obtain ⟨k, hk⟩ : ∃ j, h.1 = j + 1 := ⟨h.1 - 1, by omega⟩
    rw [hk]
    simp only [rho]
    omega
  refine ⟨⟨by simp only [mNew]; omega, by simp only [mNew]; omega, ?_, fun k hk => ?_, fun k k1 k2 => ?_⟩, hr⟩
  · simp only [mNew]
    rw [if_neg (by omega)]
    exact h3
  · simp only [mNew] at hk ⊢
    rw [if_neg (by omega)]
    exact h4 k (by omega)
  · simp only [mNew] at k2 ⊢
    by_cases hkx : k = h.1
    · subst hkx
      rw [if_pos rfl, hr]
      exact ⟨he, hv⟩
    · rw [if_neg hkx]
      have h6 := h5 k k1 (by omega)
      exact ⟨h6.1, h6.2.kept (oq _ h6.2.lt)⟩
end MREP
def mLs (base b n : Nat) (ls : Array Slot) (L : mL) : Prop := ls.size = n ∧ L.length = n ∧ lv_wf ls ∧ ∀ (i : Nat) (v : Value), L[i]? = some (some v) → ls[i]? = some (.val (mv base b v))
def mAlf (base b : Nat) (L : mL) (i : Nat) : Option (Nat × Value) := match L[i]? with
  | some (some v) => some (i, mv base b v)
  | _ => none
def mAl (base b : Nat) (L : mL) : List (Nat × Value) := (List.range L.length).filterMap (mAlf base b L)
section MLS
variable {base b n : Nat} {ls ls' : Array Slot} {L : mL}
theorem mAl_mem {i : Nat} {v : Value} (h : L[i]? = some (some v)) : (i, mv base b v) ∈ mAl base b L := by
  refine List.mem_filterMap.mpr ⟨i, List.mem_range.mpr (List.getElem?_eq_some_iff.mp h).1, ?_⟩
  simp only [mAlf, h]
theorem mAl_of {q : Nat × Value} (h : q ∈ mAl base b L) : ∃ v, L[q.1]? = some (some v) ∧ q.2 = mv base b v := by
  obtain ⟨i, -, hi⟩ := List.mem_filterMap.mp h
  unfold mAlf at hi
  split at hi
  · rename_i v e
    cases hi
    exact ⟨v, e, rfl⟩
  · cases hi
theorem mLs.has (h : mLs base b n ls L) : lv_has ls n (mAl base b L) := by
  refine ⟨h.1, h.2.2.1, fun q hq => ?_⟩
  obtain ⟨v, h1, h2⟩ := mAl_of hq
  rw [h2]
  exact h.2.2.2 _ _ h1
theorem mLs_set1 (h : mLs base b n ls L) {i : Nat} {v : Value} (hi : i < L.length) (hf : mFree L i = true) (h' : lv_has ls' n ((i, mv base b v) :: (mAl base b L).filter (fun q => !(q.1 == i) && !(q.1 + 1 == i && q.2.category == 2)))) : mLs base b n ls' (L.set i (some v)) := by
  refine ⟨h'.1, by rw [List.length_set]; exact h.2.1, h'.2.1, fun j w hj => ?_⟩
  by_cases e : j = i
  · subst e
    rw [List.getElem?_set_self hi] at hj
    cases hj
    exact h'.2.2 (j, mv base b v) List.mem_cons_self
  · rw [List.getElem?_set_ne (fun q => e q.symm)] at hj
    refine h'.2.2 (j, mv base b w) (List.mem_cons_of_mem _ (List.mem_filter.mpr ⟨mAl_mem hj, ?_⟩))
    by_cases e2 : j + 1 = i
    · subst e2
      simp only [mFree, hj] at hf
      have := Nat.eq_of_beq_eq_true hf
      simp [mv_cat, this]
    · simp [e, e2]
theorem mLs_set2 (h : mLs base b n ls L) {i : Nat} {v : Value} (hi : i + 1 < L.length) (hf : mFree L i = true) (h' : lv_has ls' n ((i, mv base b v) :: (mAl base b L).filter (fun q => !(q.1 == i) && (!(q.1 == i + 1) && !(q.1 + 1 == i && q.2.category == 2))))) : mLs base b n ls' ((L.set i (some v)).set (i + 1) none) := by
  refine ⟨h'.1, by rw [List.length_set, List.length_set]; exact h.2.1, h'.2.1, fun j w hj => ?_⟩
  by_cases e3 : j = i + 1
  · subst e3
    rw [List.getElem?_set_self (by rw [List.length_set]; exact hi)] at hj
    cases hj
  · rw [List.getElem?_set_ne (fun q => e3 q.symm)] at hj
    by_cases e : j = i
    · subst e
      rw [List.getElem?_set_self (by omega)] at hj
      cases hj
      exact h'.2.2 (j, mv base b v) List.mem_cons_self
    · rw [List.getElem?_set_ne (fun q => e q.symm)] at hj
      refine h'.2.2 (j, mv base b w) (List.mem_cons_of_mem _ (List.mem_filter.mpr ⟨mAl_mem hj, ?_⟩))
      by_cases e2 : j + 1 = i
      · subst e2
        simp only [mFree, hj] at hf
        have := Nat.eq_of_beq_eq_true hf
        simp [mv_cat, this]
        omega
      · simp [e, e2, e3]
theorem mSp_args : ∀ (As : List Value) (i j : Nat) (v : Value), (mSp As)[j]? = some (some v) → (i + j, mv base b v) ∈ lv_args i (As.map (mv base b))
  | [], _, _, _, h => by simp [mSp] at h
  | w :: r, i, j, v, h => by
    simp only [List.map_cons, lv_args, mv_cat]
    unfold mSp at h
    split at h
    · rename_i hc
      rw [if_pos hc]
      match j, h with
      | 0, h => simp at h; subst h; exact List.mem_cons_self
      | 1, h => simp at h
      | j + 2, h =>
        simp at h
        refine List.mem_cons_of_mem _ ?_
        have := mSp_args r (i + 2) j v h
        rw [show i + (j + 2) = i + 2 + j by omega]
        exact this
    · rename_i hc
      rw [if_neg hc]
      match j, h with
      | 0, h => simp at h; subst h; exact List.mem_cons_self
      | j + 1, h =>
        simp at h
        refine List.mem_cons_of_mem _ ?_
        have := mSp_args r (i + 1) j v h
        rw [show i + (j + 1) = i + 1 + j by omega]
        exact this
theorem mSp_len : ∀ (As : List Value), (lg_sl (As.map (mv base b))).length = (mSp As).length
  | [] => rfl
  | w :: r => by
    have ih := mSp_len r
    simp only [lg_sl, List.map_cons, List.flatMap_cons, List.length_append, mSp] at ih ⊢
    rw [mv_cat]
    split
    · simp [ih]; omega
    · simp [ih]; omega
theorem mLs_entry {As : List Value} (hn : (mSp As).length ≤ n) : mLs base b n ((lg_sl (As.map (mv base b)) ++ List.replicate (n - (lg_sl (As.map (mv base b))).length) Slot.unset).toArray) (mEnt n As) := by
  have hl := lv_entry (As.map (mv base b)) (n := n) (by rw [mSp_len]; exact hn)
  refine ⟨hl.1, ?_, hl.2.1, fun i v hi => ?_⟩
  · unfold mEnt
    simp
    omega
  · have h1 : (mSp As)[i]? = some (some v) := by
      unfold mEnt at hi
      by_cases q : i < (mSp As).length
      · rw [List.getElem?_append_left q] at hi
        exact hi
      · rw [List.getElem?_append_right (by omega)] at hi
        have := List.mem_of_getElem? hi
        have := List.eq_of_mem_replicate this
        cases this
    have := hl.2.2 _ (mSp_args (base := base) (b := b) As 0 i v h1)
    simpa using this
end MLS
end
section
/-! the world's facts, and stores with the heap's size -/
theorem mm_good {C : String} {T : u_T} {N : Nat} {w : Cond} (h : w ∈ u_ws C T N) : goodWord w = true := by
  obtain ⟨k, -, rfl⟩ := List.mem_map.mp h
  unfold u_lay
  split <;> rfl
theorem mm_tb {w : Cond} (h : w ∈ tables_1) (hg : goodWord w = true) : w ∈ mTb := List.mem_filter.mpr ⟨List.mem_append_right _ h, hg⟩
theorem mm_cl_ok {ci : Nat} {q : vw_C} (h : mm_cl[ci]? = some q) : (∀ w ∈ u_ws q.1 q.2.1 q.2.2, w ∈ mTb) ∧ (∀ k, k < q.2.2 → parseFieldDescriptor (q.2.1 k).2.2.1 = some (mm_ty ci k)) ∧ ∀ a, a < q.2.2 → ∀ b, b < q.2.2 → a ≠ b → (q.2.1 a).2.1 ≠ (q.2.1 b).2.1 := by
  match ci, h with
  | 0, h => cases h; exact ⟨fun w hw => mm_tb (inX0 w hw) (mm_good hw), tyX0_ok, nmX0⟩
  | 1, h => cases h; exact ⟨fun w hw => mm_tb (inX1 w hw) (mm_good hw), tyX1_ok, nmX1⟩
  | 2, h => cases h; exact ⟨fun w hw => mm_tb (inX2 w hw) (mm_good hw), tyX2_ok, nmX2⟩
  | 3, h => cases h; exact ⟨fun w hw => mm_tb (inX3 w hw) (mm_good hw), tyX3_ok, nmX3⟩
  | 4, h => cases h; exact ⟨fun w hw => mm_tb (inX4 w hw) (mm_good hw), tyX4_ok, nmX4⟩
  | 5, h => cases h; exact ⟨fun w hw => mm_tb (inX5 w hw) (mm_good hw), tyX5_ok, nmX5⟩
  | 6, h => cases h; exact ⟨fun w hw => mm_tb (inX6 w hw) (mm_good hw), tyX6_ok, nmX6⟩
  | 7, h => cases h; exact ⟨fun w hw => mm_tb (inX7 w hw) (mm_good hw), tyX7_ok, nmX7⟩
  | 8, h => cases h; exact ⟨fun w hw => mm_tb (inX8 w hw) (mm_good hw), tyX8_ok, nmX8⟩
  | 9, h => cases h; exact ⟨fun w hw => mm_tb (inX9 w hw) (mm_good hw), tyX9_ok, nmX9⟩
  | 10, h => cases h; exact ⟨fun w hw => mm_tb (inX10 w hw) (mm_good hw), tyX10_ok, nmX10⟩
  | 11, h => cases h; exact ⟨fun w hw => mm_tb (inX11 w hw) (mm_good hw), tyX11_ok, nmX11⟩
  | 12, h => cases h; exact ⟨fun w hw => mm_tb (inX12 w hw) (mm_good hw), tyX12_ok, nmX12⟩
  | k + 13, h => simp [mm_cl] at h
def mTys (ca : Nat → ClassId) : List (ClassId × FieldType) := [(ca 0, .int), (ca 1, .boolean), (ca 2, .object RX4), (ca 3, .object RX3)]
def mWo (D : va_G) (ca : Nat → ClassId) (base b : Nat) (U : State) : Prop := va_K D mm_cm (mTys ca) U ∧ (∀ e ∈ mx_N, va_Nw (.methodLinkNest (mm_cn e.1) e.2.1 (mNm e.2.2.1) "CodeExchange") U) ∧ va_AO RX4 U ∧ va_AO RX3 U ∧ b < base
theorem mWo.moved {D : va_G} {ca : Nat → ClassId} {base b : Nat} {s U : State} (hW : s.WarmedH U.vm) (h : mWo D ca base b s) : mWo D ca base b U :=
  ⟨va_K.moved hW.alike h.1, fun e he => va_Nw.warmM hW (h.2.1 e he), va_AO.moved hW.alike h.2.2.1, va_AO.moved hW.alike h.2.2.2.1, h.2.2.2.2⟩
/-- the world with a mini heap -/
def mU (D : va_G) (ca : Nat → ClassId) (base b Ls : Nat) (xs : Nat → Int32) (h : mH) (U : State) : Prop := mWo D ca base b U ∧ va_X b Ls xs U U.heap ∧ mRep D ca base b Ls xs h U.heap
def mPc (D : va_G) (ca : Nat → ClassId) (base b Ls : Nat) (xs : Nat → Int32) (As : List Value) (h : mH) : Array Value → State → Prop := va_Pc (As.map (mv base b)) (mU D ca base b Ls xs h)
def mQc (D : va_G) (ca : Nat → ClassId) (base b Ls : Nat) (xs : Nat → Int32) (Q : mP) : Array Value → State → Outcome → State → Prop := fun _ st oc t => (∃ (v : Option Value) (h' : mH), oc = .returned (v.map (mv base b)) ∧ Q v h' ∧ mRep D ca base b Ls xs h' t.heap) ∧ va_F (fun q => base ≤ q) st t
theorem mPc_blind {D : va_G} {ca : Nat → ClassId} {base b Ls : Nat} {xs : Nat → Int32} {As : List Value} {h : mH} : FrameBlind (mPc D ca base b Ls xs As h) := by
  intro a U g mk hp
  obtain ⟨h1, ⟨w1, w2, w3, w4, w5⟩, h3, h4⟩ := hp
  refine ⟨h1, ⟨va_K.moved (u := U) (U := U.calling g mk a) (Vm.Alike.refl U.vm) w1, fun e he => va_Nw.same rfl rfl (w2 e he), va_AO.moved (u := U) (U := U.calling g mk a) (Vm.Alike.refl U.vm) w3, va_AO.moved (u := U) (U := U.calling g mk a) (Vm.Alike.refl U.vm) w4, w5⟩, va_X.moved (u := U) (U := U.calling g mk a) (Vm.Alike.refl U.vm) h3, h4⟩
section MPUT
variable {p : Program} {l : Launch} {e : Env} {R : Room} {s : State} {m : MethodId} {args : Array Value} {below : List Frame} {meth : Method} {c : Code} {H : Heap} {locs : List Loc} {cells slots : Nat} {Q : State → Prop}
variable {cc : ByteArray} {pc : Nat} {ls : Array Slot} {rest : List Value} {D : va_G} {ca : Nat → ClassId} {a : Nat}
theorem mw_put (hexec : p.tables.exec = Jvm.exec) (hb : c.code = cc) {own : String} {ci index : Nat} {q : vw_C} (hts : ∀ w ∈ mTb, w.before args s = true) (hown : s.vm.findClass own = some m.cls) (hK : va_K D mm_cm (mTys ca) s) {fs : List Value} (hat : va_at D mm_cm (a, .inr (ci, fs)) H) (hq : mm_cl[ci]? = some q) (hq1 : mm_cm[ci]? = some q) (k : Nat) (hk : k < q.2.2) (hlink : (Cond.fieldLink own index (q.2.1 k).1 (q.2.1 k).2.1 (q.2.1 k).2.2.1).before args s = true) (hfin : (q.2.1 k).2.2.2 = false ∨ (meth.name = "<init>" ∧ (q.2.1 k).1 = own)) {v : Value} (hn : narrow (mm_ty ci k) v = v) (hfit : fits (mm_ty ci k) v = true) (hl : k < fs.length)
    (hdg : decode cc pc = .ok (.putfield index, 3)) (kk : ∀ (H1 : Heap) (i : Nat), H1.size = H.size → (∀ q : Nat, q ≠ a → H1[q]? = H[q]?) → va_at D mm_cm (a, .inr (ci, fs.set k v)) H1 → W p l e R s m args below meth c H1 (locs ++ [⟨a, i⟩]) cells slots Q (F0 m (pc + 3) ls rest)) : W p l e R s m args below meth c H locs cells slots Q (F0 m pc ls (v :: .ref a :: rest)) := by
  obtain ⟨hin, hty, hnm⟩ := mm_cl_ok hq
  obtain ⟨C, T, N⟩ := q
  have hap := va_apart (own := own) hts hin (mm_ty ci) hty hnm hK hq1
  obtain ⟨r, h1, cell, q1, q2, q3, q4⟩ := hat
  have hr : r = (C, T, N) := Option.some.inj (h1.symm.trans hq1)
  subst hr
  obtain ⟨hS, hfc, kC, hkC, hkind⟩ := hK.1 ci _ hq1
  obtain ⟨cf, kf, fi, f, hi, hsl⟩ := hS k hk
  have hlay := hts _ (hin _ (u_in_lay hk))
  have hst := (u_facts hfc hkC (u_lays hts hin hk) hi).1
  have hd := hty k hk
  by_cases hf : (T k).2.2.2 = true
  · obtain ⟨hin2, hdecl⟩ : meth.name = "<init>" ∧ (T k).1 = own := by
      rcases hfin with h | h
      · exact absurd (hf.symm.trans h) (by decide)
      · exact h
    unfold u_lay at hlay
    rw [if_pos hf] at hlay
    have hcf : m.cls = cf := by
      obtain ⟨_, _, c', _, _, _, -, -, hf', -, -, -, hown2, -⟩ := Cond.laysFinal_spec hlay
      have e1 : c' = cf := by have := hi.symm.trans hf'; simp at this; exact this.1.symm
      rw [hdecl] at hown2
      rw [← e1]; exact Option.some.inj (hown.symm.trans hown2)
    have h6 := u_fits hfc hkC hkind (Or.inr hlay) hi hd hn hfit
    refine W.putFinK hexec hb hown hlink hi hst hcf hin2 (by rw [q2]; exact h6) q1 q3 (by rw [hsl]; exact k2_hasslot (q4 k hk)) rfl rfl hdg fun H' e1 e2 e3 => ?_
    rw [hsl] at e1 ⊢
    exact kk H' _ e2 e3 ⟨_, hq1, t_OB.to (V := updV (vp_V fs) k v) ⟨_, e1, q2, q3, t_set q4 hap hk v⟩ (fun j _ => vp_updV_set hl v j)⟩
  · unfold u_lay at hlay
    rw [if_neg hf] at hlay
    have h6 := u_store hfc hkC hkind hlay hi hd hn hfit
    refine W.putK hexec hb (f := f) ⟨hown, hlink, ⟨_, _, _, hi⟩, hst⟩ (by rw [q2]; exact h6) q1 q3 (by rw [hsl]; exact k2_hasslot (q4 k hk)) rfl rfl hdg fun H' e1 e2 e3 => ?_
    rw [hsl] at e1 ⊢
    exact kk H' _ e2 e3 ⟨_, hq1, t_OB.to (V := updV (vp_V fs) k v) ⟨_, e1, q2, q3, t_set q4 hap hk v⟩ (fun j _ => vp_updV_set hl v j)⟩
end MPUT
theorem mw_upi (cA : ClassId) (n i : Nat) (f : Nat → Int32) (x : Int32) : (vp_cell cA (n, .inl f)).setSlot i (.int x) = vp_cell cA (n, .inl (upd f i x)) := by
  rw [vp_cell_i, vp_cell_i, arrV_store]
  congr 1
  funext q
  by_cases hq : q = i
  · subst hq
    simp [updV, upd]
  · simp [updV, upd, hq]
theorem mw_upq (cA : ClassId) (n i : Nat) (f : Nat → Option Nat) (x : Nat) : (vp_cell cA (n, .inr (.inr (.inr (.inr f))))).setSlot i (.ref x) = vp_cell cA (n, .inr (.inr (.inr (.inr (va_up f i (some x)))))) := by
  rw [vp_cell_q, vp_cell_q, arrV_store]
  congr 1
  funext q
  by_cases hq : q = i
  · subst hq
    simp [updV, va_up, va_rf]
  · simp [updV, va_up, hq]
end
section
/-! each step of the mini machine is the machine's own -/
theorem va_P1 {D : va_G} {cl : List vw_C} {q : Nat × va_E} {H : Heap} (h : va_at D cl q H) : va_P D cl [q] H := by
  intro k x hx
  match k, hx with
  | 0, hx => cases hx; exact h
  | k + 1, hx => simp at hx
theorem mv_rf (base b : Nat) (o : Option Nat) : mv base b (va_rf o) = va_rf (o.map (rho base b)) := by cases o <;> rfl
theorem mTg_ok {pc : Nat} {off : Int} {t : Nat} (h : mTg pc off = some t) : (pc : Int) + off = (t : Int) := by
  unfold mTg at h
  split at h
  · cases h
    omega
  · cases h
theorem mTgs_ok {pc : Nat} : ∀ {os : List Int} {ts : List Nat}, mTgs pc os = some ts → ts.length = os.length ∧ ∀ (j : Nat) (off : Int), os[j]? = some off → (pc : Int) + off = ((ts.getD j 0 : Nat) : Int)
  | [], ts, h => by
    simp only [mTgs] at h
    cases h
    exact ⟨rfl, fun j off hj => by simp at hj⟩
  | o :: r, ts, h => by
    simp only [mTgs] at h
    split at h
    · rename_i t ts' h1 h2
      cases h
      obtain ⟨e1, e2⟩ := mTgs_ok h2
      refine ⟨by simp [e1], fun j off hj => ?_⟩
      match j, hj with
      | 0, hj => simp at hj; subst hj; simpa using mTg_ok h1
      | j + 1, hj => simp at hj; simpa using e2 j off hj
    · cases h
theorem mFind_ok {α : Type} {l : List (Nat × Nat × α)} {own idx : Nat} {x : α} (h : (l.find? fun e => e.1 == own && e.2.1 == idx).map (fun e => e.2.2) = some x) : (own, idx, x) ∈ l := by
  obtain ⟨e, h1, h2⟩ := Option.map_eq_some_iff.mp h
  have h3 := List.find?_some h1
  have h4 := List.mem_of_find?_eq_some h1
  simp at h3
  obtain ⟨a, b, c⟩ := e
  simp at h2 h3
  rw [← h2, ← h3.1, ← h3.2]
  exact h4
theorem mFind2 {α β : Type} {l : List (Nat × Nat × α × β)} {own idx : Nat} {x : α} (h : (l.find? fun e => e.1 == own && e.2.1 == idx).map (fun e => e.2.2.1) = some x) : ∃ y, (own, idx, x, y) ∈ l := by
  obtain ⟨e, h1, h2⟩ := Option.map_eq_some_iff.mp h
  have h3 := List.find?_some h1
  have h4 := List.mem_of_find?_eq_some h1
  simp at h3
  obtain ⟨a, b, c, d⟩ := e
  simp at h2 h3
  refine ⟨d, ?_⟩
  rw [← h2, ← h3.1, ← h3.2]
  exact h4
theorem mfF_ok {own idx : Nat} {x : Nat × Nat × Nat} (h : mfF own idx = some x) : ∃ q : vw_C, mm_cl[x.1]? = some q ∧ x.2.1 < q.2.2 ∧ (q.2.1 x.2.1).1 = mm_cn x.1 ∧ Cond.fieldLink (mm_cn own) idx (q.2.1 x.2.1).1 (q.2.1 x.2.1).2.1 (q.2.1 x.2.1).2.2.1 ∈ mTb := by
  exact mx_F_w _ (mFind_ok h)
theorem mfC_ok {own idx : Nat} {v : Int} (h : mfC own idx = some v) : Cond.constant (mm_cn own) idx (Int32.ofInt v) ∈ mTb := by
  obtain ⟨y, hy⟩ := mFind2 h
  exact mx_C_w _ hy
theorem mfL_ok {own idx : Nat} {v : Int} (h : mfL own idx = some v) : Cond.constantLong (mm_cn own) idx (Int64.ofInt v) ∈ mTb := by
  obtain ⟨y, hy⟩ := mFind2 h
  exact mx_L_w _ hy
theorem mfK_ok {own idx k : Nat} (h : mfK own idx = some k) : Cond.classLink (mm_cn own) idx (mm_cn k) ∈ mTb := by
  obtain ⟨y, hy⟩ := mFind2 h
  exact mx_K_w _ hy
theorem mfM_ok {own idx k : Nat} (h : mfM own idx = some k) : Cond.methodLink (mm_cn own) idx (mNm k) ∈ mTb ∧ (k < 262 ∨ (1000 ≤ k ∧ k < 1004)) := by
  obtain ⟨y, hy⟩ := mFind2 h
  exact mx_M_w _ hy
theorem mfN_ok {own idx k : Nat} (h : mfN own idx = some k) : ∃ y, (own, idx, k, y) ∈ mx_N := mFind2 h
def mEv (D : va_G) (ca : Nat → ClassId) (base b Ls : Nat) (xs : Nat → Int32) (own : Nat) (ini : Bool) (bytes : ByteArray) (n bc bs d : Nat) (p : Program) (R : Room) (s : State) (m : MethodId) (args : Array Value) (meth : Method) (c : Code) : Prop :=
  p.tables.exec = Jvm.exec ∧ c.code = bytes ∧ c.maxLocals = n ∧ s.vm.findClass (mm_cn own) = some m.cls ∧ (∀ w ∈ mTb, w.before args s = true) ∧ (ini = true → meth.name = "<init>") ∧ mWo D ca base b s ∧ va_X b Ls xs s s.heap ∧ base ≤ s.heap.size ∧ R.cells = bc ∧ R.slots = bs ∧ d + 1 ≤ R.frames ∧ 60 * d + 100 ≤ R.locals
def mGo (D : va_G) (ca : Nat → ClassId) (base b Ls : Nat) (xs : Nat → Int32) (n : Nat) (p : Program) (l : Launch) (e : Env) (R : Room) (s : State) (m : MethodId) (args : Array Value) (below : List Frame) (meth : Method) (c : Code) (Qf : State → Prop) (z : mS) : Prop :=
  ∀ (H : Heap) (locs : List Loc) (ls : Array Slot), mLs base b n ls z.2.1 → mRep D ca base b Ls xs z.2.2.2.1 H → va_S (fun q => base ≤ q) s.heap H locs → W p l e R s m args below meth c H locs z.2.2.2.2.1 z.2.2.2.2.2 Qf (F0 m z.1 ls (z.2.2.1.map (mv base b)))
theorem mw_arrI : Cond.arrayClass .int ∈ mTb := mb_1 (List.mem_of_getElem? (i := 53) rfl) rfl
theorem mw_arrZ : Cond.arrayClass .boolean ∈ mTb := mb_1 (List.mem_of_getElem? (i := 150) rfl) rfl
theorem mw_oi : Cond.instanceMethod Lib.objectInit ∈ mTb := mb_1 (List.mem_of_getElem? (i := 23) rfl) rfl
theorem mw_oc : Cond.code Lib.objectInit ⟨#[0xb1]⟩ 1 none ∈ mTb := mb_1 (List.mem_of_getElem? (i := 24) rfl) rfl
theorem mw_mi : Cond.initialized "java/lang/Math" ∈ mTb := mb_1 (List.mem_of_getElem? (i := 3) rfl) rfl
theorem mw_maxs : Cond.static Lib.Math.max.name ∈ mTb := mb_1 (List.mem_of_getElem? (i := 34) rfl) rfl
theorem mw_maxc : Cond.code Lib.Math.max.name Lib.Math.max.code 2 (some .int) ∈ mTb := mb_1 (List.mem_of_getElem? (i := 35) rfl) rfl
theorem mw_mins : Cond.static Lib.Math.min.name ∈ mTb := mb_3 (List.mem_of_getElem? (i := 56) rfl) rfl
theorem mw_minc : Cond.code Lib.Math.min.name Lib.Math.min.code 2 (some .int) ∈ mTb := mb_3 (List.mem_of_getElem? (i := 57) rfl) rfl
theorem mw_acn : Cond.native arraycopyName ∈ mTb := mb_3 (List.mem_of_getElem? (i := 215) rfl) rfl
theorem mw_acs : Cond.static arraycopyName ∈ mTb := mb_3 (List.mem_of_getElem? (i := 214) rfl) rfl
theorem mw_aci : Cond.initialized "java/lang/System" ∈ mTb := mb_1 (List.mem_of_getElem? (i := 16) rfl) rfl
theorem mm_cn_cl {ci : Nat} {q : vw_C} (h : mm_cl[ci]? = some q) : mm_cn ci = q.1 := by
  match ci, h with
  | 0, h => cases h; rfl
  | 1, h => cases h; rfl
  | 2, h => cases h; rfl
  | 3, h => cases h; rfl
  | 4, h => cases h; rfl
  | 5, h => cases h; rfl
  | 6, h => cases h; rfl
  | 7, h => cases h; rfl
  | 8, h => cases h; rfl
  | 9, h => cases h; rfl
  | 10, h => cases h; rfl
  | 11, h => cases h; rfl
  | 12, h => cases h; rfl
  | k + 13, h => simp [mm_cl] at h
theorem mm_initd {ci : Nat} {q : vw_C} (h : mm_cl[ci]? = some q) : Cond.initialized q.1 ∈ mTb := by
  match ci, h with
  | 0, h => cases h; exact mb_1 (List.mem_of_getElem? (i := 7) rfl) rfl
  | 1, h => cases h; exact mb_1 (List.mem_of_getElem? (i := 15) rfl) rfl
  | 2, h => cases h; exact mb_1 (List.mem_of_getElem? (i := 10) rfl) rfl
  | 3, h => cases h; exact mb_1 (List.mem_of_getElem? (i := 12) rfl) rfl
  | 4, h => cases h; exact mb_1 (List.mem_of_getElem? (i := 5) rfl) rfl
  | 5, h => cases h; exact mb_1 (List.mem_of_getElem? (i := 9) rfl) rfl
  | 6, h => cases h; exact mb_1 (List.mem_of_getElem? (i := 6) rfl) rfl
  | 7, h => cases h; exact mb_1 (List.mem_of_getElem? (i := 2) rfl) rfl
  | 8, h => cases h; exact mb_1 (List.mem_of_getElem? (i := 4) rfl) rfl
  | 9, h => cases h; exact mb_1 (List.mem_of_getElem? (i := 8) rfl) rfl
  | 10, h => cases h; exact mb_1 (List.mem_of_getElem? (i := 11) rfl) rfl
  | 11, h => cases h; exact mb_1 (List.mem_of_getElem? (i := 1) rfl) rfl
  | 12, h => cases h; exact mb_1 (List.mem_of_getElem? (i := 13) rfl) rfl
  | k + 13, h => simp [mm_cl] at h
theorem mm_ne1 {ci k : Nat} {q : vw_C} (h : mm_cl[ci]? = some q) (hk : k < q.2.2) : ci ≠ 1 := by
  rintro rfl
  cases h
  exact absurd hk (Nat.not_lt_zero k)
theorem mm_cm_cn {ci : Nat} {q : vw_C} (h : mm_cm[ci]? = some q) (h1 : ci ≠ 1) : mm_cn ci = q.1 := by
  match ci, h with
  | 0, h => cases h; rfl
  | 1, h => exact absurd rfl h1
  | k + 2, h => exact mm_cn_cl (ci := k + 2) h
theorem mm_no1 : ∀ e ∈ mx_K, e.2.2.1 ≠ 1 := by decide +kernel
theorem mm_instant {ci own j : Nat} {q : vw_C} (h : mm_cl[ci]? = some q) (hk : mfK own j = some ci) : Cond.instantiable q.1 q.2.2 ∈ mTb := by
  match ci, h with
  | 0, h => cases h; exact mb_1 (List.mem_of_getElem? (i := 118) rfl) rfl
  | 1, h => obtain ⟨y, hy⟩ := mFind2 hk; exact absurd rfl (mm_no1 _ hy)
  | 2, h => cases h; exact mb_1 (List.mem_of_getElem? (i := 229) rfl) rfl
  | 3, h => cases h; exact mb_2 (List.mem_of_getElem? (i := 72) rfl) rfl
  | 4, h => cases h; exact mb_1 (List.mem_of_getElem? (i := 90) rfl) rfl
  | 5, h => cases h; exact mb_1 (List.mem_of_getElem? (i := 223) rfl) rfl
  | 6, h => cases h; exact mb_1 (List.mem_of_getElem? (i := 96) rfl) rfl
  | 7, h => cases h; exact mb_1 (List.mem_of_getElem? (i := 28) rfl) rfl
  | 8, h => cases h; exact mb_1 (List.mem_of_getElem? (i := 57) rfl) rfl
  | 9, h => cases h; exact mb_1 (List.mem_of_getElem? (i := 152) rfl) rfl
  | 10, h => cases h; exact mb_2 (List.mem_of_getElem? (i := 43) rfl) rfl
  | 11, h => cases h; exact mb_1 (List.mem_of_getElem? (i := 18) rfl) rfl
  | 12, h => cases h; exact mb_5 (List.mem_of_getElem? (i := 159) rfl) rfl
  | k + 13, h => simp [mm_cl] at h
theorem mDf_at (base b ci : Nat) {N k : Nat} (hk : k < N) : defaultValue (mm_ty ci k) = vp_V ((mDf ci N).map (mv base b)) k := by
  unfold vp_V mDf
  rw [List.getD_eq_getElem?_getD, List.getElem?_map, List.getElem?_map, List.getElem?_range hk]
  show _ = mv base b (defaultValue (mm_ty ci k))
  cases mm_ty ci k <;> rfl
theorem mCat_mv (base b : Nat) (r : List Value) : ((r.map (mv base b)).map fun v => v.category).sum = mCat r := by
  unfold mCat
  rw [List.map_map]
  congr 1
  apply List.map_congr_left
  intro v _
  exact mv_cat base b v
theorem mCallV_not {k nx : Nat} {mi : mI} {L : mL} {st : List Value} {h : mH} {nc ns bc bs : Nat} {z : mS} (ht : mCallV k = some mi) : ¬ mSem nx mi.2.1 mi.2.2.1 mi.2.2.2.1 mi.2.2.2.2 L st h nc ns bc bs mi.1 = some (.inl z) := by
  unfold mCallV at ht
  split at ht
  · split at ht
    · cases ht
      simp only [mSem]
      intro hs
      split at hs
      · split at hs
        · split at hs <;> cases hs
        · cases hs
      · cases hs
    · cases ht
  · cases ht
theorem mCallS_not {k nx : Nat} {mi : mI} {L : mL} {st : List Value} {h : mH} {nc ns bc bs : Nat} {z : mS} (ht : mCallS k = some mi) : ¬ mSem nx mi.2.1 mi.2.2.1 mi.2.2.2.1 mi.2.2.2.2 L st h nc ns bc bs mi.1 = some (.inl z) := by
  unfold mCallS at ht
  split at ht
  · split at ht
    · cases ht
      simp only [mSem]
      intro hs
      split at hs <;> cases hs
    · cases ht
  · cases ht
theorem mCallI_not {k nx : Nat} {mi : mI} {L : mL} {st : List Value} {h : mH} {nc ns bc bs : Nat} {z : mS} (ht : mCallI k = some mi) : ¬ mSem nx mi.2.1 mi.2.2.1 mi.2.2.2.1 mi.2.2.2.2 L st h nc ns bc bs mi.1 = some (.inl z) := by
  unfold mCallI at ht
  split at ht
  · split at ht
    · cases ht
      simp only [mSem]
      intro hs
      split at hs
      · split at hs <;> cases hs
      · cases hs
    · cases ht
  · cases ht
section MCOPY
variable {p : Program} {l : Launch} {e : Env} {R : Room} {s : State} {m : MethodId} {args : Array Value} {below : List Frame} {meth : Method} {c : Code} {H : Heap} {locs : List Loc} {cells slots : Nat} {Q : State → Prop}
theorem mw_nn (z : Int32) (hz : ¬ z < 0) : z.toInt = (z.toNatClampNeg : Int) := by
  have h0 : (0 : Int) ≤ z.toInt := by
    have := Int32.not_lt.mp hz
    simpa using Int32.le_iff_toInt_le.mp this
  show z.toInt = ((z.toInt.toNat : Nat) : Int)
  omega
theorem mw_copy {cc : ByteArray} {pc : Nat} {ls : Array Slot} {rest : List Value} {D : va_G} {ca : Nat → ClassId} {a a0 : Nat} (hexec : p.tables.exec = Jvm.exec) (hb : c.code = cc) (hml : c.maxLocals = ls.size) {own : String} {index : Nat} (hown : s.vm.findClass own = some m.cls) (hlink : (Cond.methodLink own index arraycopyName).before args s = true) (hnat : (Cond.native arraycopyName).before args s = true) (hstat : (Cond.static arraycopyName).before args s = true) (hini : (Cond.initialized "java/lang/System").before args s = true)
    (hK : va_K D mm_cm (mTys ca) s) {n0 n1 : Nat} {f g : Nat → Int32} (hc0 : H[a0]? = some (vp_cell (ca 0) (n0, .inl f))) (hc1 : H[a]? = some (vp_cell (ca 0) (n1, .inl g)))
    {sp dp n : Int32} (h1 : ¬ sp < 0) (h2 : ¬ dp < 0) (h3 : ¬ n < 0) (h4 : sp.toNatClampNeg + n.toNatClampNeg ≤ n0) (h5 : dp.toNatClampNeg + n.toNatClampNeg ≤ n1)
    (hframes : 1 ≤ R.frames) (hlocals : (rest.map fun v => v.category).sum + (nativeFrameWords "java/lang/System" "arraycopy" 5 + 11) ≤ R.locals) (hdg : decode cc pc = .ok (.invokestatic index, 3))
    (kk : ∀ (H1 : Heap) (L1 : List Loc), H1.size = H.size → (∀ q : Nat, q ≠ a → H1[q]? = H[q]?) → H1[a]? = some (vp_cell (ca 0) (n1, .inl (va_cpy f g sp.toNatClampNeg dp.toNatClampNeg n.toNatClampNeg))) → (∀ q ∈ L1, q.base = a) → W p l e R s m args below meth c H1 (locs ++ L1) cells slots Q (F0 m (pc + 3) ls rest)) : W p l e R s m args below meth c H locs cells slots Q (F0 m pc ls (.int n :: .int dp :: .ref a :: .int sp :: .ref a0 :: rest)) := by
  intro T hT X
  obtain ⟨-, k0, hk0, cm0, hkk0⟩ := (hK.2 0 _ rfl).1 n0 (fun j => .int (f j))
  obtain ⟨-, k1, hk1, cm1, hkk1⟩ := (hK.2 0 _ rfl).1 n1 (fun j => .int (g j))
  obtain ⟨vm', X', step⟩ := X.arraycopy hexec hown hlink hnat hstat hini (src := a0) (dst := a) (cs := vp_cell (ca 0) (n0, .inl f)) (cd := vp_cell (ca 0) (n1, .inl g)) (srcPos := sp) (destPos := dp) (n := n) (by rw [hT]; exact hc0) (by rw [hT]; exact hc1)
    (fun _ h => by cases h) (fun _ h => by cases h) (fun h => by cases h) (fun h => by cases h) hk0 hk1 hkk0 hkk1 (by simp [refKind]) h1 h2 h3
    (by rw [mw_nn sp h1, mw_nn n h3]; show ¬ _ > ((arrV (ca 0) n0 (fun j => .int (f j))).slots.size : Int); rw [arrV_size]; omega)
    (by rw [mw_nn dp h2, mw_nn n h3]; show ¬ _ > ((arrV (ca 0) n1 (fun j => .int (g j))).slots.size : Int); rw [arrV_size]; omega)
    (fun vm₁ _ i hi => by
      have e9 : (vp_cell (ca 0) (n0, .inl f)).slots.getD (sp.toNatClampNeg + i) .null = .int (f (sp.toNatClampNeg + i)) := by
        show (arrV (ca 0) n0 (fun j => .int (f j))).slots.getD _ _ = _
        rw [Array.getD_eq_getD_getElem?, arrV_read _ _ (by omega)]
        rfl
      exact ⟨by rw [e9]; rfl, by rw [e9]; exact trivial⟩)
    (g := F0 m pc ls (.int n :: .int dp :: .ref a :: .int sp :: .ref a0 :: rest)) rfl (by rw [hml]) (rest := rest) rfl (by rw [hb]; exact hdg) hframes (by show 2 * 0 + _ + _ ≤ _; omega)
  have e1 : copied (vp_cell (ca 0) (n0, .inl f)) (vp_cell (ca 0) (n1, .inl g)) sp dp n = vp_cell (ca 0) (n1, .inl (va_cpy f g sp.toNatClampNeg dp.toNatClampNeg n.toNatClampNeg)) := va_copied (fun z => .int z) (ca 0) (ca 0) f g h4
  rw [e1] at X' step
  have hl : a < H.size := (Array.getElem?_eq_some_iff.mp hc1).1
  obtain ⟨t, a1, b1⟩ := kk (H.setIfInBounds a (vp_cell (ca 0) (n1, .inl (va_cpy f g sp.toNatClampNeg dp.toNatClampNeg n.toNatClampNeg)))) _ (by simp) (fun q hq => by simp [Array.getElem?_setIfInBounds, Ne.symm hq]) (by simp [Array.getElem?_setIfInBounds, hl]) (fun q hq => by
      obtain ⟨z, -, hz⟩ := List.mem_map.mp hq
      rw [← hz]) _ (by rw [← hT]; rfl) X'
  exact ⟨t, step t a1, b1⟩
end MCOPY
set_option maxHeartbeats 4000000 in
theorem mInl {D : va_G} {ca : Nat → ClassId} {base b Ls : Nat} {xs : Nat → Int32} {own : Nat} {ini : Bool} {bz : Nat} {bytes : ByteArray} {n bc bs d : Nat} {p : Program} {l : Launch} {e : Env} {R : Room} {s : State} {m : MethodId} {args : Array Value} {below : List Frame} {meth : Method} {c : Code} {Qf : State → Prop}
    (E : mEv D ca base b Ls xs own ini bytes n bc bs d p R s m args meth c) {pc len : Nat} {i : Instr} {mi : mI} {L : mL} {st : List Value} {h : mH} {nc ns : Nat} {z : mS}
    (hd : decode bytes pc = .ok (i, len)) (hlen : len = mLen len i) (ht : mTr own pc ini bz i = some mi) (hs : mSem (pc + len) mi.2.1 mi.2.2.1 mi.2.2.2.1 mi.2.2.2.2 L st h nc ns bc bs mi.1 = some (.inl z))
    (hX : mGo D ca base b Ls xs n p l e R s m args below meth c Qf z) : mGo D ca base b Ls xs n p l e R s m args below meth c Qf (pc, L, st, h, nc, ns) := by
  obtain ⟨hx, hb, hml, hown, hts, hini, hWo, hXs, hbs, hRc, hRs, hRf, hRl⟩ := E
  have hK := hWo.1
  intro H locs ls hl hR hS
  cases i
  case iconst n =>
    cases ht
    obtain rfl : len = 1 := hlen
    cases hs
    exact lv_iconst hx hb hd rfl (hX H locs ls hl hR hS)
  case bipush n =>
    simp only [mTr] at ht
    split at ht
    · rename_i hc
      cases ht
      obtain rfl : len = 2 := hlen
      cases hs
      exact lv_bipush hx hb hd hc (hX H locs ls hl hR hS)
    · cases ht
  case sipush n =>
    simp only [mTr] at ht
    split at ht
    · rename_i hc
      cases ht
      obtain rfl : len = 3 := hlen
      cases hs
      exact lv_sipush hx hb hd hc (hX H locs ls hl hR hS)
    · cases ht
  case ldc j =>
    obtain ⟨v, hv, rfl⟩ := Option.map_eq_some_iff.mp ht
    obtain rfl : len = 2 := hlen
    cases hs
    exact lv_ldc hx hb hown (hts _ (mfC_ok hv)) hd (hX H locs ls hl hR hS)
  case ldc_w j =>
    obtain ⟨v, hv, rfl⟩ := Option.map_eq_some_iff.mp ht
    obtain rfl : len = 3 := hlen
    cases hs
    exact lv_ldcw hx hb hown (hts _ (mfC_ok hv)) hd (hX H locs ls hl hR hS)
  case ldc2_w j =>
    obtain ⟨v, hv, rfl⟩ := Option.map_eq_some_iff.mp ht
    obtain rfl : len = 3 := hlen
    cases hs
    exact lv_ldc2 hx hb hown (hts _ (mfL_ok hv)) hd (hX H locs ls hl hR hS)
  case lconst k =>
    cases ht
    obtain rfl : len = 1 := hlen
    cases hs
    exact lv_lconst hx hb hd (by match k with | 0 => rfl | 1 => rfl) (hX H locs ls hl hR hS)
  case iload j =>
    cases ht
    obtain rfl : len = 2 := hlen
    simp only [mSem] at hs
    split at hs
    · rename_i x ex
      cases hs
      exact lv_iload hx hb hd (hl.2.2.2 _ _ ex) (hX H locs ls hl hR hS)
    · cases hs
  case iload_n j =>
    cases ht
    obtain rfl : len = 1 := hlen
    simp only [mSem] at hs
    split at hs
    · rename_i x ex
      cases hs
      exact lv_iload_n hx hb hd rfl (hl.2.2.2 _ _ ex) (hX H locs ls hl hR hS)
    · cases hs
  case lload j =>
    cases ht
    obtain rfl : len = 2 := hlen
    simp only [mSem] at hs
    split at hs
    · rename_i x ex
      cases hs
      exact lv_lload hx hb hd (hl.2.2.2 _ _ ex) (hX H locs ls hl hR hS)
    · cases hs
  case lload_n j =>
    cases ht
    obtain rfl : len = 1 := hlen
    simp only [mSem] at hs
    split at hs
    · rename_i x ex
      cases hs
      exact lv_lload_n hx hb hd rfl (hl.2.2.2 _ _ ex) (hX H locs ls hl hR hS)
    · cases hs
  case aload j =>
    cases ht
    obtain rfl : len = 2 := hlen
    simp only [mSem] at hs
    split at hs
    · rename_i x ex
      cases hs
      exact lv_aload hx hb hd (hl.2.2.2 _ _ ex) (hX H locs ls hl hR hS)
    · rename_i ex
      cases hs
      exact lv_aloadN hx hb hd (hl.2.2.2 _ _ ex) (hX H locs ls hl hR hS)
    · cases hs
  case aload_n j =>
    cases ht
    obtain rfl : len = 1 := hlen
    simp only [mSem] at hs
    split at hs
    · rename_i x ex
      cases hs
      exact lv_aload_n hx hb hd rfl (hl.2.2.2 _ _ ex) (hX H locs ls hl hR hS)
    · rename_i ex
      cases hs
      exact lv_aload_nN hx hb hd rfl (hl.2.2.2 _ _ ex) (hX H locs ls hl hR hS)
    · cases hs
  case istore j =>
    cases ht
    obtain rfl : len = 2 := hlen
    simp only [mSem] at hs
    split at hs
    · split at hs
      · rename_i hc
        cases hs
        exact lv_istore hx hb hd hl.has (by rw [← hl.2.1]; exact hc.1) rfl (fun ls' h' => hX H locs ls' (mLs_set1 hl hc.1 hc.2 h') hR hS)
      · cases hs
    · cases hs
  case istore_n j =>
    cases ht
    obtain rfl : len = 1 := hlen
    simp only [mSem] at hs
    split at hs
    · split at hs
      · rename_i hc
        cases hs
        exact lv_istore_n hx hb hd rfl hl.has (by rw [← hl.2.1]; exact hc.1) rfl (fun ls' h' => hX H locs ls' (mLs_set1 hl hc.1 hc.2 h') hR hS)
      · cases hs
    · cases hs
  case lstore j =>
    cases ht
    obtain rfl : len = 2 := hlen
    simp only [mSem] at hs
    split at hs
    · split at hs
      · rename_i hc
        cases hs
        exact lv_lstore hx hb hd hl.has (by rw [← hl.2.1]; exact hc.1) rfl (fun ls' h' => hX H locs ls' (mLs_set2 hl hc.1 hc.2 h') hR hS)
      · cases hs
    · cases hs
  case lstore_n j =>
    cases ht
    obtain rfl : len = 1 := hlen
    simp only [mSem] at hs
    split at hs
    · split at hs
      · rename_i hc
        cases hs
        exact lv_lstore_n hx hb hd rfl hl.has (by rw [← hl.2.1]; exact hc.1) rfl (fun ls' h' => hX H locs ls' (mLs_set2 hl hc.1 hc.2 h') hR hS)
      · cases hs
    · cases hs
  case astore j =>
    cases ht
    obtain rfl : len = 2 := hlen
    simp only [mSem] at hs
    split at hs
    · split at hs
      · rename_i hc
        cases hs
        exact lv_astore hx hb hd hl.has (by rw [← hl.2.1]; exact hc.1) rfl (fun ls' h' => hX H locs ls' (mLs_set1 hl hc.1 hc.2 h') hR hS)
      · cases hs
    · split at hs
      · rename_i hc
        cases hs
        exact lv_astoreN hx hb hd hl.has (by rw [← hl.2.1]; exact hc.1) rfl (fun ls' h' => hX H locs ls' (mLs_set1 hl hc.1 hc.2 h') hR hS)
      · cases hs
    · cases hs
  case astore_n j =>
    cases ht
    obtain rfl : len = 1 := hlen
    simp only [mSem] at hs
    split at hs
    · split at hs
      · rename_i hc
        cases hs
        exact lv_astore_n hx hb hd rfl hl.has (by rw [← hl.2.1]; exact hc.1) rfl (fun ls' h' => hX H locs ls' (mLs_set1 hl hc.1 hc.2 h') hR hS)
      · cases hs
    · split at hs
      · rename_i hc
        cases hs
        exact lv_astore_nN hx hb hd rfl hl.has (by rw [← hl.2.1]; exact hc.1) rfl (fun ls' h' => hX H locs ls' (mLs_set1 hl hc.1 hc.2 h') hR hS)
      · cases hs
    · cases hs
  case iinc j k =>
    cases ht
    obtain rfl : len = 3 := hlen
    simp only [mSem] at hs
    split at hs
    · rename_i x ex
      split at hs
      · rename_i hc
        cases hs
        obtain ⟨kk, hkk⟩ := List.getElem?_of_mem (mAl_mem (base := base) (b := b) ex)
        have hj : j < L.length := (List.getElem?_eq_some_iff.mp ex).1
        exact lv_iinc hx hb hd hl.has hkk rfl (by rw [← hl.2.1]; exact hj) rfl (fun ls' h' => hX H locs ls' (mLs_set1 hl hj hc h') hR hS)
      · cases hs
    · cases hs
  case iadd =>
    cases ht
    obtain rfl : len = 1 := hlen
    simp only [mSem] at hs
    split at hs
    · cases hs
      exact lv_iadd hx hb hd (hX H locs ls hl hR hS)
    · cases hs
  case isub =>
    cases ht
    obtain rfl : len = 1 := hlen
    simp only [mSem] at hs
    split at hs
    · cases hs
      exact lv_isub hx hb hd (hX H locs ls hl hR hS)
    · cases hs
  case imul =>
    cases ht
    obtain rfl : len = 1 := hlen
    simp only [mSem] at hs
    split at hs
    · cases hs
      exact lv_imul hx hb hd (hX H locs ls hl hR hS)
    · cases hs
  case iand =>
    cases ht
    obtain rfl : len = 1 := hlen
    simp only [mSem] at hs
    split at hs
    · cases hs
      exact lv_iand hx hb hd (hX H locs ls hl hR hS)
    · cases hs
  case ior =>
    cases ht
    obtain rfl : len = 1 := hlen
    simp only [mSem] at hs
    split at hs
    · cases hs
      exact lv_ior hx hb hd (hX H locs ls hl hR hS)
    · cases hs
  case ixor =>
    cases ht
    obtain rfl : len = 1 := hlen
    simp only [mSem] at hs
    split at hs
    · cases hs
      exact lv_ixor hx hb hd (hX H locs ls hl hR hS)
    · cases hs
  case ishl =>
    cases ht
    obtain rfl : len = 1 := hlen
    simp only [mSem] at hs
    split at hs
    · cases hs
      exact lv_ishl hx hb hd (hX H locs ls hl hR hS)
    · cases hs
  case ishr =>
    cases ht
    obtain rfl : len = 1 := hlen
    simp only [mSem] at hs
    split at hs
    · cases hs
      exact lv_ishr hx hb hd (hX H locs ls hl hR hS)
    · cases hs
  case ladd =>
    cases ht
    obtain rfl : len = 1 := hlen
    simp only [mSem] at hs
    split at hs
    · cases hs
      exact lv_ladd hx hb hd (hX H locs ls hl hR hS)
    · cases hs
  case lmul =>
    cases ht
    obtain rfl : len = 1 := hlen
    simp only [mSem] at hs
    split at hs
    · cases hs
      exact lv_lmul hx hb hd (hX H locs ls hl hR hS)
    · cases hs
  case land =>
    cases ht
    obtain rfl : len = 1 := hlen
    simp only [mSem] at hs
    split at hs
    · cases hs
      exact lv_land hx hb hd (hX H locs ls hl hR hS)
    · cases hs
  case lor =>
    cases ht
    obtain rfl : len = 1 := hlen
    simp only [mSem] at hs
    split at hs
    · cases hs
      exact lv_lor hx hb hd (hX H locs ls hl hR hS)
    · cases hs
  case iushr =>
    cases ht
    obtain rfl : len = 1 := hlen
    simp only [mSem] at hs
    split at hs
    · cases hs
      exact lv_iushr hx hb hd rfl (hX H locs ls hl hR hS)
    · cases hs
  case lshl =>
    cases ht
    obtain rfl : len = 1 := hlen
    simp only [mSem] at hs
    split at hs
    · cases hs
      exact lv_lshl hx hb hd rfl (hX H locs ls hl hR hS)
    · cases hs
  case lshr =>
    cases ht
    obtain rfl : len = 1 := hlen
    simp only [mSem] at hs
    split at hs
    · cases hs
      exact lv_lshr hx hb hd rfl (hX H locs ls hl hR hS)
    · cases hs
  case lushr =>
    cases ht
    obtain rfl : len = 1 := hlen
    simp only [mSem] at hs
    split at hs
    · cases hs
      exact lv_lushr hx hb hd rfl (hX H locs ls hl hR hS)
    · cases hs
  case i2l =>
    cases ht
    obtain rfl : len = 1 := hlen
    simp only [mSem] at hs
    split at hs
    · cases hs
      exact lv_i2l hx hb hd rfl (hX H locs ls hl hR hS)
    · cases hs
  case l2i =>
    cases ht
    obtain rfl : len = 1 := hlen
    simp only [mSem] at hs
    split at hs
    · cases hs
      exact lv_l2i hx hb hd rfl (hX H locs ls hl hR hS)
    · cases hs
  case idiv =>
    cases ht
    obtain rfl : len = 1 := hlen
    simp only [mSem] at hs
    split at hs
    · split at hs
      · cases hs
      · rename_i hne
        cases hs
        exact lv_idiv hx hb hd hne (hX H locs ls hl hR hS)
    · cases hs
  case irem =>
    cases ht
    obtain rfl : len = 1 := hlen
    simp only [mSem] at hs
    split at hs
    · split at hs
      · cases hs
      · rename_i hne
        cases hs
        exact lv_irem hx hb hd hne (hX H locs ls hl hR hS)
    · cases hs
  case lrem =>
    cases ht
    obtain rfl : len = 1 := hlen
    simp only [mSem] at hs
    split at hs
    · split at hs
      · cases hs
      · rename_i hne
        cases hs
        exact lv_lrem hx hb hd hne (hX H locs ls hl hR hS)
    · cases hs
  case dup =>
    cases ht
    obtain rfl : len = 1 := hlen
    simp only [mSem] at hs
    split at hs
    · cases hs
      exact lv_dup hx hb hd rfl (hX H locs ls hl hR hS)
    · cases hs
      exact lv_dup hx hb hd rfl (hX H locs ls hl hR hS)
    · cases hs
  case pop =>
    cases ht
    obtain rfl : len = 1 := hlen
    simp only [mSem] at hs
    split at hs
    · cases hs
      exact lv_pop hx hb hd rfl (hX H locs ls hl hR hS)
    · cases hs
  case dup2 =>
    cases ht
    obtain rfl : len = 1 := hlen
    simp only [mSem] at hs
    split at hs
    · cases hs
      exact lv_dup2_11 hx hb hd rfl rfl (hX H locs ls hl hR hS)
    · cases hs
  case lcmp =>
    cases ht
    obtain rfl : len = 1 := hlen
    simp only [mSem] at hs
    split at hs
    · cases hs
      exact W.lcmp hx hb hd (hX H locs ls hl hR hS)
    · cases hs
  case aconst_null =>
    cases ht
    obtain rfl : len = 1 := hlen
    cases hs
    exact lv_null hx hb hd (hX H locs ls hl hR hS)
  case goto off =>
    obtain ⟨t, h1, rfl⟩ := Option.map_eq_some_iff.mp ht
    obtain rfl : len = 3 := hlen
    cases hs
    exact lv_goto hx hb hd (mTg_ok h1) (hX H locs ls hl hR hS)
  case ifnonnull off =>
    obtain ⟨t, h1, rfl⟩ := Option.map_eq_some_iff.mp ht
    obtain rfl : len = 3 := hlen
    simp only [mSem] at hs
    split at hs
    · cases hs
      exact lv_ifnonnull hx hb hd (mTg_ok h1) (hX H locs ls hl hR hS)
    · cases hs
      exact lv_ifnonnullN hx hb hd (hX H locs ls hl hR hS)
    · cases hs
  case ifCond cd off =>
    obtain ⟨t, h1, rfl⟩ := Option.map_eq_some_iff.mp ht
    obtain rfl : len = 3 := hlen
    simp only [mSem] at hs
    split at hs
    · cases hs
      cases cd
      case eq =>
        refine lv_if_eq hx hb hd (mTg_ok h1) (fun hc => ?_) (fun hc => ?_)
        · rw [if_pos (by simp [mCnd, mCc, hc])] at hX
          exact hX H locs ls hl hR hS
        · rw [if_neg (by simpa [mCnd, mCc] using hc)] at hX
          exact hX H locs ls hl hR hS
      case ne =>
        refine lv_if_ne hx hb hd (mTg_ok h1) (fun hc => ?_) (fun hc => ?_)
        · rw [if_pos (by simp [mCnd, mCc, hc])] at hX
          exact hX H locs ls hl hR hS
        · rw [if_neg (by simpa [mCnd, mCc] using hc)] at hX
          exact hX H locs ls hl hR hS
      case lt =>
        refine lv_if_lt hx hb hd (mTg_ok h1) (fun hc => ?_) (fun hc => ?_)
        · rw [if_pos (by simp [mCnd, mCc, hc])] at hX
          exact hX H locs ls hl hR hS
        · rw [if_neg (by simpa [mCnd, mCc] using hc)] at hX
          exact hX H locs ls hl hR hS
      case ge =>
        refine lv_if_ge hx hb hd (mTg_ok h1) (fun hc => ?_) (fun hc => ?_)
        · rw [if_pos (by simp [mCnd, mCc, hc])] at hX
          exact hX H locs ls hl hR hS
        · rw [if_neg (by simpa [mCnd, mCc] using hc)] at hX
          exact hX H locs ls hl hR hS
      case gt =>
        refine lv_if_gt hx hb hd (mTg_ok h1) (fun hc => ?_) (fun hc => ?_)
        · rw [if_pos (by simp [mCnd, mCc, hc])] at hX
          exact hX H locs ls hl hR hS
        · rw [if_neg (by simpa [mCnd, mCc] using hc)] at hX
          exact hX H locs ls hl hR hS
      case le =>
        refine lv_if_le hx hb hd (mTg_ok h1) (fun hc => ?_) (fun hc => ?_)
        · rw [if_pos (by simp [mCnd, mCc, hc])] at hX
          exact hX H locs ls hl hR hS
        · rw [if_neg (by simpa [mCnd, mCc] using hc)] at hX
          exact hX H locs ls hl hR hS
    · cases hs
  case if_icmp cd off =>
    obtain ⟨t, h1, rfl⟩ := Option.map_eq_some_iff.mp ht
    obtain rfl : len = 3 := hlen
    simp only [mSem] at hs
    split at hs
    · cases hs
      cases cd
      case eq =>
        refine lv_icmp_eq hx hb hd (mTg_ok h1) (fun hc => ?_) (fun hc => ?_)
        · rw [if_pos (by simp [mCnd, mCc, hc])] at hX
          exact hX H locs ls hl hR hS
        · rw [if_neg (by simpa [mCnd, mCc] using hc)] at hX
          exact hX H locs ls hl hR hS
      case ne =>
        refine lv_icmp_ne hx hb hd (mTg_ok h1) (fun hc => ?_) (fun hc => ?_)
        · rw [if_pos (by simp [mCnd, mCc, hc])] at hX
          exact hX H locs ls hl hR hS
        · rw [if_neg (by simpa [mCnd, mCc] using hc)] at hX
          exact hX H locs ls hl hR hS
      case lt =>
        refine lv_icmp_lt hx hb hd (mTg_ok h1) (fun hc => ?_) (fun hc => ?_)
        · rw [if_pos (by simp [mCnd, mCc, hc])] at hX
          exact hX H locs ls hl hR hS
        · rw [if_neg (by simpa [mCnd, mCc] using hc)] at hX
          exact hX H locs ls hl hR hS
      case ge =>
        refine lv_icmp_ge hx hb hd (mTg_ok h1) (fun hc => ?_) (fun hc => ?_)
        · rw [if_pos (by simp [mCnd, mCc, hc])] at hX
          exact hX H locs ls hl hR hS
        · rw [if_neg (by simpa [mCnd, mCc] using hc)] at hX
          exact hX H locs ls hl hR hS
      case gt =>
        refine lv_icmp_gt hx hb hd (mTg_ok h1) (fun hc => ?_) (fun hc => ?_)
        · rw [if_pos (by simp [mCnd, mCc, hc])] at hX
          exact hX H locs ls hl hR hS
        · rw [if_neg (by simpa [mCnd, mCc] using hc)] at hX
          exact hX H locs ls hl hR hS
      case le =>
        refine lv_icmp_le hx hb hd (mTg_ok h1) (fun hc => ?_) (fun hc => ?_)
        · rw [if_pos (by simp [mCnd, mCc, hc])] at hX
          exact hX H locs ls hl hR hS
        · rw [if_neg (by simpa [mCnd, mCc] using hc)] at hX
          exact hX H locs ls hl hR hS
    · cases hs
  case tableswitch df lo hi offs =>
    simp only [mTr] at ht
    split at ht
    · rename_i t ts h1 h2
      split at ht
      · rename_i hhi
        cases ht
        simp only [mSem] at hs
        split at hs
        · rename_i x r
          cases hs
          obtain ⟨e1, e2⟩ := mTgs_ok h2
          by_cases hc : x.toInt < lo ∨ lo + (ts.length : Int) ≤ x.toInt
          · rw [if_pos hc] at hX
            exact lv_tableOut hx hb hd (by omega) (mTg_ok h1) (hX H locs ls hl hR hS)
          · rw [if_neg hc] at hX
            have hj : (x.toInt - lo).toNat < offs.toList.length := by omega
            exact lv_tableIn hx hb hd (by omega) (by omega) (by rw [← Array.getElem?_toList]; exact List.getElem?_eq_getElem hj) (e2 _ _ (List.getElem?_eq_getElem hj)) (hX H locs ls hl hR hS)
        · cases hs
      · cases ht
    · cases ht
  case getfield j =>
    obtain ⟨f, hf, rfl⟩ := Option.map_eq_some_iff.mp ht
    obtain rfl : len = 3 := hlen
    simp only [mSem] at hs
    split at hs
    · rename_i x r
      split at hs
      · rename_i ci fs ex
        split at hs
        · rename_i hci
          subst hci
          split at hs
          · rename_i v ev
            cases hs
            obtain ⟨q, hq, hk, -, hlk⟩ := mfF_ok hf
            obtain ⟨-, -, hat⟩ := hR.obj ex
            exact va_get (ws := [(rho base b x, .inr (f.1, fs.map (mv base b)))]) (cl := mm_cm) (C := q.1) (T := q.2.1) (N := q.2.2) hx hb hts (mm_cl_ok hq).1 hown hK (va_P1 hat) 0 rfl (mm_cm_of hq (mm_ne1 hq hk)) f.2.1 hk (hts _ hlk) (fun _ h9 => h9) (v := mv base b v) (by rw [List.getElem?_map, ev]; rfl) hd (hX H locs ls hl hR hS)
          · cases hs
        · cases hs
      · cases hs
    · cases hs
  case putfield j =>
    simp only [mTr] at ht
    split at ht
    · rename_i f hf
      split at ht
      · rename_i hfx
        cases ht
        obtain rfl : len = 3 := hlen
        simp only [mSem] at hs
        split at hs
        · rename_i v x r
          split at hs
          · rename_i ci fs ex
            split at hs
            · rename_i hc
              obtain ⟨hci, hlf, hfit⟩ := hc
              subst hci
              cases hs
              obtain ⟨q, hq, hk, hdc, hlk⟩ := mfF_ok hf
              obtain ⟨a1, a2, hat⟩ := hR.obj ex
              simp only [mFit, Bool.and_eq_true, decide_eq_true_eq] at hfit
              refine mw_put hx hb hts hown hK hat hq (mm_cm_of hq (mm_ne1 hq hk)) f.2.1 hk (hts _ hlk) ?_ (v := mv base b v) ?_ ?_ (by rw [List.length_map]; exact hlf) hd (fun H1 i z oq ha => ?_)
              · rcases hfx with h9 | ⟨h9, h8⟩
                · left
                  unfold mfX at h9
                  rw [hq] at h9
                  exact h9
                · exact Or.inr ⟨hini h9, by rw [hdc, ← h8]⟩
              · cases v <;> first | exact hfit.1 | (cases mm_ty f.1 f.2.1 <;> rfl)
              · cases v <;> first | exact hfit.2 | (have := hfit.2; cases hty : mm_ty f.1 f.2.1 <;> rw [hty] at this <;> first | exact this | rfl | cases this)
              · refine hX H1 _ ls hl (hR.set a1 a2 trivial z oq ?_) (hS.put z oq (rho_ge a1))
                simp only [me]
                rw [List.map_set]
                exact ha
            · cases hs
          · cases hs
        · cases hs
      · cases ht
    · cases ht
  case iaload =>
    cases ht
    obtain rfl : len = 1 := hlen
    simp only [mSem] at hs
    split at hs
    · rename_i i x r
      split at hs
      · rename_i t n' f ex
        split at hs
        · rename_i hc
          cases hs
          by_cases h9 : t = 9
          · subst h9
            obtain ⟨rfl, rfl, rfl⟩ := hR.scr ex
            exact va_sld hx hb hXs (Nat.lt_of_lt_of_le hWo.2.2.2.2 hbs) (Nat.not_le.mpr hWo.2.2.2.2) hS hc.2 hd (hX H locs ls hl hR hS)
          · obtain rfl : t = 0 := hc.1.resolve_right h9
            obtain ⟨-, -, hcl, -⟩ := hR.int ex h9
            exact va_iald (ws := [(rho base b x, .inl (ca 0, n', .inl f))]) hx hb hK (va_P1 hcl) 0 0 rfl rfl hc.2 hd (hX H locs ls hl hR hS)
        · cases hs
      · cases hs
    · cases hs
  case baload =>
    cases ht
    obtain rfl : len = 1 := hlen
    simp only [mSem] at hs
    split at hs
    · rename_i i x r
      split at hs
      · rename_i t n' f ex
        split at hs
        · rename_i hc
          cases hs
          obtain ⟨rfl, hc⟩ := hc
          obtain ⟨-, -, hcl, -⟩ := hR.int ex (by decide)
          exact va_zald (ws := [(rho base b x, .inl (ca 1, n', .inl f))]) hx hb hK (va_P1 hcl) 0 1 rfl rfl hc hd (hX H locs ls hl hR hS)
        · cases hs
      · cases hs
    · cases hs
  case aaload =>
    cases ht
    obtain rfl : len = 1 := hlen
    simp only [mSem] at hs
    split at hs
    · rename_i i x r
      split at hs
      · rename_i t n' g ex
        split at hs
        · rename_i hc
          cases hs
          obtain ⟨hc1, hc⟩ := hc
          have h9 := hX H locs ls hl hR hS
          simp only [List.map_cons, mv_rf] at h9
          rcases hc1 with rfl | rfl
          · obtain ⟨-, -, hcl⟩ := hR.rf ex (by decide)
            exact va_aldq (ws := [(rho base b x, .inl (ca 2, n', .inr (.inr (.inr (.inr fun i => (g i).map (rho base b))))))]) hx hb hK (va_P1 hcl) 0 2 rfl rfl hc hd h9
          · obtain ⟨-, -, hcl⟩ := hR.rf ex (by decide)
            exact va_aldq (ws := [(rho base b x, .inl (ca 3, n', .inr (.inr (.inr (.inr fun i => (g i).map (rho base b))))))]) hx hb hK (va_P1 hcl) 0 3 rfl rfl hc hd h9
        · cases hs
      · cases hs
    · cases hs
  case iastore =>
    cases ht
    obtain rfl : len = 1 := hlen
    simp only [mSem] at hs
    split at hs
    · rename_i v i x r
      split at hs
      · rename_i t n' f ex
        split at hs
        · rename_i hc
          cases hs
          obtain ⟨rfl, hc⟩ := hc
          obtain ⟨a1, a2, hcl, -⟩ := hR.int ex (by decide)
          refine W.iast hx hb hcl ((hK.2 0 _ rfl).1 n' (fun j => .int (f j))) (fun q => by cases q) (by show ¬ (i < 0 ∨ (arrV _ _ _).slots.size ≤ _); rw [arrV_size]; exact hc) rfl rfl hd fun H1 e1 z oq => ?_
          rw [mw_upi] at e1
          exact hX H1 _ ls hl (hR.set a1 a2 (Or.inl rfl) z oq e1) (hS.put z oq (rho_ge a1))
        · cases hs
      · cases hs
    · cases hs
  case bastore =>
    cases ht
    obtain rfl : len = 1 := hlen
    simp only [mSem] at hs
    split at hs
    · rename_i v i x r
      split at hs
      · rename_i t n' f ex
        split at hs
        · rename_i hc
          cases hs
          obtain ⟨rfl, hc, hv⟩ := hc
          obtain ⟨a1, a2, hcl, -⟩ := hR.int ex (by decide)
          refine W.zast hx hb hcl ((hK.2 1 _ rfl).1 n' (fun j => .int (f j))) (fun q => by cases q) (by show ¬ (i < 0 ∨ (arrV _ _ _).slots.size ≤ _); rw [arrV_size]; exact hc) rfl rfl hd fun H1 e1 z oq => ?_
          have hn : narrow .boolean (.int v) = .int v := by rcases hv with rfl | rfl <;> rfl
          rw [hn, mw_upi] at e1
          exact hX H1 _ ls hl (hR.set a1 a2 (Or.inr rfl) z oq e1) (hS.put z oq (rho_ge a1))
        · cases hs
      · cases hs
    · cases hs
  case aastore =>
    cases ht
    obtain rfl : len = 1 := hlen
    simp only [mSem] at hs
    split at hs
    · rename_i v i x r
      split at hs
      · rename_i t n' g ci fs ex ev
        split at hs
        · rename_i hc
          cases hs
          obtain ⟨hc1, hc⟩ := hc
          have hlt : i.toNatClampNeg < n' := Nat.not_le.mp fun q => hc (Or.inr q)
          have h0 : ¬ i < 0 := fun q => hc (Or.inl q)
          rcases hc1 with ⟨rfl, rfl⟩ | ⟨rfl, rfl⟩
          ·
            obtain ⟨a1, a2, hcl⟩ := hR.rf ex (by decide)
            obtain ⟨-, -, hat⟩ := hR.obj ev
            obtain ⟨r', hr', cellV, g1, g2, g3, -⟩ := hat
            have hcls := (hK.1 4 _ rfl).2
            obtain ⟨kA, comp, k1, k2, k3, -⟩ := (hK.2 2 _ rfl).2
            have hcomp : comp = D.1 4 := Option.some.inj (k3.symm.trans hcls.1)
            subst hcomp
            obtain ⟨kC, hkC, -⟩ := hcls.2
            refine W.aast hx hb hcl (fun q h => by cases h) (fun h => by cases h) k1 k2 rfl hkC ⟨h0, by show _ < (arrV _ _ _).slots.size; rw [arrV_size]; exact hlt⟩ g1 (fun q h => by rw [g3] at h; cases h) (by rw [g2]; exact hkC) (by rw [g2]; exact va_assign hcls) rfl rfl hd fun H1 e1 z oq => ?_
            rw [mw_upq] at e1
            refine hX H1 _ ls hl (hR.set a1 a2 (Or.inl rfl) z oq ?_) (hS.put z oq (rho_ge a1))
            have hfun : va_up (fun i => (g i).map (rho base b)) i.toNatClampNeg (some (rho base b v)) = fun j => (va_up g i.toNatClampNeg (some v) j).map (rho base b) := by
              funext q
              by_cases hq : q = i.toNatClampNeg
              · subst hq; simp [va_up]
              · simp [va_up, hq]
            show H1[_]? = some (vp_cell _ _)
            rw [e1]
            exact congrArg (fun F => some (vp_cell (ca 2) (n', .inr (.inr (.inr (.inr F)))))) hfun
          ·
            obtain ⟨a1, a2, hcl⟩ := hR.rf ex (by decide)
            obtain ⟨-, -, hat⟩ := hR.obj ev
            obtain ⟨r', hr', cellV, g1, g2, g3, -⟩ := hat
            have hcls := (hK.1 3 _ rfl).2
            obtain ⟨kA, comp, k1, k2, k3, -⟩ := (hK.2 3 _ rfl).2
            have hcomp : comp = D.1 3 := Option.some.inj (k3.symm.trans hcls.1)
            subst hcomp
            obtain ⟨kC, hkC, -⟩ := hcls.2
            refine W.aast hx hb hcl (fun q h => by cases h) (fun h => by cases h) k1 k2 rfl hkC ⟨h0, by show _ < (arrV _ _ _).slots.size; rw [arrV_size]; exact hlt⟩ g1 (fun q h => by rw [g3] at h; cases h) (by rw [g2]; exact hkC) (by rw [g2]; exact va_assign hcls) rfl rfl hd fun H1 e1 z oq => ?_
            rw [mw_upq] at e1
            refine hX H1 _ ls hl (hR.set a1 a2 (Or.inr rfl) z oq ?_) (hS.put z oq (rho_ge a1))
            have hfun : va_up (fun i => (g i).map (rho base b)) i.toNatClampNeg (some (rho base b v)) = fun j => (va_up g i.toNatClampNeg (some v) j).map (rho base b) := by
              funext q
              by_cases hq : q = i.toNatClampNeg
              · subst hq; simp [va_up]
              · simp [va_up, hq]
            show H1[_]? = some (vp_cell _ _)
            rw [e1]
            exact congrArg (fun F => some (vp_cell (ca 3) (n', .inr (.inr (.inr (.inr F)))))) hfun
        · cases hs
      · cases hs
    · cases hs
  case arraylength =>
    cases ht
    obtain rfl : len = 1 := hlen
    simp only [mSem] at hs
    split at hs
    · rename_i x r
      split at hs
      · rename_i t n' f ex
        split at hs
        · rename_i hc
          cases hs
          by_cases h9 : t = 9
          · subst h9
            obtain ⟨rfl, rfl, rfl⟩ := hR.scr ex
            exact va_slen hx hb hXs (Nat.lt_of_lt_of_le hWo.2.2.2.2 hbs) (Nat.not_le.mpr hWo.2.2.2.2) hS hd (hX H locs ls hl hR hS)
          · obtain ⟨-, -, hcl, ht9⟩ := hR.int ex h9
            rcases ht9 with rfl | rfl
            · exact va_alen (ws := [(rho base b x, .inl (ca 0, n', .inl f))]) hx hb hK (va_P1 hcl) 0 0 rfl rfl rfl hd (hX H locs ls hl hR hS)
            · exact va_alen (ws := [(rho base b x, .inl (ca 1, n', .inl f))]) hx hb hK (va_P1 hcl) 0 1 rfl rfl rfl hd (hX H locs ls hl hR hS)
        · cases hs
      · rename_i t n' g ex
        split at hs
        · rename_i hc
          cases hs
          rcases hc with rfl | rfl
          · obtain ⟨-, -, hcl⟩ := hR.rf ex (by decide)
            exact va_alen (ws := [(rho base b x, .inl (ca 2, n', .inr (.inr (.inr (.inr fun i => (g i).map (rho base b))))))]) hx hb hK (va_P1 hcl) 0 2 rfl rfl rfl hd (hX H locs ls hl hR hS)
          · obtain ⟨-, -, hcl⟩ := hR.rf ex (by decide)
            exact va_alen (ws := [(rho base b x, .inl (ca 3, n', .inr (.inr (.inr (.inr fun i => (g i).map (rho base b))))))]) hx hb hK (va_P1 hcl) 0 3 rfl rfl rfl hd (hX H locs ls hl hR hS)
        · cases hs
      · cases hs
    · cases hs
  case newarray ty =>
    obtain rfl : len = 2 := hlen
    cases ty
    case int =>
      cases ht
      simp only [mSem] at hs
      split at hs
      · rename_i k r
        split at hs
        · rename_i hc
          obtain ⟨c1, c2, c3, c4⟩ := hc
          cases hs
          refine va_newaK (atype := .int) hx hb (hts _ mw_arrI) rfl hd rfl c1 rfl (by show _ * 4 ≤ _; omega) (by rw [hRc]; exact c3) (by rw [hRs]; exact c4) rfl fun H1 cA e1 z1 o1 hAr hNm => ?_
          have hcA : cA = ca 0 := Option.some.inj (hNm.symm.trans (hK.2 0 _ rfl).2)
          subst hcA
          obtain ⟨hR1, hrh⟩ := hR.new (e := .inl (0, k.toNatClampNeg, fun _ => 0)) (Or.inl rfl) z1 o1 e1
          have h9 := hX H1 locs ls hl hR1 ⟨Nat.le_trans hS.1 (by omega), fun q h1 h2 => (o1 q (Nat.lt_of_lt_of_le h1 hS.1)).trans (hS.2.1 q h1 h2), hS.2.2⟩
          simp only [List.map_cons, mv, hrh] at h9
          exact h9
        · cases hs
      · cases hs
    case boolean =>
      cases ht
      simp only [mSem] at hs
      split at hs
      · rename_i k r
        split at hs
        · rename_i hc
          obtain ⟨c1, c2, c3, c4⟩ := hc
          cases hs
          refine va_newaK (atype := .boolean) hx hb (hts _ mw_arrZ) rfl hd rfl c1 rfl (by show _ * 1 ≤ _; omega) (by rw [hRc]; exact c3) (by rw [hRs]; exact c4) rfl fun H1 cA e1 z1 o1 hAr hNm => ?_
          have hcA : cA = ca 1 := Option.some.inj (hNm.symm.trans (hK.2 1 _ rfl).2)
          subst hcA
          obtain ⟨hR1, hrh⟩ := hR.new (e := .inl (1, k.toNatClampNeg, fun _ => 0)) (Or.inr rfl) z1 o1 e1
          have h9 := hX H1 locs ls hl hR1 ⟨Nat.le_trans hS.1 (by omega), fun q h1 h2 => (o1 q (Nat.lt_of_lt_of_le h1 hS.1)).trans (hS.2.1 q h1 h2), hS.2.2⟩
          simp only [List.map_cons, mv, hrh] at h9
          exact h9
        · cases hs
      · cases hs
    all_goals (simp [mTr] at ht)
  case anewarray j =>
    simp only [mTr] at ht
    split at ht
    · rename_i hk
      cases ht
      obtain rfl : len = 3 := hlen
      simp only [mSem] at hs
      split at hs
      · rename_i k r
        split at hs
        · rename_i hc
          obtain ⟨c1, c2, c3, c4⟩ := hc
          cases hs
          refine W.anew (C := RX4) hx hb hown (hts _ (mfK_ok hk)) (va_AO.use hWo.2.2.1) rfl hd rfl c1 (by omega) (by rw [hRc]; exact c3) (by rw [hRs]; exact c4) fun cA kA comp f1 f2 f3 f4 => ?_
          generalize hH1 : H.push ({ cls := cA, slots := Array.replicate k.toNatClampNeg .null, vm := .none } : Cell) = H1
          have z1 : H1.size = H.size + 1 := by rw [← hH1, Array.size_push]
          have e1 : H1[H.size]? = some (arrV cA k.toNatClampNeg (fun _ => .null)) := by rw [← hH1, Array.getElem?_push_size, ← arrV_new]
          have o1 : ∀ q : Nat, q < H.size → H1[q]? = H[q]? := fun q hq => by rw [← hH1, Array.getElem?_push, if_neg (Nat.ne_of_lt hq)]
          obtain ⟨_, _, -, -, -, hNm⟩ := (hK.2 2 _ rfl).2
          have hcA : cA = ca 2 := Option.some.inj (f1.symm.trans hNm)
          subst hcA
          obtain ⟨hR1, hrh⟩ := hR.new (e := .inr (.inl (2, k.toNatClampNeg, fun _ => none))) (Or.inl rfl) z1 o1 e1
          have h9 := hX H1 locs ls hl hR1 ⟨Nat.le_trans hS.1 (by omega), fun q h1 h2 => (o1 q (Nat.lt_of_lt_of_le h1 hS.1)).trans (hS.2.1 q h1 h2), hS.2.2⟩
          simp only [List.map_cons, mv, hrh] at h9
          exact h9
        · cases hs
      · cases hs
    · rename_i hk
      cases ht
      obtain rfl : len = 3 := hlen
      simp only [mSem] at hs
      split at hs
      · rename_i k r
        split at hs
        · rename_i hc
          obtain ⟨c1, c2, c3, c4⟩ := hc
          cases hs
          refine W.anew (C := RX3) hx hb hown (hts _ (mfK_ok hk)) (va_AO.use hWo.2.2.2.1) rfl hd rfl c1 (by omega) (by rw [hRc]; exact c3) (by rw [hRs]; exact c4) fun cA kA comp f1 f2 f3 f4 => ?_
          generalize hH1 : H.push ({ cls := cA, slots := Array.replicate k.toNatClampNeg .null, vm := .none } : Cell) = H1
          have z1 : H1.size = H.size + 1 := by rw [← hH1, Array.size_push]
          have e1 : H1[H.size]? = some (arrV cA k.toNatClampNeg (fun _ => .null)) := by rw [← hH1, Array.getElem?_push_size, ← arrV_new]
          have o1 : ∀ q : Nat, q < H.size → H1[q]? = H[q]? := fun q hq => by rw [← hH1, Array.getElem?_push, if_neg (Nat.ne_of_lt hq)]
          obtain ⟨_, _, -, -, -, hNm⟩ := (hK.2 3 _ rfl).2
          have hcA : cA = ca 3 := Option.some.inj (f1.symm.trans hNm)
          subst hcA
          obtain ⟨hR1, hrh⟩ := hR.new (e := .inr (.inl (3, k.toNatClampNeg, fun _ => none))) (Or.inr rfl) z1 o1 e1
          have h9 := hX H1 locs ls hl hR1 ⟨Nat.le_trans hS.1 (by omega), fun q h1 h2 => (o1 q (Nat.lt_of_lt_of_le h1 hS.1)).trans (hS.2.1 q h1 h2), hS.2.2⟩
          simp only [List.map_cons, mv, hrh] at h9
          exact h9
        · cases hs
      · cases hs
    · cases ht
  case new j =>
    simp only [mTr] at ht
    split at ht
    · rename_i ci hk
      split at ht
      · rename_i q hq
        cases ht
        obtain rfl : len = 3 := hlen
        simp only [mSem] at hs
        split at hs
        · rename_i hc
          obtain ⟨c3, c4⟩ := hc
          cases hs
          have hq1 := mm_cm_of hq (by obtain ⟨y9, hy9⟩ := mFind2 hk; exact mm_no1 _ hy9)
          have hKn := hK.1 ci _ hq1
          obtain ⟨hin, hty, hnm⟩ := mm_cl_ok hq
          have hcn : mm_cn ci = q.1 := mm_cn_cl hq
          refine W.newcK (C := q.1) (n := q.2.2) hx hb hown (by rw [← hcn]; exact hts _ (mfK_ok hk)) (hts _ (mm_instant hq hk)) (hts _ (mm_initd hq)) rfl hd (by rw [hRc]; exact c3) (by rw [hRs]; exact c4) hKn.2.1 rfl fun H1 kC hkC e1 z1 o1 => ?_
          obtain ⟨hR1, hrh⟩ := hR.new (e := .inr (.inr (ci, mDf ci q.2.2))) trivial z1 o1 ⟨q, hq1, (u_born (mm_ty ci) hts hin hKn hkC e1 hty).to (fun k hk => mDf_at base b ci hk)⟩
          have h9 := hX H1 locs ls hl hR1 ⟨Nat.le_trans hS.1 (by omega), fun q h1 h2 => (o1 q (Nat.lt_of_lt_of_le h1 hS.1)).trans (hS.2.1 q h1 h2), hS.2.2⟩
          simp only [List.map_cons, mv, hrh] at h9
          exact h9
        · cases hs
      · cases ht
    · cases ht
  case invokespecial j =>
    simp only [mTr] at ht
    split at ht
    · rename_i hk
      cases ht
      obtain rfl : len = 3 := hlen
      simp only [mSem] at hs
      split at hs
      · rename_i x r
        split at hs
        · rename_i hc
          cases hs
          exact W.objInit hx hb hown (hts _ (mfM_ok hk).1) (hts _ mw_oi) (hts _ mw_oc) rfl (by show ls.size = _; rw [hml]; exact hl.1) rfl hd (by omega) (by show 2 * 0 + ((r.map (mv base b)).map fun v => v.category).sum + 12 ≤ _; rw [mCat_mv]; omega) (hX H locs ls hl hR hS)
        · cases hs
      · cases hs
    · exact absurd hs (mCallI_not ht)
    · split at ht
      · exact absurd hs (mCallI_not ht)
      · cases ht
  case invokestatic j =>
    simp only [mTr] at ht
    split at ht
    · rename_i hk
      cases ht
      obtain rfl : len = 3 := hlen
      simp only [mSem] at hs
      split at hs
      · rename_i y x r
        split at hs
        · rename_i hc
          cases hs
          exact va_mmax hx hb (by rw [hml]; exact hl.1.symm) hown (hts _ (mfM_ok hk).1) (hts _ mw_maxs) (hts _ mw_mi) (hts _ mw_maxc) (by omega) (by rw [mCat_mv]; omega) (by rw [hRc]; exact hc.2.1) (by rw [hRs]; exact hc.2.2) hd (hX H locs ls hl hR hS)
        · cases hs
      · cases hs
    · rename_i hk
      cases ht
      obtain rfl : len = 3 := hlen
      simp only [mSem] at hs
      split at hs
      · rename_i y x r
        split at hs
        · rename_i hc
          cases hs
          exact va_mmin hx hb (by rw [hml]; exact hl.1.symm) hown (hts _ (mfM_ok hk).1) (hts _ mw_mins) (hts _ mw_mi) (hts _ mw_minc) (by omega) (by rw [mCat_mv]; omega) (by rw [hRc]; exact hc.2.1) (by rw [hRs]; exact hc.2.2) hd (hX H locs ls hl hR hS)
        · cases hs
      · cases hs
    · rename_i hk
      cases ht
      obtain rfl : len = 3 := hlen
      simp only [mSem] at hs
      split at hs
      · rename_i k dp y sp x r
        split at hs
        · rename_i t n0 f t' n1 g ex ey
          split at hs
          · rename_i hc
            obtain ⟨c0, rfl, rfl, c1, c2, c3, c4, c5⟩ := hc
            cases hs
            obtain ⟨-, -, hcx, -⟩ := hR.int ex (by decide)
            obtain ⟨a1, a2, hcy, -⟩ := hR.int ey (by decide)
            refine mw_copy hx hb (by rw [hml]; exact hl.1.symm) hown (hts _ (mfM_ok hk).1) (hts _ mw_acn) (hts _ mw_acs) (hts _ mw_aci) hK hcx hcy c1 c2 c3 c4 c5 (by omega) (by rw [mCat_mv]; have : nativeFrameWords "java/lang/System" "arraycopy" 5 ≤ 60 := (by decide +kernel); omega) hd fun H1 L1 z oq ha hL1 => ?_
            exact hX H1 _ ls hl (hR.set a1 a2 (Or.inl rfl) z oq ha) ⟨by rw [z]; exact hS.1, fun q g1 g2 => by rw [oq q (fun e9 => g2 (by rw [e9]; exact rho_ge a1))]; exact hS.2.1 q g1 g2, fun q hq => by
              rcases List.mem_append.mp hq with h9 | h9
              · exact hS.2.2 q h9
              · rw [hL1 q h9]; exact rho_ge a1⟩
          · cases hs
        · cases hs
      · cases hs
    · exact absurd hs (mCallS_not ht)
    · split at ht
      · exact absurd hs (mCallS_not ht)
      · cases ht
  case invokevirtual j =>
    simp only [mTr] at ht
    split at ht
    · exact absurd hs (mCallV_not ht)
    · cases ht
  case ireturn =>
    simp only [mTr] at ht
    split at ht
    · cases ht
      simp only [mSem] at hs
      split at hs
      · split at hs <;> cases hs
      · cases hs
    · split at ht
      · cases ht
        simp only [mSem] at hs
        split at hs
        · split at hs <;> cases hs
        · cases hs
      · cases ht
  case lreturn =>
    simp only [mTr] at ht
    split at ht
    · cases ht
      simp only [mSem] at hs
      split at hs
      · split at hs <;> cases hs
      · cases hs
    · cases ht
  case return_ =>
    simp only [mTr] at ht
    split at ht
    · cases ht
      simp only [mSem] at hs
      split at hs
      · split at hs <;> cases hs
      · cases hs
    · cases ht
  all_goals (simp [mTr] at ht)
end
section
/-! calls and returns; the mini machine is sound -/
def mWs (r : mR) : List Cond := Cond.code r.1 r.2.1 r.2.2.1 r.2.2.2.1 :: mTb
def mRm (d : Nat) (r : mR) : Room := { frames := d + 1, cells := r.2.2.2.2.2.2.2.1, slots := r.2.2.2.2.2.2.2.2.1, locals := 60 * d + 100 }
theorem mTb_good {w : Cond} (h : w ∈ mTb) : (w.onTables && w.keeps) = true ∨ ∃ ty, w = .arrayClass ty := good_of_word (List.mem_filter.mp h).2
theorem mWs_good {r : mR} (h : mwR r) : GoodIn mTb (mWs r) := by
  intro w hw
  rcases List.mem_cons.mp hw with rfl | hw
  · exact ⟨h.1, mTb_good h.1⟩
  · exact ⟨hw, mTb_good hw⟩
theorem mT_len : mT.length = 263 := by rw [mT_split, List.length_append, mTa_len]; rfl
theorem mT_lt {k : Nat} {r : mR} (h : mT[k]? = some r) : k < 263 := by
  have := (List.getElem?_eq_some_iff.mp h).1
  rw [mT_len] at this
  exact this
theorem mTa_no1b : mTa.all (fun r => decide (r.2.2.2.2.2.2.1 = 0 → r.2.2.2.2.1 ≠ 1)) = true := by decide +kernel
theorem mTa_no1 {k : Nat} {r : mR} (hk : k < 262) (h : mT[k]? = some r) (h0 : r.2.2.2.2.2.2.1 = 0) : r.2.2.2.2.1 ≠ 1 := by
  rw [mT_split, List.getElem?_append_left (by rw [mTa_len]; exact hk)] at h
  have := List.all_eq_true.mp mTa_no1b r (List.mem_of_getElem? h)
  exact of_decide_eq_true this h0
theorem mNm_row {k : Nat} {r : mR} (h : mT[k]? = some r) : mNm k = r.1 := by
  unfold mNm
  rw [h]
section MCALL
variable {p : Program} {l : Launch} {e : Env} {R : Room} {s : State} {m : MethodId} {args : Array Value} {below : List Frame} {meth : Method} {c : Code} {H : Heap} {locs : List Loc} {cells slots : Nat} {Qf : State → Prop}
variable {D : va_G} {ca : Nat → ClassId} {base b Ls : Nat} {xs : Nat → Int32}
theorem mw_call {mc ms pc : Nat} {ls : Array Slot} {st0 rest : List Value} {a : Array Value} {Q : mP} (hr : va_Run p l e R s m args below meth c H locs cells slots mc ms (F0 m pc ls st0) rest (mQc D ca base b Ls xs Q a) (fun q => base ≤ q)) (hS : va_S (fun q => base ≤ q) s.heap H locs)
    (kk : ∀ (v : Option Value) (h' : mH) (H1 : Heap) (locs1 : List Loc), Q v h' → mRep D ca base b Ls xs h' H1 → va_S (fun q => base ≤ q) s.heap H1 locs1 → W p l e R s m args below meth c H1 locs1 (cells + mc) (slots + ms) Qf (F0 m (pc + 3) ls ((v.map (mv base b)).toList ++ rest))) : W p l e R s m args below meth c H locs cells slots Qf (F0 m pc ls st0) := by
  intro T hT X
  obtain ⟨v, st₀, t, T', L, h0, X', hL, e1, e2, ⟨⟨w, h', hv, hq, hrp⟩, hz, hk⟩, st⟩ := hr T hT X
  cases hv
  rw [h0] at hz hk
  obtain ⟨t2, a1, b1⟩ := kk w h' T'.heap (locs ++ L) hq (by rw [e1]; exact hrp)
    ⟨Nat.le_trans hS.1 (by rw [e1]; exact hz), fun q h1 h2 => by rw [e1, hk q (Nat.lt_of_lt_of_le h1 hS.1) h2]; exact hS.2.1 q h1 h2, fun q hq => by
      rcases List.mem_append.mp hq with h | h
      · exact hS.2.2 q h
      · exact hL q h⟩ T' rfl X'
  exact ⟨t2, st t2 a1, b1⟩
theorem mw_cb (hts : ∀ w ∈ mTb, w.before args s = true) {k d' idx : Nat} {own : String} {r : mR} (hk : k < 262) (hr : mT[k]? = some r) (hl : Cond.methodLink own idx r.1 ∈ mTb) (hRf : d' + 1 + 1 ≤ R.frames) (hRl : 60 * (d' + 1) + 100 ≤ R.locals) :
    CallB R s args own idx r.1 r.2.1 r.2.2.1 r.2.2.2.1 (mWs r) (mRm d' r) r.2.2.2.2.2.2.2.1 r.2.2.2.2.2.2.2.2.1 (if r.2.2.2.2.2.2.1 = 1 then r.2.2.2.2.2.1 else r.2.2.2.2.2.1 - 1) := by
  obtain ⟨⟨w1, w2, w3, w4⟩, ⟨s1, s2, s3, s4, s5, s6, s7, s8, s9⟩, -⟩ := mT_ok hk hr
  refine ⟨rfl, rfl, hRf, ?_, pay_in hts (mWs_good ⟨w1, w2, w3, w4⟩), List.mem_cons_self, hts _ w1, hts _ w2, ⟨s3, s4⟩, fun sig h => ?_, hts _ hl⟩
  · show 8 + (r.2.2.1 + 11) + (60 * d' + 100) ≤ R.locals
    omega
  · rw [h] at s5
    exact (Option.some.inj s5).symm
theorem mw_cn (hts : ∀ w ∈ mTb, w.before args s = true) {k d' idx y : Nat} {own : Nat} {r : mR} (hWo : mWo D ca base b s) (hk : k < 262) (hr : mT[k]? = some r) (hl : (own, idx, k, y) ∈ mx_N) (hRf : d' + 1 + 1 ≤ R.frames) (hRl : 60 * (d' + 1) + 100 ≤ R.locals) :
    va_CN R s args (mm_cn own) idx r.1 "CodeExchange" r.2.1 r.2.2.1 r.2.2.2.1 (mWs r) (mRm d' r) r.2.2.2.2.2.2.2.1 r.2.2.2.2.2.2.2.2.1 (if r.2.2.2.2.2.2.1 = 1 then r.2.2.2.2.2.1 else r.2.2.2.2.2.1 - 1) := by
  obtain ⟨⟨w1, w2, w3, w4⟩, ⟨s1, s2, s3, s4, s5, s6, s7, s8, s9⟩, -⟩ := mT_ok hk hr
  have hn := hWo.2.1 _ hl
  simp only [mNm_row hr] at hn
  refine ⟨⟨rfl, rfl, hRf, ?_, pay_in hts (mWs_good ⟨w1, w2, w3, w4⟩), List.mem_cons_self⟩, hts _ w1, hts _ w2, ⟨s3, s4⟩, fun sig h => ?_, va_Nw.use rfl hn⟩
  · show 8 + (r.2.2.1 + 11) + (60 * d' + 100) ≤ R.locals
    omega
  · rw [h] at s5
    exact (Option.some.inj s5).symm
end MCALL
theorem mw_stk (base b : Nat) (st : List Value) (k : Nat) : st.map (mv base b) = (((st.take k).reverse).map (mv base b)).reverse ++ (st.drop k).map (mv base b) := by
  rw [← List.map_reverse, List.reverse_reverse, ← List.map_append, List.take_append_drop]
theorem mw_ret (base b : Nat) (v : Option Value) (r : List Value) : (v.toList ++ r).map (mv base b) = (v.map (mv base b)).toList ++ r.map (mv base b) := by
  cases v <;> simp
set_option maxHeartbeats 4000000 in
theorem mSem_call {nx : Nat} {a : Int} {bb cc : Nat} {ts : List Nat} {L : mL} {st : List Value} {h : mH} {nc ns bc bs op : Nat} {w : Nat × List Value × Nat × mL × List Value × Nat × Nat} (hs : mSem nx a bb cc ts L st h nc ns bc bs op = some (.inr (.inl w))) : op = 50 ∨ op = 51 ∨ op = 52 := by
  unfold mSem at hs
  split at hs
  all_goals first | exact Or.inl rfl | exact Or.inr (Or.inl rfl) | exact Or.inr (Or.inr rfl) | skip
  all_goals (exfalso; repeat' (split at hs))
  all_goals (first | cases hs)
set_option maxHeartbeats 4000000 in
theorem mSem_ret {nx : Nat} {a : Int} {bb cc : Nat} {ts : List Nat} {L : mL} {st : List Value} {h : mH} {nc ns bc bs op : Nat} {v : Option Value} (hs : mSem nx a bb cc ts L st h nc ns bc bs op = some (.inr (.inr v))) : nc ≤ bc ∧ ns ≤ bs ∧ ((op = 70 ∧ ∃ x, st = [.int x] ∧ v = some (.int x) ∧ (bb = 0 ∨ x = 0 ∨ x = 1)) ∨ (op = 71 ∧ ∃ x, st = [.long x] ∧ v = some (.long x)) ∨ (op = 72 ∧ st = [] ∧ v = none)) := by
  unfold mSem at hs
  split at hs
  all_goals first
    | (exfalso; repeat' (split at hs)
       all_goals (first | cases hs)
       done)
    | skip
  · split at hs
    · split at hs
      · rename_i x hc
        cases hs
        exact ⟨hc.1, hc.2.1, Or.inl ⟨rfl, x, rfl, rfl, hc.2.2⟩⟩
      · cases hs
    · cases hs
  · split at hs
    · split at hs
      · rename_i x hc
        cases hs
        exact ⟨hc.1, hc.2, Or.inr (Or.inl ⟨rfl, x, rfl, rfl⟩)⟩
      · cases hs
    · cases hs
  · split at hs
    · split at hs
      · rename_i hc
        cases hs
        exact ⟨hc.1, hc.2, Or.inr (Or.inr ⟨rfl, rfl, rfl⟩)⟩
      · cases hs
    · cases hs
def mRtf (bz : Nat) (i : Instr) (st : List Value) (v : Option Value) : Prop := (i = .ireturn ∧ ∃ x, st = [.int x] ∧ v = some (.int x) ∧ (bz = 0 ∨ (bz = 1 ∧ (x = 0 ∨ x = 1)))) ∨ (i = .lreturn ∧ bz = 2 ∧ ∃ x, st = [.long x] ∧ v = some (.long x)) ∨ (i = .return_ ∧ bz = 3 ∧ st = [] ∧ v = none)
set_option maxHeartbeats 4000000 in
theorem mTr_ret {own pc bz : Nat} {ini : Bool} {i : Instr} {mi : mI} (ht : mTr own pc ini bz i = some mi) (ho : mi.1 = 70 ∨ mi.1 = 71 ∨ mi.1 = 72) : (i = .ireturn ∧ mi.1 = 70 ∧ ((bz = 0 ∧ mi.2.2.1 = 0) ∨ (bz = 1 ∧ mi.2.2.1 = 1))) ∨ (i = .lreturn ∧ mi.1 = 71 ∧ bz = 2) ∨ (i = .return_ ∧ mi.1 = 72 ∧ bz = 3) := by
  cases i
  case ireturn =>
    simp only [mTr] at ht
    split at ht
    · rename_i hz
      cases ht
      exact Or.inl ⟨rfl, rfl, Or.inl ⟨hz, rfl⟩⟩
    · split at ht
      · rename_i hz
        cases ht
        exact Or.inl ⟨rfl, rfl, Or.inr ⟨hz, rfl⟩⟩
      · cases ht
  case lreturn =>
    simp only [mTr] at ht
    split at ht
    · rename_i hz
      cases ht
      exact Or.inr (Or.inl ⟨rfl, rfl, hz⟩)
    · cases ht
  case return_ =>
    simp only [mTr] at ht
    split at ht
    · rename_i hz
      cases ht
      exact Or.inr (Or.inr ⟨rfl, rfl, hz⟩)
    · cases ht
  case newarray ty =>
    exfalso
    cases ty <;> simp only [mTr] at ht <;> first | (cases ht; simp at ho; done) | (cases ht; done)
  all_goals (exfalso; simp only [mTr, mCallV, mCallS, mCallI] at ht; repeat' (split at ht))
  all_goals first | (cases ht; simp at ho; done) | (obtain ⟨_, _, rfl⟩ := Option.map_eq_some_iff.mp ht; simp at ho; done) | (cases ht; done)
/-- a method's contract out of a run of the mini machine -/
def mMet (l : Launch) (D : va_G) (ca : Nat → ClassId) (base b Ls : Nat) (xs : Nat → Int32) (d k : Nat) (As : List Value) (h : mH) (Q : mP) : Prop := ∀ r : mR, mT[k]? = some r → Met l r.1 (mWs r) (mRm d r) (mPc D ca base b Ls xs As h) (mQc D ca base b Ls xs Q) r.2.2.2.2.2.2.2.1 r.2.2.2.2.2.2.2.2.1 (fun q => base ≤ q)
theorem mU_at {D : va_G} {ca : Nat → ClassId} {base b Ls : Nat} {xs : Nat → Int32} {s U : State} {H : Heap} {locs : List Loc} {h : mH} (hWo : mWo D ca base b s) (hXs : va_X b Ls xs s s.heap) (hbs : base ≤ s.heap.size) (hS : va_S (fun q => base ≤ q) s.heap H locs) (hR : mRep D ca base b Ls xs h H) (hU : U.heap = H) (hW : s.WarmedH U.vm) : mU D ca base b Ls xs h U := by
  have hb := hWo.2.2.2.2
  refine ⟨hWo.moved hW, ?_, by rw [hU]; exact hR⟩
  rw [hU]
  exact va_X.moved hW.alike (hXs.kept (hS.2.1 b (Nat.lt_of_lt_of_le hb hbs) (Nat.not_le.mpr hb)))
set_option maxHeartbeats 4000000 in
theorem mInr {D : va_G} {ca : Nat → ClassId} {base b Ls : Nat} {xs : Nat → Int32} {own : Nat} {ini : Bool} {bz : Nat} {bytes : ByteArray} {n bc bs d : Nat} {p : Program} {l : Launch} {e : Env} {R : Room} {s : State} {m : MethodId} {args : Array Value} {below : List Frame} {meth : Method} {c : Code} {Qf : State → Prop}
    (E : mEv D ca base b Ls xs own ini bytes n bc bs d p R s m args meth c) (hM : ∀ (k : Nat) (As : List Value) (h : mH) (Q : mP), k < 262 → mWP d k As h Q → ∃ d', d = d' + 1 ∧ mMet l D ca base b Ls xs d' k As h Q) {pc len : Nat} {i : Instr} {mi : mI} {L : mL} {st : List Value} {h : mH} {nc ns : Nat} {k : Nat} {As : List Value} {pc' : Nat} {L' : mL} {r : List Value} {nc' ns' : Nat}
    (hd : decode bytes pc = .ok (i, len)) (hlen : len = mLen len i) (ht : mTr own pc ini bz i = some mi) (hs : mSem (pc + len) mi.2.1 mi.2.2.1 mi.2.2.2.1 mi.2.2.2.2 L st h nc ns bc bs mi.1 = some (.inr (.inl (k, As, pc', L', r, nc', ns'))))
    (hX : mWP d k As h (fun v h' => mGo D ca base b Ls xs n p l e R s m args below meth c Qf (pc', L', v.toList ++ r, h', nc', ns'))) : mGo D ca base b Ls xs n p l e R s m args below meth c Qf (pc, L, st, h, nc, ns) := by
  obtain ⟨hx, hb, hml, hown, hts, hini, hWo, hXs, hbs, hRc, hRs, hRf, hRl⟩ := E
  have hK := hWo.1
  intro H locs ls hl hR hS
  have callV : ∀ (j kk : Nat), i = .invokevirtual j → mfM own j = some kk → mCallV kk = some mi → W p l e R s m args below meth c H locs nc ns Qf (F0 m pc ls (st.map (mv base b))) := by
    intro j kk hi hk hc
    subst hi
    obtain rfl : len = 3 := hlen
    unfold mCallV at hc
    split at hc
    · rename_i y by' n' ret' cls na kd mc ms tt hrow
      split at hc
      · rename_i hkd
        cases hc
        simp only [mSem] at hs
        split at hs
        · rename_i x r0 hdr
          split at hs
          · rename_i ci fs ex
            split at hs
            · rename_i hc
              obtain ⟨c1, c2, c3, c4⟩ := hc
              cases hs
              simp only [List.getD, List.getElem?_cons_zero, Option.getD_some] at c1
              subst c1
              have hk2 : k < 262 := by
                rcases (mfM_ok hk).2 with h9 | h9
                · exact h9
                · have := mT_lt hrow; omega
              obtain ⟨d', rfl, hmet⟩ := hM _ _ _ _ hk2 hX
              have hM2 := hmet _ hrow
              have hlk := (mfM_ok hk).1
              rw [mNm_row hrow] at hlk
              obtain ⟨⟨w1, w2, w3, w4⟩, ⟨s1, s2, s3, s4, s5, s6, s7, s8, s9⟩, -⟩ := mT_ok hk2 hrow
              obtain ⟨rfl, hna⟩ := hkd
              simp only [mBud, Bool.and_eq_true, decide_eq_true_eq] at c4
              obtain ⟨-, -, hat⟩ := hR.obj ex
              obtain ⟨q', hq', cell, g1, g2, g3, -⟩ := hat
              have hcn := mm_cm_cn hq' (mTa_no1 hk2 hrow rfl)
              refine mw_call (Q := fun v h' => mGo D ca base b Ls xs n p l e R s m args below meth c Qf (pc + 3, L, v.toList ++ r, h', nc + _, ns + _)) (va_runV (C := y.cls) (b := rho base b x) (As := ((st.take (na - 1)).reverse).map (mv base b)) (rest := r.map (mv base b)) ⟨hx, hb, hml, hown, hts⟩ hM2 ⟨mw_cb hts hk2 hrow hlk hRf hRl, hts _ w3, hts _ (w4 rfl)⟩ ⟨mPc_blind, ⟨cell, g1, by rw [g3]; rfl, ?_⟩, fun U hU hW => ⟨rfl, mU_at hWo hXs hbs hS hR hU hW⟩⟩ rfl ?_ hl.1 ?_ (lv_room (by rw [mCat_mv]; exact c3)) hd ⟨by rw [hRc]; exact c4.1, by rw [hRs]; exact c4.2⟩) hS (fun v h' H1 locs1 hq hrp hS1 => ?_)
              · rw [g2, s1, hcn]
                exact (hK.1 _ _ hq').2.1
              · rw [List.length_map, List.length_reverse, List.length_take]
                show min (na - 1) st.length = na - 1
                omega
              · show st.map (mv base b) = _
                rw [mw_stk base b st (na - 1), hdr]
                rfl
              · have h9 := hq H1 locs1 ls hl hrp hS1
                simp only [mw_ret] at h9
                exact h9
            · cases hs
          · cases hs
        · cases hs
      · cases hc
    · cases hc
  have callS : ∀ (j kk : Nat), i = .invokestatic j → ((mfM own j = some kk) ∨ (mfN own j = some kk)) → mCallS kk = some mi → W p l e R s m args below meth c H locs nc ns Qf (F0 m pc ls (st.map (mv base b))) := by
    intro j kk hi hk hc
    subst hi
    obtain rfl : len = 3 := hlen
    unfold mCallS at hc
    split at hc
    · rename_i y by' n' ret' cls na kd mc ms tt hrow
      split at hc
      · rename_i hkd
        cases hc
        simp only [mSem] at hs
        split at hs
        · rename_i hc
          obtain ⟨c2, c3, c4⟩ := hc
          cases hs
          have hk2 : k < 262 := by
            rcases hk with hk | hk
            · rcases (mfM_ok hk).2 with h9 | h9
              · exact h9
              · have := mT_lt hrow; omega
            · obtain ⟨y9, hy9⟩ := mfN_ok hk
              exact (mx_N_w _ hy9).2
          obtain ⟨d', rfl, hmet⟩ := hM _ _ _ _ hk2 hX
          have hM2 := hmet _ hrow
          obtain ⟨⟨w1, w2, w3, w4⟩, ⟨s1, s2, s3, s4, s5, s6, s7, s8, s9⟩, -⟩ := mT_ok hk2 hrow
          subst hkd
          simp only [mBud, Bool.and_eq_true, decide_eq_true_eq] at c4
          have hln : (((st.take na).reverse).map (mv base b)).length = na := by
            rw [List.length_map, List.length_reverse, List.length_take]
            omega
          have fin : ∀ (hr : va_Run p l e R s m args below meth c H locs nc ns mc ms (F0 m pc ls (st.map (mv base b))) ((st.drop na).map (mv base b)) (mQc D ca base b Ls xs (fun v h' => mGo D ca base b Ls xs n p l e R s m args below meth c Qf (pc + 3, L, v.toList ++ st.drop na, h', nc + mc, ns + ms)) (((st.take na).reverse).map (mv base b)).toArray) (fun q => base ≤ q)), W p l e R s m args below meth c H locs nc ns Qf (F0 m pc ls (st.map (mv base b))) := by
            intro hr
            refine mw_call hr hS (fun v h' H1 locs1 hq hrp hS1 => ?_)
            have h9 := hq H1 locs1 ls hl hrp hS1
            simp only [mw_ret] at h9
            exact h9
          rcases hk with hk | hk
          · have hlk := (mfM_ok hk).1
            rw [mNm_row hrow] at hlk
            exact fin (va_runS (As := ((st.take na).reverse).map (mv base b)) (rest := (st.drop na).map (mv base b)) ⟨hx, hb, hml, hown, hts⟩ hM2 ⟨mw_cb hts hk2 hrow hlk hRf hRl, hts _ w3⟩ ⟨mPc_blind, fun U hU hW => ⟨rfl, mU_at hWo hXs hbs hS hR hU hW⟩⟩ rfl hln hl.1 (mw_stk base b st na) (lv_room (by rw [mCat_mv]; exact c3)) hd ⟨by rw [hRc]; exact c4.1, by rw [hRs]; exact c4.2⟩)
          · obtain ⟨y9, hy9⟩ := mfN_ok hk
            exact fin (va_runSN (As := ((st.take na).reverse).map (mv base b)) (rest := (st.drop na).map (mv base b)) ⟨hx, hb, hml, hown, hts⟩ hM2 ⟨mw_cn hts hWo hk2 hrow hy9 hRf hRl, hts _ w3, trivial⟩ ⟨mPc_blind, fun U hU hW => ⟨rfl, mU_at hWo hXs hbs hS hR hU hW⟩⟩ rfl hln hl.1 (mw_stk base b st na) (lv_room (by rw [mCat_mv]; exact c3)) hd ⟨by rw [hRc]; exact c4.1, by rw [hRs]; exact c4.2⟩)
        · cases hs
      · cases hc
    · cases hc
  have callI : ∀ (j kk : Nat), i = .invokespecial j → ((mfM own j = some kk) ∨ (mfN own j = some kk)) → mCallI kk = some mi → W p l e R s m args below meth c H locs nc ns Qf (F0 m pc ls (st.map (mv base b))) := by
    intro j kk hi hk hc
    subst hi
    obtain rfl : len = 3 := hlen
    unfold mCallI at hc
    split at hc
    · rename_i y by' n' ret' cls na kd mc ms tt hrow
      split at hc
      · rename_i hkd
        cases hc
        simp only [mSem] at hs
        split at hs
        · rename_i x r0 hdr
          split at hs
          · rename_i hc
            obtain ⟨c2, c3, c4⟩ := hc
            cases hs
            have hk2 : k < 262 := by
              rcases hk with hk | hk
              · rcases (mfM_ok hk).2 with h9 | h9
                · exact h9
                · have := mT_lt hrow; omega
              · obtain ⟨y9, hy9⟩ := mfN_ok hk
                exact (mx_N_w _ hy9).2
            obtain ⟨d', rfl, hmet⟩ := hM _ _ _ _ hk2 hX
            have hM2 := hmet _ hrow
            obtain ⟨⟨w1, w2, w3, w4⟩, ⟨s1, s2, s3, s4, s5, s6, s7, s8, s9⟩, -⟩ := mT_ok hk2 hrow
            obtain ⟨rfl, hna⟩ := hkd
            obtain ⟨s6a, s6b⟩ := s6 rfl
            simp only [mBud, Bool.and_eq_true, decide_eq_true_eq] at c4
            have hln : (((st.take (na - 1)).reverse).map (mv base b)).length = na - 1 := by
              rw [List.length_map, List.length_reverse, List.length_take]
              omega
            have hstk : st.map (mv base b) = (((st.take (na - 1)).reverse).map (mv base b)).reverse ++ .ref (rho base b x) :: r.map (mv base b) := by
              rw [mw_stk base b st (na - 1), hdr]
              rfl
            have fin : ∀ (hr : va_Run p l e R s m args below meth c H locs nc ns mc ms (F0 m pc ls (st.map (mv base b))) (r.map (mv base b)) (mQc D ca base b Ls xs (fun v h' => mGo D ca base b Ls xs n p l e R s m args below meth c Qf (pc + 3, L, v.toList ++ r, h', nc + mc, ns + ms)) (Value.ref (rho base b x) :: ((st.take (na - 1)).reverse).map (mv base b)).toArray) (fun q => base ≤ q)), W p l e R s m args below meth c H locs nc ns Qf (F0 m pc ls (st.map (mv base b))) := by
              intro hr
              refine mw_call hr hS (fun v h' H1 locs1 hq hrp hS1 => ?_)
              have h9 := hq H1 locs1 ls hl hrp hS1
              simp only [mw_ret] at h9
              exact h9
            simp only at s6b
            subst s6b
            rcases hk with hk | hk
            · have hlk := (mfM_ok hk).1
              rw [mNm_row hrow] at hlk
              exact fin (va_runI (b := rho base b x) (As := ((st.take (na - 1)).reverse).map (mv base b)) (rest := r.map (mv base b)) ⟨hx, hb, hml, hown, hts⟩ hM2 ⟨mw_cb hts hk2 hrow hlk hRf hRl, s6a, hts _ w3⟩ ⟨mPc_blind, fun U hU hW => ⟨rfl, mU_at hWo hXs hbs hS hR hU hW⟩⟩ rfl hln hl.1 hstk (lv_room (by rw [mCat_mv]; exact c3)) hd ⟨by rw [hRc]; exact c4.1, by rw [hRs]; exact c4.2⟩)
            · obtain ⟨y9, hy9⟩ := mfN_ok hk
              exact fin (va_runIN (b := rho base b x) (As := ((st.take (na - 1)).reverse).map (mv base b)) (rest := r.map (mv base b)) ⟨hx, hb, hml, hown, hts⟩ hM2 ⟨mw_cn hts hWo hk2 hrow hy9 hRf hRl, s6a, hts _ w3⟩ ⟨mPc_blind, fun U hU hW => ⟨rfl, mU_at hWo hXs hbs hS hR hU hW⟩⟩ rfl hln hl.1 hstk (lv_room (by rw [mCat_mv]; exact c3)) hd ⟨by rw [hRc]; exact c4.1, by rw [hRs]; exact c4.2⟩)
          · cases hs
        · cases hs
      · cases hc
    · cases hc
  have h9 := mSem_call hs
  cases i
  case invokevirtual j =>
    simp only [mTr] at ht
    split at ht
    · exact callV _ _ rfl (by assumption) ht
    · cases ht
  case invokestatic j =>
    simp only [mTr] at ht
    split at ht
    · cases ht; simp at h9
    · cases ht; simp at h9
    · cases ht; simp at h9
    · exact callS _ _ rfl (Or.inl (by assumption)) ht
    · split at ht
      · exact callS _ _ rfl (Or.inr (by assumption)) ht
      · cases ht
  case invokespecial j =>
    simp only [mTr] at ht
    split at ht
    · cases ht; simp at h9
    · exact callI _ _ rfl (Or.inl (by assumption)) ht
    · split at ht
      · exact callI _ _ rfl (Or.inr (by assumption)) ht
      · cases ht
  case newarray ty =>
    exfalso
    cases ty <;> simp only [mTr] at ht <;> first | (cases ht; simp at h9; done) | (cases ht; done)
  all_goals (exfalso; clear callV callS callI; simp only [mTr] at ht; repeat' (split at ht))
  all_goals first | (cases ht; simp at h9; done) | (obtain ⟨_, _, rfl⟩ := Option.map_eq_some_iff.mp ht; simp at h9; done) | (cases ht; done)
end
section
/-! the mini machine is sound -/
theorem mAt_mem : ∀ {t : mK} {pc : Nat} {x : Nat × mI}, mAt t pc = some x → (pc, x) ∈ t
  | [], _, _, h => by simp [mAt] at h
  | e :: t, pc, x, h => by
    simp only [mAt] at h
    split at h
    · rename_i hb
      cases h
      have := Nat.eq_of_beq_eq_true hb
      subst this
      exact List.mem_cons_self
    · exact List.mem_cons_of_mem _ (mAt_mem h)
theorem mChI_ok {own : Nat} {ini : Bool} {bz : Nat} {bytes : ByteArray} {t : mK} (h : t.all (mChI own ini bz bytes) = true) {pc len : Nat} {mi : mI} (hm : mAt t pc = some (len, mi)) : ∃ i, decode bytes pc = .ok (i, len) ∧ len = mLen len i ∧ mTr own pc ini bz i = some mi := by
  have h1 := List.all_eq_true.mp h _ (mAt_mem hm)
  unfold mChI at h1
  split at h1
  · rename_i i n hd
    simp only [Bool.and_eq_true, beq_iff_eq, decide_eq_true_eq] at h1
    obtain ⟨⟨rfl, h3⟩, h4⟩ := h1
    exact ⟨i, hd, h3, h4⟩
  · cases h1
theorem mSoundW {D : va_G} {ca : Nat → ClassId} {base b Ls : Nat} {xs : Nat → Int32} {own : Nat} {ini : Bool} {bz : Nat} {bytes : ByteArray} {n bc bs d : Nat} {p : Program} {l : Launch} {e : Env} {R : Room} {s : State} {m : MethodId} {args : Array Value} {below : List Frame} {meth : Method} {c : Code} {Qf : State → Prop} {t : mK} {Q : mP}
    (E : mEv D ca base b Ls xs own ini bytes n bc bs d p R s m args meth c) (hC : t.all (mChI own ini bz bytes) = true) (hM : ∀ (k : Nat) (As : List Value) (h : mH) (Q : mP), k < 262 → mWP d k As h Q → ∃ d', d = d' + 1 ∧ mMet l D ca base b Ls xs d' k As h Q)
    (hret : ∀ (pc len : Nat) (i : Instr) (v : Option Value) (L : mL) (st : List Value) (h : mH) (nc ns : Nat), decode bytes pc = .ok (i, len) → len = mLen len i → mRtf bz i st v → nc ≤ bc → ns ≤ bs → Q v h → mGo D ca base b Ls xs n p l e R s m args below meth c Qf (pc, L, st, h, nc, ns))
    {z : mS} (hw : mWk (mWP d) t bc bs Q z) : mGo D ca base b Ls xs n p l e R s m args below meth c Qf z := by
  refine hw _ (fun z hz => ?_)
  obtain ⟨pc, L, st, h, nc, ns⟩ := z
  unfold mStep at hz
  split at hz
  · exact hz.elim
  · rename_i z' hn
    unfold mNext at hn
    split at hn
    · cases hn
    · rename_i len op a bb cc ts hat
      obtain ⟨i, hd, hlen, htr⟩ := mChI_ok hC hat
      exact mInl E hd hlen htr hn hz
  · rename_i k As pc' L' r nc' ns' hn
    unfold mNext at hn
    split at hn
    · cases hn
    · rename_i len op a bb cc ts hat
      obtain ⟨i, hd, hlen, htr⟩ := mChI_ok hC hat
      exact mInr E hM hd hlen htr hn hz
  · rename_i v hn
    unfold mNext at hn
    split at hn
    · cases hn
    · rename_i len op a bb cc ts hat
      obtain ⟨i, hd, hlen, htr⟩ := mChI_ok hC hat
      obtain ⟨h1, h2, h3⟩ := mSem_ret hn
      refine hret pc len i v L st h nc ns hd hlen ?_ h1 h2 hz
      rcases h3 with ⟨ho, x, hst, hv, hx⟩ | ⟨ho, x, hst, hv⟩ | ⟨ho, hst, hv⟩
      · rcases mTr_ret htr (Or.inl ho) with ⟨g1, g2, g3⟩ | ⟨g1, g2, g3⟩ | ⟨g1, g2, g3⟩
        · refine Or.inl ⟨g1, x, hst, hv, ?_⟩
          rcases g3 with ⟨g3, g4⟩ | ⟨g3, g4⟩
          · exact Or.inl g3
          · refine Or.inr ⟨g3, ?_⟩
            rcases hx with hx | hx
            · simp only at g4
              omega
            · exact hx
        · simp only at g2; omega
        · simp only at g2; omega
      · rcases mTr_ret htr (Or.inr (Or.inl ho)) with ⟨g1, g2, g3⟩ | ⟨g1, g2, g3⟩ | ⟨g1, g2, g3⟩
        · simp only at g2; omega
        · exact Or.inr (Or.inl ⟨g1, g3, x, hst, hv⟩)
        · simp only at g2; omega
      · rcases mTr_ret htr (Or.inr (Or.inr ho)) with ⟨g1, g2, g3⟩ | ⟨g1, g2, g3⟩ | ⟨g1, g2, g3⟩
        · simp only at g2; omega
        · simp only at g2; omega
        · exact Or.inr (Or.inr ⟨g1, g3, hst, hv⟩)
theorem mBz_int {o : Option FieldType} (h : mBz o = 0) : o = some .int := by
  match o, h with
  | some .int, _ => rfl
theorem mBz_bool {o : Option FieldType} (h : mBz o = 1) : o = some .boolean := by
  match o, h with
  | some .boolean, _ => rfl
theorem mBz_long {o : Option FieldType} (h : mBz o = 2) : o = some .long := by
  match o, h with
  | some .long, _ => rfl
theorem mBz_none {o : Option FieldType} (h : mBz o = 3) : o = none := by
  cases o with
  | none => rfl
  | some t => cases t <;> simp [mBz] at h
set_option maxHeartbeats 4000000 in
/-- THE MINI MACHINE IS SOUND -/
theorem mSound (l : Launch) (D : va_G) (ca : Nat → ClassId) (base b Ls : Nat) (xs : Nat → Int32) : ∀ (d k : Nat) (As : List Value) (h : mH) (Q : mP), k < 262 → mWP d k As h Q → ∃ d', d = d' + 1 ∧ mMet l D ca base b Ls xs d' k As h Q := by
  intro d
  induction d with
  | zero => intro k As h Q _ hw; exact hw.elim
  | succ d ih =>
    intro k As h Q hk hw
    refine ⟨d, rfl, fun r hr => ?_⟩
    obtain ⟨⟨w1, w2, w3, w4⟩, ⟨s1, s2, s3, s4, s5, s6, s7, s8, s9⟩, hC⟩ := mT_ok hk hr
    obtain ⟨y, bytes, n, ret, own, na, kd, mc, ms, t, pp⟩ := r
    unfold mWP at hw
    rw [hr] at hw
    obtain ⟨h1, h2, h3⟩ := hw
    refine Met.ofW (cc := bytes) (maxL := n) (ret := ret) s2 rfl ?_
    intro p e s m args below meth c s₁ B hml hv
    obtain ⟨rfl, hU⟩ := hv
    obtain ⟨hWo, hXs, hR⟩ := hU
    have hts := atoms_spec (ws := mWs (y, bytes, n, ret, own, na, kd, mc, ms, t, pp)) B.pre
    have hown : s.vm.findClass y.cls = some m.cls := findClass_of_methodNamed B.named
    have hlocks := B.notSynchronized
    have hr9 := B.returns
    have hnm := (name_of_methodNamed B.named B.method).1
    have E : mEv D ca base b Ls xs own (decide (kd = 2)) bytes n mc ms d p (headSpec (mWs (y, bytes, n, ret, own, na, kd, mc, ms, t, pp)) (mRm d (y, bytes, n, ret, own, na, kd, mc, ms, t, pp))).room s m ((As.map (mv base b)).toArray) meth c :=
      ⟨B.exec, B.bytes, hml, by rw [← s1]; exact hown, fun w hw => hts w (List.mem_cons_of_mem _ hw), fun hi => by rw [hnm]; exact (s6 (of_decide_eq_true hi)).1, hWo, hXs, by have := hR.1; have := hR.2.1; omega, rfl, rfl, Nat.le_refl _, Nat.le_refl _⟩
    rw [lg_entry_eq]
    refine mSoundW (Q := Q) (z := (0, mEnt n As, [], h, 0, 0)) E hC ih ?_ h3 s.heap [] _ (mLs_entry h2) hR va_S.rf
    intro pc len i v L st h' nc ns hd hlen hf hnc hns hq H locs ls hl hRp hS
    have fin : ∀ w, v.map (mv base b) = w → ∀ t : State, t.heap = H → s.WarmedH t.vm → mQc D ca base b Ls xs Q ((As.map (mv base b)).toArray) s (.returned w) t := fun w hw t ht hW => ⟨⟨v, h', by rw [hw], hq, by rw [ht]; exact hRp⟩, hS.F ht⟩
    refine W.widen (k := mc) (n := ms) hnc hns ?_
    rcases hf with ⟨rfl, x, rfl, rfl, hx⟩ | ⟨rfl, hz, x, rfl, rfl⟩ | ⟨rfl, hz, rfl, rfl⟩
    · obtain rfl : len = 1 := hlen
      rcases hx with hx | ⟨hx, hx2⟩
      · have hrt := mBz_int hx
        exact W.iret (v := x) B.exec B.bytes (hr9.trans hrt) (fin _ rfl) hS.2.2 hd
      · have hrt := mBz_bool hx
        exact W.zret (v := x) (ty := .boolean) B.exec B.bytes (hr9.trans hrt) (by rcases hx2 with rfl | rfl <;> rfl) (fin _ rfl) hS.2.2 hd
    · obtain rfl : len = 1 := hlen
      have hrt := mBz_long hz
      exact W.lret (v := x) B.exec B.bytes (hr9.trans hrt) (fin _ rfl) hS.2.2 hd
    · obtain rfl : len = 1 := hlen
      have hrt := mBz_none hz
      exact W.vret B.exec B.bytes (hr9.trans hrt) (fin _ rfl) hS.2.2 hd
end
section
-- ===== end of PART A; then your names; then what follows =====
/-! THE CLAIM OUT OF ONE WALK OF THE LAW'S BODY. Your part is whole_start (and what it stands on); all else here is the same for every law, but numbers. -/
def R_law : String := "CodeExchangeLaw"
def lw_P (b : Addr) (xs : List Int32) (args : Array Value) (s : State) : Prop := args = #[.ref b] ∧ s.IntsAt b xs ∧ xs.length ≤ 3072 ∧ (Jvm.Cond.and given_1 narrow_1).before args s = true
def lw_Q (_ : Array Value) (s : State) (o : Outcome) (t : State) : Prop := o = .returned (some (.int 1)) ∧ Framed s o t [] 600000 7302250
def lw_Z (below : List Frame) (a : Array Value) (s : State) : State → Prop := fun t => ∃ o, t.status = .running ∧ Ended t below o ∧ lw_Q a s o t
/-- the law's own end, with 1 on the stack, nothing written that was there before, its room as the claim has it -/
theorem lw_ret {p : Program} {l : Launch} {e : Env} {s : State} {m : MethodId} {below : List Frame} {meth : Method} {c : Code} {b : Nat} (hx : p.tables.exec = Jvm.exec) (hb : c.code = code) (hr : meth.sig.returnType = ret) (hlocks : meth.locks = false) {pc : Nat} {H : Heap} {ls : Array Slot} (hdg : decode code pc = .ok (.ireturn, 1)) : W p l e room_1 s m #[Value.ref b] below meth c H [] 600000 7302250 (lw_Z below #[Value.ref b] s) (F0 m pc ls [.int 1]) := by
  intro T hT X
  obtain ⟨fs, hret, hrun, hended, hW, hframe⟩ := X.leave (v := some (.int 1)) (hlocks := hlocks) (fun h => by rw [hr] at h; cases h)
  have hmeth' : T.vm.method? m = some meth := X.method'
  refine ⟨T.setFrames fs, ?_, .returned (some (.int 1)), hrun, hended, rfl, ⟨_, rfl⟩, hW, hframe⟩
  jvm_step X.here [X.here.top, hx, hb, hdg, hmeth', hr, ret, narrow_b1]
  (try refine ⟨rfl, ?_⟩); (try refine ⟨rfl, ?_⟩)
  first | (intro acts; rw [hret _ acts rfl rfl rfl]) | rw [hret _ _ rfl rfl rfl]
  exact Steps.refl _
/-- what holds at the law's entry: the machine, the code, the tables' words (any of lw_tbl by 'hts w (by decide +kernel)'), the script of L ints xs at the cell b, what the Statement gives of the start (any of its parts by flat_of_before) -/
def lw_At (p : Program) (s : State) (m : MethodId) (meth : Method) (c : Code) (b L : Nat) (xs : Nat → Int32) : Prop :=
  p.tables.exec = Jvm.exec ∧ c.code = code ∧ meth.sig.returnType = ret ∧ c.maxLocals = 4 ∧ s.vm.findClass R_law = some m.cls ∧ (∀ w ∈ lw_tbl, w.before #[Value.ref b] s = true) ∧ va_X b L xs s s.heap ∧ b < s.heap.size ∧ meth.locks = false ∧ (Jvm.Cond.and given_1 narrow_1).before #[Value.ref b] s = true
-- ===== the law's walk out of a run of the mini machine =====
def mHp0 (Ls : Nat) (xs : Nat → Int32) : mH := (1, fun k => if k = 0 then .inl (9, Ls, xs) else mJ)
/-- what is left to show: the law's code, run by the mini machine, comes to 1 -/
def mLaw : Prop := ∀ (Ls : Nat) (xs : Nat → Int32), Ls ≤ 3072 → mWk (mWP 80) tk_262 600000 7302250 (fun v _ => v = some (.int 1)) (0, [some (.ref 0), none, none, none], [], mHp0 Ls xs, 0, 0)
set_option maxHeartbeats 4000000 in
set_option maxRecDepth 100000 in
theorem whole_of (hLaw : mLaw) {p : Program} {e : Env} {s : State} {m : MethodId} {below : List Frame} {meth : Method} {c : Code} (l : Launch) {b L : Nat} {xs : Nat → Int32} (hL : L ≤ 3072) (C0 : lw_At p s m meth c b L xs) : W p l e room_1 s m #[Value.ref b] below meth c s.heap [] 0 0 (lw_Z below #[Value.ref b] s) (entryFrame m ([Value.ref b] : List Value).toArray 4) := by
  obtain ⟨hx, hb, hr, hml, hown, hts, hX, hbl, hlocks, hgv⟩ := C0
  obtain ⟨c0, iS0, hKn0⟩ := u_known (C := RX0) (T := TX0) (N := 6) (n := 6) hts (fun w hw => (List.mem_filter.mp (mm_tb (inX0 w hw) (mm_good hw))).1) (hts (.instantiable RX0 6) (ma_1 (List.mem_of_getElem? (i := 118) rfl)))
  obtain ⟨c2, iS2, hKn2⟩ := u_known (C := RX2) (T := TX2) (N := 5) (n := 5) hts (fun w hw => (List.mem_filter.mp (mm_tb (inX2 w hw) (mm_good hw))).1) (hts (.instantiable RX2 5) (ma_1 (List.mem_of_getElem? (i := 229) rfl)))
  obtain ⟨c3, iS3, hKn3⟩ := u_known (C := RX3) (T := TX3) (N := 12) (n := 12) hts (fun w hw => (List.mem_filter.mp (mm_tb (inX3 w hw) (mm_good hw))).1) (hts (.instantiable RX3 12) (ma_2 (List.mem_of_getElem? (i := 72) rfl)))
  obtain ⟨c4, iS4, hKn4⟩ := u_known (C := RX4) (T := TX4) (N := 10) (n := 10) hts (fun w hw => (List.mem_filter.mp (mm_tb (inX4 w hw) (mm_good hw))).1) (hts (.instantiable RX4 10) (ma_1 (List.mem_of_getElem? (i := 90) rfl)))
  obtain ⟨c5, iS5, hKn5⟩ := u_known (C := RX5) (T := TX5) (N := 7) (n := 7) hts (fun w hw => (List.mem_filter.mp (mm_tb (inX5 w hw) (mm_good hw))).1) (hts (.instantiable RX5 7) (ma_1 (List.mem_of_getElem? (i := 223) rfl)))
  obtain ⟨c6, iS6, hKn6⟩ := u_known (C := RX6) (T := TX6) (N := 4) (n := 4) hts (fun w hw => (List.mem_filter.mp (mm_tb (inX6 w hw) (mm_good hw))).1) (hts (.instantiable RX6 4) (ma_1 (List.mem_of_getElem? (i := 96) rfl)))
  obtain ⟨c7, iS7, hKn7⟩ := u_known (C := RX7) (T := TX7) (N := 2) (n := 2) hts (fun w hw => (List.mem_filter.mp (mm_tb (inX7 w hw) (mm_good hw))).1) (hts (.instantiable RX7 2) (ma_1 (List.mem_of_getElem? (i := 28) rfl)))
  obtain ⟨c8, iS8, hKn8⟩ := u_known (C := RX8) (T := TX8) (N := 7) (n := 7) hts (fun w hw => (List.mem_filter.mp (mm_tb (inX8 w hw) (mm_good hw))).1) (hts (.instantiable RX8 7) (ma_1 (List.mem_of_getElem? (i := 57) rfl)))
  obtain ⟨c9, iS9, hKn9⟩ := u_known (C := RX9) (T := TX9) (N := 5) (n := 5) hts (fun w hw => (List.mem_filter.mp (mm_tb (inX9 w hw) (mm_good hw))).1) (hts (.instantiable RX9 5) (ma_1 (List.mem_of_getElem? (i := 152) rfl)))
  obtain ⟨c10, iS10, hKn10⟩ := u_known (C := RX10) (T := TX10) (N := 6) (n := 6) hts (fun w hw => (List.mem_filter.mp (mm_tb (inX10 w hw) (mm_good hw))).1) (hts (.instantiable RX10 6) (ma_2 (List.mem_of_getElem? (i := 43) rfl)))
  obtain ⟨c11, iS11, hKn11⟩ := u_known (C := RX11) (T := TX11) (N := 17) (n := 17) hts (fun w hw => (List.mem_filter.mp (mm_tb (inX11 w hw) (mm_good hw))).1) (hts (.instantiable RX11 17) (ma_1 (List.mem_of_getElem? (i := 18) rfl)))
  obtain ⟨c12, iS12, hKn12⟩ := u_known (C := RX12) (T := TX12) (N := 69) (n := 69) hts (fun w hw => (List.mem_filter.mp (mm_tb (inX12 w hw) (mm_good hw))).1) (hts (.instantiable RX12 69) (ma_5 (List.mem_of_getElem? (i := 159) rfl)))
  obtain ⟨dC, dI, hKc⟩ : ∃ (dC : Nat → ClassId) (dI : Nat → Nat → Nat), ∀ (k : Nat) (q : vw_C), mm_cm[k]? = some q → u_Kn s q.1 q.2.1 q.2.2 (dC k) (dI k) := by
    refine ⟨fun k => if k = 1 then c0 else if k = 0 then c0 else if k = 2 then c2 else if k = 3 then c3 else if k = 4 then c4 else if k = 5 then c5 else if k = 6 then c6 else if k = 7 then c7 else if k = 8 then c8 else if k = 9 then c9 else if k = 10 then c10 else if k = 11 then c11 else c12, fun k => if k = 1 then iS0 else if k = 0 then iS0 else if k = 2 then iS2 else if k = 3 then iS3 else if k = 4 then iS4 else if k = 5 then iS5 else if k = 6 then iS6 else if k = 7 then iS7 else if k = 8 then iS8 else if k = 9 then iS9 else if k = 10 then iS10 else if k = 11 then iS11 else iS12, ?_⟩
    intro k q hq
    match k, hq with
    | 0, hq => cases hq; exact hKn0
    | 1, hq => cases hq; exact hKn0
    | 2, hq => cases hq; exact hKn2
    | 3, hq => cases hq; exact hKn3
    | 4, hq => cases hq; exact hKn4
    | 5, hq => cases hq; exact hKn5
    | 6, hq => cases hq; exact hKn6
    | 7, hq => cases hq; exact hKn7
    | 8, hq => cases hq; exact hKn8
    | 9, hq => cases hq; exact hKn9
    | 10, hq => cases hq; exact hKn10
    | 11, hq => cases hq; exact hKn11
    | 12, hq => cases hq; exact hKn12
    | k + 13, hq => simp [mm_cm] at hq
  have hAO4 : va_AO RX4 s := va_AO.of (hts _ (ma_1 (List.mem_of_getElem? (i := 26) rfl)))
  have hAO3 : va_AO RX3 s := va_AO.of (hts _ (ma_1 (List.mem_of_getElem? (i := 55) rfl)))
  obtain ⟨a0, k0, m0, i1, i2, i3⟩ := Cond.arrayClass_spec (hts _ (List.mem_filter.mp mw_arrI).1)
  obtain ⟨a1, k1, m1, z1, z2, z3⟩ := Cond.arrayClass_spec (hts _ (List.mem_filter.mp mw_arrZ).1)
  obtain ⟨m2, a2, k2, p1, p2, p3, p4, p5⟩ := Cond.arrayOver_spec hAO4
  obtain ⟨m3, a3, k3, q1, q2, q3, q4, q5⟩ := Cond.arrayOver_spec hAO3
  have hK : va_K (dC, dI) mm_cm (mTys (fun t => if t = 0 then a0 else if t = 1 then a1 else if t = 2 then a2 else a3)) s := by
    refine ⟨hKc, fun k q hq => ?_⟩
    match k, hq with
    | 0, hq => cases hq; exact ⟨fun n z => ⟨fun k h => (by cases h), k0, i2, m0, i3⟩, i1⟩
    | 1, hq => cases hq; exact ⟨fun n z => ⟨fun k h => (by cases h), k1, z2, m1, z3⟩, z1⟩
    | 2, hq => cases hq; exact ⟨fun n z => ⟨fun k h => (by cases h), k2, p3, m2, p4⟩, k2, m2, p3, p4, p1, p5⟩
    | 3, hq => cases hq; exact ⟨fun n z => ⟨fun k h => (by cases h), k3, q3, m3, q4⟩, k3, m3, q3, q4, q1, q5⟩
    | k + 4, hq => simp [mTys] at hq
  have hWo : mWo (dC, dI) (fun t => if t = 0 then a0 else if t = 1 then a1 else if t = 2 then a2 else a3) s.heap.size b s := ⟨hK, fun q hq => va_Nw.of rfl (hts _ (mx_N_w q hq).1), hAO4, hAO3, hbl⟩
  have E : mEv (dC, dI) (fun t => if t = 0 then a0 else if t = 1 then a1 else if t = 2 then a2 else a3) s.heap.size b L xs 13 false code 4 600000 7302250 80 p room_1 s m #[Value.ref b] meth c :=
    ⟨hx, hb, hml, hown, fun w hw => hts w (List.mem_filter.mp hw).1, fun h => (by cases h), hWo, hX, Nat.le_refl _, rfl, rfl, by decide, by decide⟩
  have hR : mRep (dC, dI) (fun t => if t = 0 then a0 else if t = 1 then a1 else if t = 2 then a2 else a3) s.heap.size b L xs (mHp0 L xs) s.heap := by
    refine ⟨Nat.le_refl 1, rfl, rfl, fun k hk => ?_, fun k h1 h2 => ?_⟩
    · simp only [mHp0] at hk ⊢
      rw [if_neg (by omega)]
    · simp only [mHp0] at h2
      omega
  have hl := mLs_entry (base := s.heap.size) (b := b) (n := 4) (As := [.ref 0]) (by decide)
  rw [lg_entry_eq]
  refine mSoundW (Q := fun v _ => v = some (.int 1)) (z := (0, [some (.ref 0), none, none, none], [], mHp0 L xs, 0, 0)) E ck_262 (mSound l _ _ _ _ _ _ 80) ?_ (hLaw L xs hL) s.heap [] _ hl hR va_S.rf
  intro pc len i v L9 st h' nc ns hd hlen hf hnc hns hq H locs ls hl hRp hS
  subst hq
  refine va_forget (fun q hq => hS.2.2 q hq) ?_
  refine W.widen (k := 600000) (n := 7302250) hnc hns ?_
  rcases hf with ⟨rfl, x, rfl, hv, -⟩ | ⟨-, h9, -⟩ | ⟨-, h9, -⟩
  · cases hv
    obtain rfl : len = 1 := hlen
    exact lw_ret hx hb hr hlocks hd
  · cases h9
  · cases h9
end
section
/-! rules of the mini machine, one an instruction -/
def mZ (d : Nat) (t : mK) (bc bs : Nat) (Q : mP) (pc : Nat) (L : mL) (st : List Value) (h : mH) (nc ns : Nat) : Prop := mWk (mWP d) t bc bs Q (pc, L, st, h, nc, ns)
section ZR
variable {d : Nat} {t : mK} {bc bs : Nat} {Q : mP} {pc len b c : Nat} {a : Int} {ts : List Nat} {L L' : mL} {st st' r : List Value} {h h' : mH} {nc ns nc' ns' pc' : Nat}
theorem z_go {op : Nat} (hi : mAt t pc = some (len, op, a, b, c, ts)) (hs : mSem (pc + len) a b c ts L st h nc ns bc bs op = some (.inl (pc', L', st', h', nc', ns'))) (k : mZ d t bc bs Q pc' L' st' h' nc' ns') : mZ d t bc bs Q pc L st h nc ns := by
  refine mWk_step (mWP_mono d) ?_
  unfold mStep mNext
  simp only [hi, hs]
  exact k
theorem z_push (pc' : Nat) (v : Int32) (hi : mAt t pc = some (len, 0, a, b, c, ts)) (hp : pc + len = pc') (hv : Int32.ofInt a = v) (k : mZ d t bc bs Q pc' L (.int v :: st) h nc ns) : mZ d t bc bs Q pc L st h nc ns := by
  subst hp hv
  exact z_go hi rfl k
theorem z_pushl (pc' : Nat) (v : Int64) (hi : mAt t pc = some (len, 1, a, b, c, ts)) (hp : pc + len = pc') (hv : Int64.ofInt a = v) (k : mZ d t bc bs Q pc' L (.long v :: st) h nc ns) : mZ d t bc bs Q pc L st h nc ns := by
  subst hp hv
  exact z_go hi rfl k
theorem z_iload {x : Int32} (pc' : Nat) (hi : mAt t pc = some (len, 2, a, b, c, ts)) (hp : pc + len = pc') (hl : L[b]? = some (some (.int x))) (k : mZ d t bc bs Q pc' L (.int x :: st) h nc ns) : mZ d t bc bs Q pc L st h nc ns := by
  subst hp
  exact z_go hi (by simp only [mSem, hl]) k
theorem z_aload {x : Nat} (pc' : Nat) (hi : mAt t pc = some (len, 3, a, b, c, ts)) (hp : pc + len = pc') (hl : L[b]? = some (some (.ref x))) (k : mZ d t bc bs Q pc' L (.ref x :: st) h nc ns) : mZ d t bc bs Q pc L st h nc ns := by
  subst hp
  exact z_go hi (by simp only [mSem, hl]) k
theorem z_lload {x : Int64} (pc' : Nat) (hi : mAt t pc = some (len, 4, a, b, c, ts)) (hp : pc + len = pc') (hl : L[b]? = some (some (.long x))) (k : mZ d t bc bs Q pc' L (.long x :: st) h nc ns) : mZ d t bc bs Q pc L st h nc ns := by
  subst hp
  exact z_go hi (by simp only [mSem, hl]) k
theorem z_istore {x : Int32} (pc' : Nat) (hi : mAt t pc = some (len, 5, a, b, c, ts)) (hp : pc + len = pc') (hb : Nat.blt b L.length = true) (hf : mFree L b = true) (k : mZ d t bc bs Q pc' (L.set b (some (.int x))) st h nc ns) : mZ d t bc bs Q pc L (.int x :: st) h nc ns := by
  subst hp
  exact z_go hi (by simp only [mSem]; rw [if_pos ⟨Nat.blt_eq.mp hb, hf⟩]) k
theorem z_astore {x : Nat} (pc' : Nat) (hi : mAt t pc = some (len, 6, a, b, c, ts)) (hp : pc + len = pc') (hb : Nat.blt b L.length = true) (hf : mFree L b = true) (k : mZ d t bc bs Q pc' (L.set b (some (.ref x))) st h nc ns) : mZ d t bc bs Q pc L (.ref x :: st) h nc ns := by
  subst hp
  exact z_go hi (by simp only [mSem]; rw [if_pos ⟨Nat.blt_eq.mp hb, hf⟩]) k
theorem z_lstore {x : Int64} (pc' : Nat) (hi : mAt t pc = some (len, 7, a, b, c, ts)) (hp : pc + len = pc') (hb : Nat.blt (b + 1) L.length = true) (hf : mFree L b = true) (k : mZ d t bc bs Q pc' ((L.set b (some (.long x))).set (b + 1) none) st h nc ns) : mZ d t bc bs Q pc L (.long x :: st) h nc ns := by
  subst hp
  exact z_go hi (by simp only [mSem]; rw [if_pos ⟨Nat.blt_eq.mp hb, hf⟩]) k
theorem z_iinc {x : Int32} (pc' : Nat) (v : Int32) (hi : mAt t pc = some (len, 8, a, b, c, ts)) (hp : pc + len = pc') (hl : L[b]? = some (some (.int x))) (hf : mFree L b = true) (hv : x + Int32.ofInt a = v) (k : mZ d t bc bs Q pc' (L.set b (some (.int v))) st h nc ns) : mZ d t bc bs Q pc L st h nc ns := by
  subst hp hv
  exact z_go hi (by simp only [mSem, hl]; rw [if_pos hf]) k
theorem z_bop {x y : Int32} (pc' : Nat) (v : Int32) (hi : mAt t pc = some (len, 9, a, b, c, ts)) (hp : pc + len = pc') (hv : mBop c x y = v) (k : mZ d t bc bs Q pc' L (.int v :: st) h nc ns) : mZ d t bc bs Q pc L (.int y :: .int x :: st) h nc ns := by
  subst hp hv
  exact z_go hi (by simp only [mSem]) k
theorem z_idiv {x y : Int32} (pc' : Nat) (v : Int32) (hi : mAt t pc = some (len, 10, a, b, c, ts)) (hp : pc + len = pc') (hy : ¬ y = 0) (hv : x / y = v) (k : mZ d t bc bs Q pc' L (.int v :: st) h nc ns) : mZ d t bc bs Q pc L (.int y :: .int x :: st) h nc ns := by
  subst hp hv
  exact z_go hi (by simp only [mSem]; rw [if_neg hy]) k
theorem z_irem {x y : Int32} (pc' : Nat) (v : Int32) (hi : mAt t pc = some (len, 11, a, b, c, ts)) (hp : pc + len = pc') (hy : ¬ y = 0) (hv : x - x / y * y = v) (k : mZ d t bc bs Q pc' L (.int v :: st) h nc ns) : mZ d t bc bs Q pc L (.int y :: .int x :: st) h nc ns := by
  subst hp hv
  exact z_go hi (by simp only [mSem]; rw [if_neg hy]) k
theorem z_lop {x y : Int64} (pc' : Nat) (v : Int64) (hi : mAt t pc = some (len, 12, a, b, c, ts)) (hp : pc + len = pc') (hv : mLop c x y = v) (k : mZ d t bc bs Q pc' L (.long v :: st) h nc ns) : mZ d t bc bs Q pc L (.long y :: .long x :: st) h nc ns := by
  subst hp hv
  exact z_go hi (by simp only [mSem]) k
theorem z_lrem {x y : Int64} (pc' : Nat) (v : Int64) (hi : mAt t pc = some (len, 13, a, b, c, ts)) (hp : pc + len = pc') (hy : ¬ y = 0) (hv : x - x / y * y = v) (k : mZ d t bc bs Q pc' L (.long v :: st) h nc ns) : mZ d t bc bs Q pc L (.long y :: .long x :: st) h nc ns := by
  subst hp hv
  exact z_go hi (by simp only [mSem]; rw [if_neg hy]) k
theorem z_lsh {x : Int64} {y : Int32} (pc' : Nat) (v : Int64) (hi : mAt t pc = some (len, 14, a, b, c, ts)) (hp : pc + len = pc') (hv : mLsh c x y = v) (k : mZ d t bc bs Q pc' L (.long v :: st) h nc ns) : mZ d t bc bs Q pc L (.int y :: .long x :: st) h nc ns := by
  subst hp hv
  exact z_go hi (by simp only [mSem]) k
theorem z_i2l {x : Int32} (pc' : Nat) (hi : mAt t pc = some (len, 15, a, b, c, ts)) (hp : pc + len = pc') (k : mZ d t bc bs Q pc' L (.long x.toInt64 :: st) h nc ns) : mZ d t bc bs Q pc L (.int x :: st) h nc ns := by
  subst hp
  exact z_go hi (by simp only [mSem]) k
theorem z_l2i {x : Int64} (pc' : Nat) (hi : mAt t pc = some (len, 16, a, b, c, ts)) (hp : pc + len = pc') (k : mZ d t bc bs Q pc' L (.int x.toInt32 :: st) h nc ns) : mZ d t bc bs Q pc L (.long x :: st) h nc ns := by
  subst hp
  exact z_go hi (by simp only [mSem]) k
theorem z_dupi {x : Int32} (pc' : Nat) (hi : mAt t pc = some (len, 17, a, b, c, ts)) (hp : pc + len = pc') (k : mZ d t bc bs Q pc' L (.int x :: .int x :: st) h nc ns) : mZ d t bc bs Q pc L (.int x :: st) h nc ns := by
  subst hp
  exact z_go hi (by simp only [mSem]) k
theorem z_dup {x : Nat} (pc' : Nat) (hi : mAt t pc = some (len, 17, a, b, c, ts)) (hp : pc + len = pc') (k : mZ d t bc bs Q pc' L (.ref x :: .ref x :: st) h nc ns) : mZ d t bc bs Q pc L (.ref x :: st) h nc ns := by
  subst hp
  exact z_go hi (by simp only [mSem]) k
theorem z_pop {x : Int32} (pc' : Nat) (hi : mAt t pc = some (len, 18, a, b, c, ts)) (hp : pc + len = pc') (k : mZ d t bc bs Q pc' L st h nc ns) : mZ d t bc bs Q pc L (.int x :: st) h nc ns := by
  subst hp
  exact z_go hi (by simp only [mSem]) k
theorem z_dup2 {x : Int32} {y : Nat} (pc' : Nat) (hi : mAt t pc = some (len, 19, a, b, c, ts)) (hp : pc + len = pc') (k : mZ d t bc bs Q pc' L (.int x :: .ref y :: .int x :: .ref y :: st) h nc ns) : mZ d t bc bs Q pc L (.int x :: .ref y :: st) h nc ns := by
  subst hp
  exact z_go hi (by simp only [mSem]) k
theorem z_if {x : Int32} (pc' : Nat) (hi : mAt t pc = some (len, 20, a, b, c, ts)) (hp : pc + len = pc') (kt : mCnd c x 0 = true → mZ d t bc bs Q b L st h nc ns) (kf : mCnd c x 0 = false → mZ d t bc bs Q pc' L st h nc ns) : mZ d t bc bs Q pc L (.int x :: st) h nc ns := by
  subst hp
  cases hc : mCnd c x 0 with
  | true => exact z_go hi (by simp only [mSem]; rw [if_pos hc]) (kt hc)
  | false => exact z_go hi (by simp only [mSem]; rw [if_neg (by rw [hc]; decide)]) (kf hc)
theorem z_icmp {x y : Int32} (pc' : Nat) (hi : mAt t pc = some (len, 21, a, b, c, ts)) (hp : pc + len = pc') (kt : mCnd c x y = true → mZ d t bc bs Q b L st h nc ns) (kf : mCnd c x y = false → mZ d t bc bs Q pc' L st h nc ns) : mZ d t bc bs Q pc L (.int y :: .int x :: st) h nc ns := by
  subst hp
  cases hc : mCnd c x y with
  | true => exact z_go hi (by simp only [mSem]; rw [if_pos hc]) (kt hc)
  | false => exact z_go hi (by simp only [mSem]; rw [if_neg (by rw [hc]; decide)]) (kf hc)
theorem z_goto (hi : mAt t pc = some (len, 22, a, b, c, ts)) (k : mZ d t bc bs Q b L st h nc ns) : mZ d t bc bs Q pc L st h nc ns := z_go hi rfl k
theorem z_nn {x : Nat} (hi : mAt t pc = some (len, 23, a, b, c, ts)) (k : mZ d t bc bs Q b L st h nc ns) : mZ d t bc bs Q pc L (.ref x :: st) h nc ns := z_go hi (by simp only [mSem]) k
theorem z_nnN (pc' : Nat) (hi : mAt t pc = some (len, 23, a, b, c, ts)) (hp : pc + len = pc') (k : mZ d t bc bs Q pc' L st h nc ns) : mZ d t bc bs Q pc L (.null :: st) h nc ns := by
  subst hp
  exact z_go hi (by simp only [mSem]) k
theorem z_lcmp {x y : Int64} (pc' : Nat) (hi : mAt t pc = some (len, 24, a, b, c, ts)) (hp : pc + len = pc') (k : mZ d t bc bs Q pc' L (.int (lg_cmp x y) :: st) h nc ns) : mZ d t bc bs Q pc L (.long y :: .long x :: st) h nc ns := by
  subst hp
  exact z_go hi (by simp only [mSem]) k
theorem z_null (pc' : Nat) (hi : mAt t pc = some (len, 25, a, b, c, ts)) (hp : pc + len = pc') (k : mZ d t bc bs Q pc' L (.null :: st) h nc ns) : mZ d t bc bs Q pc L st h nc ns := by
  subst hp
  exact z_go hi rfl k
theorem z_swIn {x : Int32} (pc' : Nat) (hi : mAt t pc = some (len, 26, a, b, c, ts)) (j : Nat) (hx : x.toInt = a + (j : Int)) (hj : ts[j]? = some pc') (k : mZ d t bc bs Q pc' L st h nc ns) : mZ d t bc bs Q pc L (.int x :: st) h nc ns := by
  have h1 : j < ts.length := (List.getElem?_eq_some_iff.mp hj).1
  refine z_go (pc' := pc') (L' := L) (st' := st) (h' := h) (nc' := nc) (ns' := ns) hi ?_ k
  simp only [mSem]
  rw [if_neg (by omega), show (x.toInt - a).toNat = j by omega, List.getD_eq_getElem?_getD, hj]
  rfl
theorem z_swOut {x : Int32} (hi : mAt t pc = some (len, 26, a, b, c, ts)) (hx : x.toInt < a ∨ a + (ts.length : Int) ≤ x.toInt) (k : mZ d t bc bs Q b L st h nc ns) : mZ d t bc bs Q pc L (.int x :: st) h nc ns := by
  refine z_go (pc' := b) (L' := L) (st' := st) (h' := h) (nc' := nc) (ns' := ns) hi ?_ k
  simp only [mSem]
  rw [if_pos hx]
theorem z_get {x : Nat} {fs : List Value} {v : Value} (pc' : Nat) (hi : mAt t pc = some (len, 30, a, b, c, ts)) (hp : pc + len = pc') (hx : h.2 x = .inr (.inr (b, fs))) (hv : fs[c]? = some v) (k : mZ d t bc bs Q pc' L (v :: st) h nc ns) : mZ d t bc bs Q pc L (.ref x :: st) h nc ns := by
  subst hp
  exact z_go hi (by simp only [mSem, hx, hv, if_true]) k
theorem z_put {x : Nat} {fs : List Value} {v : Value} (pc' : Nat) (hi : mAt t pc = some (len, 31, a, b, c, ts)) (hp : pc + len = pc') (hx : h.2 x = .inr (.inr (b, fs))) (hl : Nat.blt c fs.length = true) (hf : mFit b c v = true) (k : mZ d t bc bs Q pc' L st (mSet h x (.inr (.inr (b, fs.set c v)))) nc ns) : mZ d t bc bs Q pc L (v :: .ref x :: st) h nc ns := by
  subst hp
  exact z_go hi (by simp only [mSem, hx]; rw [if_pos ⟨trivial, Nat.blt_eq.mp hl, hf⟩]) k
theorem z_ald {x n : Nat} {f : Nat → Int32} {i : Int32} {j : Nat} (pc' : Nat) (hi : mAt t pc = some (len, 33, a, b, c, ts)) (hp : pc + len = pc') (hx : h.2 x = .inl (0, n, f)) (hij : i = nI j) (hj : j < n) (hn : n < 2 ^ 31) (k : mZ d t bc bs Q pc' L (.int (f j) :: st) h nc ns) : mZ d t bc bs Q pc L (.int i :: .ref x :: st) h nc ns := by
  subst hp hij
  have h1 : (nI j).toNatClampNeg = j := nI_clamp (Nat.lt_trans hj hn)
  refine z_go hi (by simp only [mSem, hx]; rw [if_pos ⟨Or.inl trivial, nI_in hj hn⟩, h1]) k
theorem z_sld {x n : Nat} {f : Nat → Int32} {i : Int32} {j : Nat} (pc' : Nat) (hi : mAt t pc = some (len, 33, a, b, c, ts)) (hp : pc + len = pc') (hx : h.2 x = .inl (9, n, f)) (hij : i = nI j) (hj : j < n) (hn : n < 2 ^ 31) (k : mZ d t bc bs Q pc' L (.int (f j) :: st) h nc ns) : mZ d t bc bs Q pc L (.int i :: .ref x :: st) h nc ns := by
  subst hp hij
  have h1 : (nI j).toNatClampNeg = j := nI_clamp (Nat.lt_trans hj hn)
  refine z_go hi (by simp only [mSem, hx]; rw [if_pos ⟨Or.inr trivial, nI_in hj hn⟩, h1]) k
theorem z_bld {x n : Nat} {f : Nat → Int32} {i : Int32} {j : Nat} (pc' : Nat) (hi : mAt t pc = some (len, 34, a, b, c, ts)) (hp : pc + len = pc') (hx : h.2 x = .inl (1, n, f)) (hij : i = nI j) (hj : j < n) (hn : n < 2 ^ 31) (k : mZ d t bc bs Q pc' L (.int (f j) :: st) h nc ns) : mZ d t bc bs Q pc L (.int i :: .ref x :: st) h nc ns := by
  subst hp hij
  have h1 : (nI j).toNatClampNeg = j := nI_clamp (Nat.lt_trans hj hn)
  refine z_go hi (by simp only [mSem, hx]; rw [if_pos ⟨trivial, nI_in hj hn⟩, h1]) k
theorem z_qld {x n g : Nat} {f : Nat → Option Nat} {i : Int32} {j y : Nat} (pc' : Nat) (hi : mAt t pc = some (len, 35, a, b, c, ts)) (hp : pc + len = pc') (hx : h.2 x = .inr (.inl (g, n, f))) (hg : g = 2 ∨ g = 3) (hij : i = nI j) (hj : j < n) (hn : n < 2 ^ 31) (hf : f j = some y) (k : mZ d t bc bs Q pc' L (.ref y :: st) h nc ns) : mZ d t bc bs Q pc L (.int i :: .ref x :: st) h nc ns := by
  subst hp hij
  have h1 : (nI j).toNatClampNeg = j := nI_clamp (Nat.lt_trans hj hn)
  refine z_go hi (by simp only [mSem, hx]; rw [if_pos ⟨hg, nI_in hj hn⟩, h1, hf]; rfl) k
theorem z_ast {x n : Nat} {f : Nat → Int32} {i v : Int32} {j : Nat} (pc' : Nat) (hi : mAt t pc = some (len, 36, a, b, c, ts)) (hp : pc + len = pc') (hx : h.2 x = .inl (0, n, f)) (hij : i = nI j) (hj : j < n) (hn : n < 2 ^ 31) (k : mZ d t bc bs Q pc' L st (mSet h x (.inl (0, n, upd f j v))) nc ns) : mZ d t bc bs Q pc L (.int v :: .int i :: .ref x :: st) h nc ns := by
  subst hp hij
  have h1 : (nI j).toNatClampNeg = j := nI_clamp (Nat.lt_trans hj hn)
  refine z_go hi (by simp only [mSem, hx]; rw [if_pos ⟨trivial, nI_in hj hn⟩, h1]) k
theorem z_bst {x n : Nat} {f : Nat → Int32} {i v : Int32} {j : Nat} (pc' : Nat) (hi : mAt t pc = some (len, 37, a, b, c, ts)) (hp : pc + len = pc') (hx : h.2 x = .inl (1, n, f)) (hij : i = nI j) (hj : j < n) (hn : n < 2 ^ 31) (hv : v = 0 ∨ v = 1) (k : mZ d t bc bs Q pc' L st (mSet h x (.inl (1, n, upd f j v))) nc ns) : mZ d t bc bs Q pc L (.int v :: .int i :: .ref x :: st) h nc ns := by
  subst hp hij
  have h1 : (nI j).toNatClampNeg = j := nI_clamp (Nat.lt_trans hj hn)
  refine z_go hi (by simp only [mSem, hx]; rw [if_pos ⟨trivial, nI_in hj hn, hv⟩, h1]) k
theorem z_qst {x n g ci y : Nat} {fs : List Value} {f : Nat → Option Nat} {i : Int32} {j : Nat} (pc' : Nat) (hi : mAt t pc = some (len, 38, a, b, c, ts)) (hp : pc + len = pc') (hx : h.2 x = .inr (.inl (g, n, f))) (hy : h.2 y = .inr (.inr (ci, fs))) (hg : (g = 2 ∧ ci = 4) ∨ (g = 3 ∧ ci = 3)) (hij : i = nI j) (hj : j < n) (hn : n < 2 ^ 31) (k : mZ d t bc bs Q pc' L st (mSet h x (.inr (.inl (g, n, va_up f j (some y))))) nc ns) : mZ d t bc bs Q pc L (.ref y :: .int i :: .ref x :: st) h nc ns := by
  subst hp hij
  have h1 : (nI j).toNatClampNeg = j := nI_clamp (Nat.lt_trans hj hn)
  refine z_go hi (by simp only [mSem, hx, hy]; rw [if_pos ⟨hg, nI_in hj hn⟩, h1]) k
theorem z_alen {x n g : Nat} {f : Nat → Int32} (pc' : Nat) (hi : mAt t pc = some (len, 39, a, b, c, ts)) (hp : pc + len = pc') (hx : h.2 x = .inl (g, n, f)) (hg : g = 0 ∨ g = 1 ∨ g = 9) (k : mZ d t bc bs Q pc' L (.int (nI n) :: st) h nc ns) : mZ d t bc bs Q pc L (.ref x :: st) h nc ns := by
  subst hp
  exact z_go hi (by simp only [mSem, hx]; rw [if_pos hg]; rfl) k
theorem z_newa {n : Int32} {j : Nat} (pc' : Nat) (hi : mAt t pc = some (len, 40, a, b, c, ts)) (hp : pc + len = pc') (hij : n = nI j) (hj : j ≤ 100000) (hc : nc + 1 ≤ bc) (hs : ns + j ≤ bs) (k : mZ d t bc bs Q pc' L (.ref h.1 :: st) (mNew h (.inl (c, j, fun _ => 0))) (nc + 1) (ns + j)) : mZ d t bc bs Q pc L (.int n :: st) h nc ns := by
  subst hp hij
  have h1 : (nI j).toNatClampNeg = j := nI_clamp (by omega)
  refine z_go hi (by simp only [mSem, h1]; rw [if_pos ⟨nI_pos (by omega), hj, hc, hs⟩]) k
theorem z_newq {n : Int32} {j : Nat} (pc' : Nat) (hi : mAt t pc = some (len, 41, a, b, c, ts)) (hp : pc + len = pc') (hij : n = nI j) (hj : j ≤ 100000) (hc : nc + 1 ≤ bc) (hs : ns + j ≤ bs) (k : mZ d t bc bs Q pc' L (.ref h.1 :: st) (mNew h (.inr (.inl (c, j, fun _ => none)))) (nc + 1) (ns + j)) : mZ d t bc bs Q pc L (.int n :: st) h nc ns := by
  subst hp hij
  have h1 : (nI j).toNatClampNeg = j := nI_clamp (by omega)
  refine z_go hi (by simp only [mSem, h1]; rw [if_pos ⟨nI_pos (by omega), hj, hc, hs⟩]) k
theorem z_new (pc' : Nat) (hi : mAt t pc = some (len, 42, a, b, c, ts)) (hp : pc + len = pc') (hc : nc + 1 ≤ bc) (hs : ns + c ≤ bs) (k : mZ d t bc bs Q pc' L (.ref h.1 :: st) (mNew h (.inr (.inr (b, mDf b c)))) (nc + 1) (ns + c)) : mZ d t bc bs Q pc L st h nc ns := by
  subst hp
  exact z_go hi (by simp only [mSem]; rw [if_pos ⟨hc, hs⟩]) k
theorem z_call {op k : Nat} {As : List Value} (hi : mAt t pc = some (len, op, a, b, c, ts)) (hs : mSem (pc + len) a b c ts L st h nc ns bc bs op = some (.inr (.inl (k, As, pc', L', r, nc', ns')))) (kk : mWP d k As h (fun v h' => mZ d t bc bs Q pc' L' (v.toList ++ r) h' nc' ns')) : mZ d t bc bs Q pc L st h nc ns := by
  refine mWk_step (mWP_mono d) ?_
  unfold mStep mNext
  simp only [hi, hs]
  exact kk
theorem z_cv {x : Nat} {fs : List Value} {ci mc ms : Nat} (pc' : Nat) (As : List Value) (hi : mAt t pc = some (len, 50, a, b, c, [ci, mc, ms])) (hp : pc + len = pc') (ha : (st.take c).reverse = As) (hd : st.drop c = .ref x :: r) (hx : h.2 x = .inr (.inr (ci, fs))) (hl : Nat.ble c st.length = true) (hr : Nat.ble (mCat r) 8 = true) (hc : nc + mc ≤ bc) (hs : ns + ms ≤ bs) (kk : mWP d b (.ref x :: As) h (fun v h' => mZ d t bc bs Q pc' L (v.toList ++ r) h' (nc + mc) (ns + ms))) : mZ d t bc bs Q pc L st h nc ns := by
  subst hp ha
  refine z_call hi ?_ kk
  simp only [mSem, hd, hx]
  rw [if_pos ⟨rfl, Nat.ble_eq.mp hl, Nat.ble_eq.mp hr, by simp only [mBud, List.getD, List.getElem?_cons_succ, List.getElem?_cons_zero, Option.getD_some, Bool.and_eq_true]; exact ⟨decide_eq_true hc, decide_eq_true hs⟩⟩]
  rfl
theorem z_cs {ci mc ms : Nat} (pc' : Nat) (As : List Value) (hi : mAt t pc = some (len, 51, a, b, c, [ci, mc, ms])) (hp : pc + len = pc') (ha : (st.take c).reverse = As) (hd : st.drop c = r) (hl : Nat.ble c st.length = true) (hr : Nat.ble (mCat r) 8 = true) (hc : nc + mc ≤ bc) (hs : ns + ms ≤ bs) (kk : mWP d b As h (fun v h' => mZ d t bc bs Q pc' L (v.toList ++ r) h' (nc + mc) (ns + ms))) : mZ d t bc bs Q pc L st h nc ns := by
  subst hp ha hd
  refine z_call hi ?_ kk
  simp only [mSem]
  rw [if_pos ⟨Nat.ble_eq.mp hl, Nat.ble_eq.mp hr, by simp only [mBud, List.getD, List.getElem?_cons_succ, List.getElem?_cons_zero, Option.getD_some, Bool.and_eq_true]; exact ⟨decide_eq_true hc, decide_eq_true hs⟩⟩]
  rfl
theorem z_ci {x : Nat} {ci mc ms : Nat} (pc' : Nat) (As : List Value) (hi : mAt t pc = some (len, 52, a, b, c, [ci, mc, ms])) (hp : pc + len = pc') (ha : (st.take c).reverse = As) (hd : st.drop c = .ref x :: r) (hl : Nat.ble c st.length = true) (hr : Nat.ble (mCat r) 8 = true) (hc : nc + mc ≤ bc) (hs : ns + ms ≤ bs) (kk : mWP d b (.ref x :: As) h (fun v h' => mZ d t bc bs Q pc' L (v.toList ++ r) h' (nc + mc) (ns + ms))) : mZ d t bc bs Q pc L st h nc ns := by
  subst hp ha
  refine z_call hi ?_ kk
  simp only [mSem, hd]
  rw [if_pos ⟨Nat.ble_eq.mp hl, Nat.ble_eq.mp hr, by simp only [mBud, List.getD, List.getElem?_cons_succ, List.getElem?_cons_zero, Option.getD_some, Bool.and_eq_true]; exact ⟨decide_eq_true hc, decide_eq_true hs⟩⟩]
  rfl
theorem z_oi {x : Nat} (pc' : Nat) (hi : mAt t pc = some (len, 53, a, b, c, ts)) (hp : pc + len = pc') (hr : Nat.ble (mCat st) 8 = true) (k : mZ d t bc bs Q pc' L st h nc ns) : mZ d t bc bs Q pc L (.ref x :: st) h nc ns := by
  subst hp
  exact z_go hi (by simp only [mSem]; rw [if_pos (Nat.ble_eq.mp hr)]) k
theorem z_max {x y : Int32} (pc' : Nat) (v : Int32) (hi : mAt t pc = some (len, 54, a, b, c, ts)) (hp : pc + len = pc') (hr : Nat.ble (mCat st) 8 = true) (hc : nc ≤ bc) (hs : ns ≤ bs) (hv : (if x < y then y else x) = v) (k : mZ d t bc bs Q pc' L (.int v :: st) h nc ns) : mZ d t bc bs Q pc L (.int y :: .int x :: st) h nc ns := by
  subst hp hv
  exact z_go hi (by simp only [mSem]; rw [if_pos ⟨Nat.ble_eq.mp hr, hc, hs⟩]) k
theorem z_min {x y : Int32} (pc' : Nat) (v : Int32) (hi : mAt t pc = some (len, 55, a, b, c, ts)) (hp : pc + len = pc') (hr : Nat.ble (mCat st) 8 = true) (hc : nc ≤ bc) (hs : ns ≤ bs) (hv : (if y < x then y else x) = v) (k : mZ d t bc bs Q pc' L (.int v :: st) h nc ns) : mZ d t bc bs Q pc L (.int y :: .int x :: st) h nc ns := by
  subst hp hv
  exact z_go hi (by simp only [mSem]; rw [if_pos ⟨Nat.ble_eq.mp hr, hc, hs⟩]) k
theorem z_copy {x y n0 n1 j k1 k2 : Nat} {f g : Nat → Int32} {n dp sp : Int32} (pc' : Nat) (hi : mAt t pc = some (len, 56, a, b, c, ts)) (hp : pc + len = pc') (hr : Nat.ble (mCat st) 8 = true) (hx : h.2 x = .inl (0, n0, f)) (hy : h.2 y = .inl (0, n1, g)) (e1 : sp = nI k1) (e2 : dp = nI k2) (e3 : n = nI j) (b1 : k1 + j ≤ n0) (b2 : k2 + j ≤ n1) (hn0 : n0 < 2 ^ 31) (hn1 : n1 < 2 ^ 31) (k : mZ d t bc bs Q pc' L st (mSet h y (.inl (0, n1, va_cpy f g k1 k2 j))) nc ns) : mZ d t bc bs Q pc L (.int n :: .int dp :: .ref y :: .int sp :: .ref x :: st) h nc ns := by
  subst hp e1 e2 e3
  have c1 : (nI k1).toNatClampNeg = k1 := nI_clamp (by omega)
  have c2 : (nI k2).toNatClampNeg = k2 := nI_clamp (by omega)
  have c3 : (nI j).toNatClampNeg = j := nI_clamp (by omega)
  refine z_go hi ?_ k
  simp only [mSem, hx, hy, c1, c2, c3]
  rw [if_pos ⟨Nat.ble_eq.mp hr, trivial, trivial, nI_pos (by omega), nI_pos (by omega), nI_pos (by omega), b1, b2⟩]
theorem z_ret {op : Nat} {v : Option Value} (hi : mAt t pc = some (len, op, a, b, c, ts)) (hs : mSem (pc + len) a b c ts L st h nc ns bc bs op = some (.inr (.inr v))) (hq : Q v h) : mZ d t bc bs Q pc L st h nc ns := by
  refine mWk_step (mWP_mono d) ?_
  unfold mStep mNext
  simp only [hi, hs]
  exact hq
theorem z_ireti {v : Int32} (hi : mAt t pc = some (len, 70, a, 0, c, ts)) (hc : nc ≤ bc) (hs : ns ≤ bs) (hq : Q (some (.int v)) h) : mZ d t bc bs Q pc L [.int v] h nc ns := z_ret hi (by simp only [mSem]; rw [if_pos ⟨hc, hs, Or.inl trivial⟩]) hq
theorem z_iretb {v : Int32} (hi : mAt t pc = some (len, 70, a, 1, c, ts)) (hc : nc ≤ bc) (hs : ns ≤ bs) (hv : v = 0 ∨ v = 1) (hq : Q (some (.int v)) h) : mZ d t bc bs Q pc L [.int v] h nc ns := z_ret hi (by simp only [mSem]; rw [if_pos ⟨hc, hs, Or.inr hv⟩]) hq
theorem z_lret {v : Int64} (hi : mAt t pc = some (len, 71, a, b, c, ts)) (hc : nc ≤ bc) (hs : ns ≤ bs) (hq : Q (some (.long v)) h) : mZ d t bc bs Q pc L [.long v] h nc ns := z_ret hi (by simp only [mSem]; rw [if_pos ⟨hc, hs⟩]) hq
theorem z_vret (hi : mAt t pc = some (len, 72, a, b, c, ts)) (hc : nc ≤ bc) (hs : ns ≤ bs) (hq : Q none h) : mZ d t bc bs Q pc L [] h nc ns := z_ret hi (by simp only [mSem]; rw [if_pos ⟨hc, hs⟩]) hq
end ZR
theorem z_in {d k : Nat} {As : List Value} {h : mH} {Q : mP} {y : MethodName} {by' : ByteArray} {n : Nat} {rt : Option FieldType} {ow na kd mc ms : Nat} {t : mK} {rest : Nat × Nat × Nat} (L : mL) (hr : mT[k]? = some (y, by', n, rt, ow, na, kd, mc, ms, t, rest)) (h1 : Nat.beq As.length na = true) (h2 : Nat.ble (mSp As).length n = true) (hL : mEnt n As = L) (kk : mZ d t mc ms Q 0 L [] h 0 0) : mWP (d + 1) k As h Q := by
  subst hL
  unfold mWP
  rw [hr]
  exact ⟨Nat.eq_of_beq_eq_true h1, Nat.ble_eq.mp h2, kk⟩
end
section
/-! comparisons of counted numbers, of truth values; what fits a field; lookups -/
def bI (p : Bool) : Int32 := if p = true then 1 else 0
theorem bI_01 (p : Bool) : bI p = 0 ∨ bI p = 1 := by cases p <;> simp [bI]
theorem mFi {b c : Nat} {x : Int32} (h : mm_ty b c = .int) : mFit b c (.int x) = true := by simp [mFit, h, narrow, fits]
theorem mFb {b c : Nat} {x : Int32} (h : mm_ty b c = .boolean) (hx : x = 0 ∨ x = 1) : mFit b c (.int x) = true := by rcases hx with rfl | rfl <;> simp [mFit, h, narrow, fits]
theorem mFo {b c : Nat} {x : Nat} {n : String} (h : mm_ty b c = .object n) : mFit b c (.ref x) = true := by simp [mFit, h, narrow, fits]
theorem mFn {b c : Nat} {n : String} (h : mm_ty b c = .object n) : mFit b c .null = true := by simp [mFit, h, narrow, fits]
theorem mFa {b c : Nat} {x : Nat} {n : FieldType} (h : mm_ty b c = .array n) : mFit b c (.ref x) = true := by simp [mFit, h, narrow, fits]
theorem mg_eq (h : mH) (a : Nat) (e : mC) : (mSet h a e).2 a = e := by simp [mSet]
theorem mg_ne {h : mH} {a x : Nat} {e e' : mC} (hn : x ≠ a) (hx : h.2 x = e') : (mSet h a e).2 x = e' := by simp [mSet, hn, hx]
theorem mg_k {h : mH} {a x : Nat} {e e0 e' : mC} (hx : h.2 x = e') (ha : h.2 a = e0) (hn : e0 ≠ e') : (mSet h a e).2 x = e' := mg_ne (fun q => hn (by rw [← ha, ← hx, q])) hx
section ZC
variable {d : Nat} {t : mK} {bc bs : Nat} {Q : mP} {pc len b : Nat} {a : Int} {ts : List Nat} {L : mL} {st : List Value} {h : mH} {nc ns : Nat}
theorem z_ceq {x y : Int32} (pc' : Nat) (hi : mAt t pc = some (len, 21, a, b, 0, ts)) (hp : pc + len = pc') (kt : x = y → mZ d t bc bs Q b L st h nc ns) (kf : ¬ x = y → mZ d t bc bs Q pc' L st h nc ns) : mZ d t bc bs Q pc L (.int y :: .int x :: st) h nc ns :=
  z_icmp pc' hi hp (fun hc => kt (by simpa [mCnd] using hc)) (fun hc => kf (by simpa [mCnd] using hc))
theorem z_neq {x y : Nat} (pc' : Nat) (hi : mAt t pc = some (len, 21, a, b, 0, ts)) (hp : pc + len = pc') (hx : x < 2 ^ 31) (hy : y < 2 ^ 31) (kt : x = y → mZ d t bc bs Q b L st h nc ns) (kf : ¬ x = y → mZ d t bc bs Q pc' L st h nc ns) : mZ d t bc bs Q pc L (.int (nI y) :: .int (nI x) :: st) h nc ns :=
  z_ceq pc' hi hp (fun hc => kt (by rw [nI_eq hx hy] at hc; omega)) (fun hc => kf (by rw [nI_eq hx hy] at hc; omega))
theorem z_ieq {x : Int32} (pc' : Nat) (hi : mAt t pc = some (len, 20, a, b, 0, ts)) (hp : pc + len = pc') (kt : x = 0 → mZ d t bc bs Q b L st h nc ns) (kf : ¬ x = 0 → mZ d t bc bs Q pc' L st h nc ns) : mZ d t bc bs Q pc L (.int x :: st) h nc ns :=
  z_if pc' hi hp (fun hc => kt (by simpa [mCnd] using hc)) (fun hc => kf (by simpa [mCnd] using hc))
theorem z_cne {x y : Int32} (pc' : Nat) (hi : mAt t pc = some (len, 21, a, b, 1, ts)) (hp : pc + len = pc') (kt : ¬ x = y → mZ d t bc bs Q b L st h nc ns) (kf : x = y → mZ d t bc bs Q pc' L st h nc ns) : mZ d t bc bs Q pc L (.int y :: .int x :: st) h nc ns :=
  z_icmp pc' hi hp (fun hc => kt (by simpa [mCnd] using hc)) (fun hc => kf (by simpa [mCnd] using hc))
theorem z_nne {x y : Nat} (pc' : Nat) (hi : mAt t pc = some (len, 21, a, b, 1, ts)) (hp : pc + len = pc') (hx : x < 2 ^ 31) (hy : y < 2 ^ 31) (kt : ¬ x = y → mZ d t bc bs Q b L st h nc ns) (kf : x = y → mZ d t bc bs Q pc' L st h nc ns) : mZ d t bc bs Q pc L (.int (nI y) :: .int (nI x) :: st) h nc ns :=
  z_cne pc' hi hp (fun hc => kt (by rw [nI_eq hx hy] at hc; omega)) (fun hc => kf (by rw [nI_eq hx hy] at hc; omega))
theorem z_ine {x : Int32} (pc' : Nat) (hi : mAt t pc = some (len, 20, a, b, 1, ts)) (hp : pc + len = pc') (kt : ¬ x = 0 → mZ d t bc bs Q b L st h nc ns) (kf : x = 0 → mZ d t bc bs Q pc' L st h nc ns) : mZ d t bc bs Q pc L (.int x :: st) h nc ns :=
  z_if pc' hi hp (fun hc => kt (by simpa [mCnd] using hc)) (fun hc => kf (by simpa [mCnd] using hc))
theorem z_clt {x y : Int32} (pc' : Nat) (hi : mAt t pc = some (len, 21, a, b, 2, ts)) (hp : pc + len = pc') (kt : x < y → mZ d t bc bs Q b L st h nc ns) (kf : ¬ x < y → mZ d t bc bs Q pc' L st h nc ns) : mZ d t bc bs Q pc L (.int y :: .int x :: st) h nc ns :=
  z_icmp pc' hi hp (fun hc => kt (by simpa [mCnd] using hc)) (fun hc => kf (by simpa [mCnd] using hc))
theorem z_nlt {x y : Nat} (pc' : Nat) (hi : mAt t pc = some (len, 21, a, b, 2, ts)) (hp : pc + len = pc') (hx : x < 2 ^ 31) (hy : y < 2 ^ 31) (kt : x < y → mZ d t bc bs Q b L st h nc ns) (kf : y ≤ x → mZ d t bc bs Q pc' L st h nc ns) : mZ d t bc bs Q pc L (.int (nI y) :: .int (nI x) :: st) h nc ns :=
  z_clt pc' hi hp (fun hc => kt (by rw [nI_ltI hx hy] at hc; omega)) (fun hc => kf (by rw [nI_ltI hx hy] at hc; omega))
theorem z_ilt {x : Int32} (pc' : Nat) (hi : mAt t pc = some (len, 20, a, b, 2, ts)) (hp : pc + len = pc') (kt : x < 0 → mZ d t bc bs Q b L st h nc ns) (kf : ¬ x < 0 → mZ d t bc bs Q pc' L st h nc ns) : mZ d t bc bs Q pc L (.int x :: st) h nc ns :=
  z_if pc' hi hp (fun hc => kt (by simpa [mCnd] using hc)) (fun hc => kf (by simpa [mCnd] using hc))
theorem z_cge {x y : Int32} (pc' : Nat) (hi : mAt t pc = some (len, 21, a, b, 3, ts)) (hp : pc + len = pc') (kt : y ≤ x → mZ d t bc bs Q b L st h nc ns) (kf : ¬ y ≤ x → mZ d t bc bs Q pc' L st h nc ns) : mZ d t bc bs Q pc L (.int y :: .int x :: st) h nc ns :=
  z_icmp pc' hi hp (fun hc => kt (by simpa [mCnd] using hc)) (fun hc => kf (by simpa [mCnd] using hc))
theorem z_nge {x y : Nat} (pc' : Nat) (hi : mAt t pc = some (len, 21, a, b, 3, ts)) (hp : pc + len = pc') (hx : x < 2 ^ 31) (hy : y < 2 ^ 31) (kt : y ≤ x → mZ d t bc bs Q b L st h nc ns) (kf : x < y → mZ d t bc bs Q pc' L st h nc ns) : mZ d t bc bs Q pc L (.int (nI y) :: .int (nI x) :: st) h nc ns :=
  z_cge pc' hi hp (fun hc => kt (by rw [nI_leI hy hx] at hc; omega)) (fun hc => kf (by rw [nI_leI hy hx] at hc; omega))
theorem z_ige {x : Int32} (pc' : Nat) (hi : mAt t pc = some (len, 20, a, b, 3, ts)) (hp : pc + len = pc') (kt : 0 ≤ x → mZ d t bc bs Q b L st h nc ns) (kf : ¬ 0 ≤ x → mZ d t bc bs Q pc' L st h nc ns) : mZ d t bc bs Q pc L (.int x :: st) h nc ns :=
  z_if pc' hi hp (fun hc => kt (by simpa [mCnd] using hc)) (fun hc => kf (by simpa [mCnd] using hc))
theorem z_cgt {x y : Int32} (pc' : Nat) (hi : mAt t pc = some (len, 21, a, b, 4, ts)) (hp : pc + len = pc') (kt : y < x → mZ d t bc bs Q b L st h nc ns) (kf : ¬ y < x → mZ d t bc bs Q pc' L st h nc ns) : mZ d t bc bs Q pc L (.int y :: .int x :: st) h nc ns :=
  z_icmp pc' hi hp (fun hc => kt (by simpa [mCnd] using hc)) (fun hc => kf (by simpa [mCnd] using hc))
theorem z_ngt {x y : Nat} (pc' : Nat) (hi : mAt t pc = some (len, 21, a, b, 4, ts)) (hp : pc + len = pc') (hx : x < 2 ^ 31) (hy : y < 2 ^ 31) (kt : y < x → mZ d t bc bs Q b L st h nc ns) (kf : x ≤ y → mZ d t bc bs Q pc' L st h nc ns) : mZ d t bc bs Q pc L (.int (nI y) :: .int (nI x) :: st) h nc ns :=
  z_cgt pc' hi hp (fun hc => kt (by rw [nI_ltI hy hx] at hc; omega)) (fun hc => kf (by rw [nI_ltI hy hx] at hc; omega))
theorem z_igt {x : Int32} (pc' : Nat) (hi : mAt t pc = some (len, 20, a, b, 4, ts)) (hp : pc + len = pc') (kt : 0 < x → mZ d t bc bs Q b L st h nc ns) (kf : ¬ 0 < x → mZ d t bc bs Q pc' L st h nc ns) : mZ d t bc bs Q pc L (.int x :: st) h nc ns :=
  z_if pc' hi hp (fun hc => kt (by simpa [mCnd] using hc)) (fun hc => kf (by simpa [mCnd] using hc))
theorem z_cle {x y : Int32} (pc' : Nat) (hi : mAt t pc = some (len, 21, a, b, 5, ts)) (hp : pc + len = pc') (kt : x ≤ y → mZ d t bc bs Q b L st h nc ns) (kf : ¬ x ≤ y → mZ d t bc bs Q pc' L st h nc ns) : mZ d t bc bs Q pc L (.int y :: .int x :: st) h nc ns :=
  z_icmp pc' hi hp (fun hc => kt (by simpa [mCnd] using hc)) (fun hc => kf (by simpa [mCnd] using hc))
theorem z_nle {x y : Nat} (pc' : Nat) (hi : mAt t pc = some (len, 21, a, b, 5, ts)) (hp : pc + len = pc') (hx : x < 2 ^ 31) (hy : y < 2 ^ 31) (kt : x ≤ y → mZ d t bc bs Q b L st h nc ns) (kf : y < x → mZ d t bc bs Q pc' L st h nc ns) : mZ d t bc bs Q pc L (.int (nI y) :: .int (nI x) :: st) h nc ns :=
  z_cle pc' hi hp (fun hc => kt (by rw [nI_leI hx hy] at hc; omega)) (fun hc => kf (by rw [nI_leI hx hy] at hc; omega))
theorem z_ile {x : Int32} (pc' : Nat) (hi : mAt t pc = some (len, 20, a, b, 5, ts)) (hp : pc + len = pc') (kt : x ≤ 0 → mZ d t bc bs Q b L st h nc ns) (kf : ¬ x ≤ 0 → mZ d t bc bs Q pc' L st h nc ns) : mZ d t bc bs Q pc L (.int x :: st) h nc ns :=
  z_if pc' hi hp (fun hc => kt (by simpa [mCnd] using hc)) (fun hc => kf (by simpa [mCnd] using hc))
theorem z_zeq {x : Nat} (pc' : Nat) (hi : mAt t pc = some (len, 20, a, b, 0, ts)) (hp : pc + len = pc') (hx : x < 2 ^ 31) (kt : x = 0 → mZ d t bc bs Q b L st h nc ns) (kf : ¬ x = 0 → mZ d t bc bs Q pc' L st h nc ns) : mZ d t bc bs Q pc L (.int (nI x) :: st) h nc ns :=
  z_ieq pc' hi hp (fun hc => kt (by rw [← nI_0, nI_eq hx (by decide : 0 < 2 ^ 31)] at hc; omega)) (fun hc => kf (by rw [← nI_0, nI_eq hx (by decide : 0 < 2 ^ 31)] at hc; omega))
theorem z_zne {x : Nat} (pc' : Nat) (hi : mAt t pc = some (len, 20, a, b, 1, ts)) (hp : pc + len = pc') (hx : x < 2 ^ 31) (kt : ¬ x = 0 → mZ d t bc bs Q b L st h nc ns) (kf : x = 0 → mZ d t bc bs Q pc' L st h nc ns) : mZ d t bc bs Q pc L (.int (nI x) :: st) h nc ns :=
  z_ine pc' hi hp (fun hc => kt (by rw [← nI_0, nI_eq hx (by decide : 0 < 2 ^ 31)] at hc; omega)) (fun hc => kf (by rw [← nI_0, nI_eq hx (by decide : 0 < 2 ^ 31)] at hc; omega))
theorem z_zlt {x : Nat} (pc' : Nat) (hi : mAt t pc = some (len, 20, a, b, 2, ts)) (hp : pc + len = pc') (hx : x < 2 ^ 31) (kt : x < 0 → mZ d t bc bs Q b L st h nc ns) (kf : 0 ≤ x → mZ d t bc bs Q pc' L st h nc ns) : mZ d t bc bs Q pc L (.int (nI x) :: st) h nc ns :=
  z_ilt pc' hi hp (fun hc => kt (by rw [← nI_0, nI_ltI hx (by decide : 0 < 2 ^ 31)] at hc; omega)) (fun hc => kf (by rw [← nI_0, nI_ltI hx (by decide : 0 < 2 ^ 31)] at hc; omega))
theorem z_zge {x : Nat} (pc' : Nat) (hi : mAt t pc = some (len, 20, a, b, 3, ts)) (hp : pc + len = pc') (hx : x < 2 ^ 31) (kt : 0 ≤ x → mZ d t bc bs Q b L st h nc ns) (kf : x < 0 → mZ d t bc bs Q pc' L st h nc ns) : mZ d t bc bs Q pc L (.int (nI x) :: st) h nc ns :=
  z_ige pc' hi hp (fun hc => kt (by rw [← nI_0, nI_leI (by decide : 0 < 2 ^ 31) hx] at hc; omega)) (fun hc => kf (by rw [← nI_0, nI_leI (by decide : 0 < 2 ^ 31) hx] at hc; omega))
theorem z_zgt {x : Nat} (pc' : Nat) (hi : mAt t pc = some (len, 20, a, b, 4, ts)) (hp : pc + len = pc') (hx : x < 2 ^ 31) (kt : 0 < x → mZ d t bc bs Q b L st h nc ns) (kf : x = 0 → mZ d t bc bs Q pc' L st h nc ns) : mZ d t bc bs Q pc L (.int (nI x) :: st) h nc ns :=
  z_igt pc' hi hp (fun hc => kt (by rw [← nI_0, nI_ltI (by decide : 0 < 2 ^ 31) hx] at hc; omega)) (fun hc => kf (by rw [← nI_0, nI_ltI (by decide : 0 < 2 ^ 31) hx] at hc; omega))
theorem z_zle {x : Nat} (pc' : Nat) (hi : mAt t pc = some (len, 20, a, b, 5, ts)) (hp : pc + len = pc') (hx : x < 2 ^ 31) (kt : x = 0 → mZ d t bc bs Q b L st h nc ns) (kf : 0 < x → mZ d t bc bs Q pc' L st h nc ns) : mZ d t bc bs Q pc L (.int (nI x) :: st) h nc ns :=
  z_ile pc' hi hp (fun hc => kt (by rw [← nI_0, nI_leI hx (by decide : 0 < 2 ^ 31)] at hc; omega)) (fun hc => kf (by rw [← nI_0, nI_leI hx (by decide : 0 < 2 ^ 31)] at hc; omega))
theorem z_beq {p : Bool} (pc' : Nat) (hi : mAt t pc = some (len, 20, a, b, 0, ts)) (hp : pc + len = pc') (kt : p = false → mZ d t bc bs Q b L st h nc ns) (kf : p = true → mZ d t bc bs Q pc' L st h nc ns) : mZ d t bc bs Q pc L (.int (bI p) :: st) h nc ns :=
  z_ieq pc' hi hp (fun hc => kt (by cases p <;> simp [bI] at hc ⊢)) (fun hc => kf (by cases p <;> simp [bI] at hc ⊢))
theorem z_bne {p : Bool} (pc' : Nat) (hi : mAt t pc = some (len, 20, a, b, 1, ts)) (hp : pc + len = pc') (kt : p = true → mZ d t bc bs Q b L st h nc ns) (kf : p = false → mZ d t bc bs Q pc' L st h nc ns) : mZ d t bc bs Q pc L (.int (bI p) :: st) h nc ns :=
  z_ine pc' hi hp (fun hc => kt (by cases p <;> simp [bI] at hc ⊢)) (fun hc => kf (by cases p <;> simp [bI] at hc ⊢))
end ZC
end
section
/-! comparisons in whole numbers -/
section ZT
variable {d : Nat} {t : mK} {bc bs : Nat} {Q : mP} {pc len b : Nat} {a : Int} {ts : List Nat} {L : mL} {st : List Value} {h : mH} {nc ns : Nat}
theorem zq {Q : mP} {h : mH} {x y : Int32} (q : Q (some (.int x)) h) (e : y = x) : Q (some (.int y)) h := by rw [e]; exact q
theorem zlt {x y : Int32} : x < y ↔ x.toInt < y.toInt := Int32.lt_iff_toInt_lt
theorem zle {x y : Int32} : x ≤ y ↔ x.toInt ≤ y.toInt := Int32.le_iff_toInt_le
theorem zeq {x y : Int32} : x = y ↔ x.toInt = y.toInt := Int32.toInt_inj.symm
theorem z_teq {x y : Int32} (pc' : Nat) (hi : mAt t pc = some (len, 21, a, b, 0, ts)) (hp : pc + len = pc') (kt : x.toInt = y.toInt → mZ d t bc bs Q b L st h nc ns) (kf : ¬ x.toInt = y.toInt → mZ d t bc bs Q pc' L st h nc ns) : mZ d t bc bs Q pc L (.int y :: .int x :: st) h nc ns :=
  z_ceq pc' hi hp (fun hc => kt (by rw [zeq] at hc; omega)) (fun hc => kf (by rw [zeq] at hc; omega))
theorem z_keq {x : Int32} {y : Nat} (pc' : Nat) (hi : mAt t pc = some (len, 21, a, b, 0, ts)) (hp : pc + len = pc') (hy : y < 2 ^ 31) (kt : x.toInt = (y : Int) → mZ d t bc bs Q b L st h nc ns) (kf : ¬ x.toInt = (y : Int) → mZ d t bc bs Q pc' L st h nc ns) : mZ d t bc bs Q pc L (.int (nI y) :: .int x :: st) h nc ns :=
  z_teq pc' hi hp (fun hc => kt (by rw [nI_toInt hy] at hc; omega)) (fun hc => kf (by rw [nI_toInt hy] at hc; omega))
theorem z_heq {x : Nat} {y : Int32} (pc' : Nat) (hi : mAt t pc = some (len, 21, a, b, 0, ts)) (hp : pc + len = pc') (hx : x < 2 ^ 31) (kt : (x : Int) = y.toInt → mZ d t bc bs Q b L st h nc ns) (kf : ¬ (x : Int) = y.toInt → mZ d t bc bs Q pc' L st h nc ns) : mZ d t bc bs Q pc L (.int y :: .int (nI x) :: st) h nc ns :=
  z_teq pc' hi hp (fun hc => kt (by rw [nI_toInt hx] at hc; omega)) (fun hc => kf (by rw [nI_toInt hx] at hc; omega))
theorem z_jeq {x : Int32} (pc' : Nat) (hi : mAt t pc = some (len, 20, a, b, 0, ts)) (hp : pc + len = pc') (kt : x.toInt = 0 → mZ d t bc bs Q b L st h nc ns) (kf : ¬ x.toInt = 0 → mZ d t bc bs Q pc' L st h nc ns) : mZ d t bc bs Q pc L (.int x :: st) h nc ns :=
  z_ieq pc' hi hp (fun hc => kt (by rw [zeq, Int32.toInt_zero] at hc; omega)) (fun hc => kf (by rw [zeq, Int32.toInt_zero] at hc; omega))
theorem z_tne {x y : Int32} (pc' : Nat) (hi : mAt t pc = some (len, 21, a, b, 1, ts)) (hp : pc + len = pc') (kt : ¬ x.toInt = y.toInt → mZ d t bc bs Q b L st h nc ns) (kf : x.toInt = y.toInt → mZ d t bc bs Q pc' L st h nc ns) : mZ d t bc bs Q pc L (.int y :: .int x :: st) h nc ns :=
  z_cne pc' hi hp (fun hc => kt (by rw [zeq] at hc; omega)) (fun hc => kf (by rw [zeq] at hc; omega))
theorem z_kne {x : Int32} {y : Nat} (pc' : Nat) (hi : mAt t pc = some (len, 21, a, b, 1, ts)) (hp : pc + len = pc') (hy : y < 2 ^ 31) (kt : ¬ x.toInt = (y : Int) → mZ d t bc bs Q b L st h nc ns) (kf : x.toInt = (y : Int) → mZ d t bc bs Q pc' L st h nc ns) : mZ d t bc bs Q pc L (.int (nI y) :: .int x :: st) h nc ns :=
  z_tne pc' hi hp (fun hc => kt (by rw [nI_toInt hy] at hc; omega)) (fun hc => kf (by rw [nI_toInt hy] at hc; omega))
theorem z_hne {x : Nat} {y : Int32} (pc' : Nat) (hi : mAt t pc = some (len, 21, a, b, 1, ts)) (hp : pc + len = pc') (hx : x < 2 ^ 31) (kt : ¬ (x : Int) = y.toInt → mZ d t bc bs Q b L st h nc ns) (kf : (x : Int) = y.toInt → mZ d t bc bs Q pc' L st h nc ns) : mZ d t bc bs Q pc L (.int y :: .int (nI x) :: st) h nc ns :=
  z_tne pc' hi hp (fun hc => kt (by rw [nI_toInt hx] at hc; omega)) (fun hc => kf (by rw [nI_toInt hx] at hc; omega))
theorem z_jne {x : Int32} (pc' : Nat) (hi : mAt t pc = some (len, 20, a, b, 1, ts)) (hp : pc + len = pc') (kt : ¬ x.toInt = 0 → mZ d t bc bs Q b L st h nc ns) (kf : x.toInt = 0 → mZ d t bc bs Q pc' L st h nc ns) : mZ d t bc bs Q pc L (.int x :: st) h nc ns :=
  z_ine pc' hi hp (fun hc => kt (by rw [zeq, Int32.toInt_zero] at hc; omega)) (fun hc => kf (by rw [zeq, Int32.toInt_zero] at hc; omega))
theorem z_tlt {x y : Int32} (pc' : Nat) (hi : mAt t pc = some (len, 21, a, b, 2, ts)) (hp : pc + len = pc') (kt : x.toInt < y.toInt → mZ d t bc bs Q b L st h nc ns) (kf : y.toInt ≤ x.toInt → mZ d t bc bs Q pc' L st h nc ns) : mZ d t bc bs Q pc L (.int y :: .int x :: st) h nc ns :=
  z_clt pc' hi hp (fun hc => kt (by rw [zlt] at hc; omega)) (fun hc => kf (by rw [zlt] at hc; omega))
theorem z_klt {x : Int32} {y : Nat} (pc' : Nat) (hi : mAt t pc = some (len, 21, a, b, 2, ts)) (hp : pc + len = pc') (hy : y < 2 ^ 31) (kt : x.toInt < (y : Int) → mZ d t bc bs Q b L st h nc ns) (kf : (y : Int) ≤ x.toInt → mZ d t bc bs Q pc' L st h nc ns) : mZ d t bc bs Q pc L (.int (nI y) :: .int x :: st) h nc ns :=
  z_tlt pc' hi hp (fun hc => kt (by rw [nI_toInt hy] at hc; omega)) (fun hc => kf (by rw [nI_toInt hy] at hc; omega))
theorem z_hlt {x : Nat} {y : Int32} (pc' : Nat) (hi : mAt t pc = some (len, 21, a, b, 2, ts)) (hp : pc + len = pc') (hx : x < 2 ^ 31) (kt : (x : Int) < y.toInt → mZ d t bc bs Q b L st h nc ns) (kf : y.toInt ≤ (x : Int) → mZ d t bc bs Q pc' L st h nc ns) : mZ d t bc bs Q pc L (.int y :: .int (nI x) :: st) h nc ns :=
  z_tlt pc' hi hp (fun hc => kt (by rw [nI_toInt hx] at hc; omega)) (fun hc => kf (by rw [nI_toInt hx] at hc; omega))
theorem z_jlt {x : Int32} (pc' : Nat) (hi : mAt t pc = some (len, 20, a, b, 2, ts)) (hp : pc + len = pc') (kt : x.toInt < 0 → mZ d t bc bs Q b L st h nc ns) (kf : 0 ≤ x.toInt → mZ d t bc bs Q pc' L st h nc ns) : mZ d t bc bs Q pc L (.int x :: st) h nc ns :=
  z_ilt pc' hi hp (fun hc => kt (by rw [zlt, Int32.toInt_zero] at hc; omega)) (fun hc => kf (by rw [zlt, Int32.toInt_zero] at hc; omega))
theorem z_tge {x y : Int32} (pc' : Nat) (hi : mAt t pc = some (len, 21, a, b, 3, ts)) (hp : pc + len = pc') (kt : y.toInt ≤ x.toInt → mZ d t bc bs Q b L st h nc ns) (kf : x.toInt < y.toInt → mZ d t bc bs Q pc' L st h nc ns) : mZ d t bc bs Q pc L (.int y :: .int x :: st) h nc ns :=
  z_cge pc' hi hp (fun hc => kt (by rw [zle] at hc; omega)) (fun hc => kf (by rw [zle] at hc; omega))
theorem z_kge {x : Int32} {y : Nat} (pc' : Nat) (hi : mAt t pc = some (len, 21, a, b, 3, ts)) (hp : pc + len = pc') (hy : y < 2 ^ 31) (kt : (y : Int) ≤ x.toInt → mZ d t bc bs Q b L st h nc ns) (kf : x.toInt < (y : Int) → mZ d t bc bs Q pc' L st h nc ns) : mZ d t bc bs Q pc L (.int (nI y) :: .int x :: st) h nc ns :=
  z_tge pc' hi hp (fun hc => kt (by rw [nI_toInt hy] at hc; omega)) (fun hc => kf (by rw [nI_toInt hy] at hc; omega))
theorem z_hge {x : Nat} {y : Int32} (pc' : Nat) (hi : mAt t pc = some (len, 21, a, b, 3, ts)) (hp : pc + len = pc') (hx : x < 2 ^ 31) (kt : y.toInt ≤ (x : Int) → mZ d t bc bs Q b L st h nc ns) (kf : (x : Int) < y.toInt → mZ d t bc bs Q pc' L st h nc ns) : mZ d t bc bs Q pc L (.int y :: .int (nI x) :: st) h nc ns :=
  z_tge pc' hi hp (fun hc => kt (by rw [nI_toInt hx] at hc; omega)) (fun hc => kf (by rw [nI_toInt hx] at hc; omega))
theorem z_jge {x : Int32} (pc' : Nat) (hi : mAt t pc = some (len, 20, a, b, 3, ts)) (hp : pc + len = pc') (kt : 0 ≤ x.toInt → mZ d t bc bs Q b L st h nc ns) (kf : x.toInt < 0 → mZ d t bc bs Q pc' L st h nc ns) : mZ d t bc bs Q pc L (.int x :: st) h nc ns :=
  z_ige pc' hi hp (fun hc => kt (by rw [zle, Int32.toInt_zero] at hc; omega)) (fun hc => kf (by rw [zle, Int32.toInt_zero] at hc; omega))
theorem z_tgt {x y : Int32} (pc' : Nat) (hi : mAt t pc = some (len, 21, a, b, 4, ts)) (hp : pc + len = pc') (kt : y.toInt < x.toInt → mZ d t bc bs Q b L st h nc ns) (kf : x.toInt ≤ y.toInt → mZ d t bc bs Q pc' L st h nc ns) : mZ d t bc bs Q pc L (.int y :: .int x :: st) h nc ns :=
  z_cgt pc' hi hp (fun hc => kt (by rw [zlt] at hc; omega)) (fun hc => kf (by rw [zlt] at hc; omega))
theorem z_kgt {x : Int32} {y : Nat} (pc' : Nat) (hi : mAt t pc = some (len, 21, a, b, 4, ts)) (hp : pc + len = pc') (hy : y < 2 ^ 31) (kt : (y : Int) < x.toInt → mZ d t bc bs Q b L st h nc ns) (kf : x.toInt ≤ (y : Int) → mZ d t bc bs Q pc' L st h nc ns) : mZ d t bc bs Q pc L (.int (nI y) :: .int x :: st) h nc ns :=
  z_tgt pc' hi hp (fun hc => kt (by rw [nI_toInt hy] at hc; omega)) (fun hc => kf (by rw [nI_toInt hy] at hc; omega))
theorem z_hgt {x : Nat} {y : Int32} (pc' : Nat) (hi : mAt t pc = some (len, 21, a, b, 4, ts)) (hp : pc + len = pc') (hx : x < 2 ^ 31) (kt : y.toInt < (x : Int) → mZ d t bc bs Q b L st h nc ns) (kf : (x : Int) ≤ y.toInt → mZ d t bc bs Q pc' L st h nc ns) : mZ d t bc bs Q pc L (.int y :: .int (nI x) :: st) h nc ns :=
  z_tgt pc' hi hp (fun hc => kt (by rw [nI_toInt hx] at hc; omega)) (fun hc => kf (by rw [nI_toInt hx] at hc; omega))
theorem z_jgt {x : Int32} (pc' : Nat) (hi : mAt t pc = some (len, 20, a, b, 4, ts)) (hp : pc + len = pc') (kt : 0 < x.toInt → mZ d t bc bs Q b L st h nc ns) (kf : x.toInt ≤ 0 → mZ d t bc bs Q pc' L st h nc ns) : mZ d t bc bs Q pc L (.int x :: st) h nc ns :=
  z_igt pc' hi hp (fun hc => kt (by rw [zlt, Int32.toInt_zero] at hc; omega)) (fun hc => kf (by rw [zlt, Int32.toInt_zero] at hc; omega))
theorem z_tle {x y : Int32} (pc' : Nat) (hi : mAt t pc = some (len, 21, a, b, 5, ts)) (hp : pc + len = pc') (kt : x.toInt ≤ y.toInt → mZ d t bc bs Q b L st h nc ns) (kf : y.toInt < x.toInt → mZ d t bc bs Q pc' L st h nc ns) : mZ d t bc bs Q pc L (.int y :: .int x :: st) h nc ns :=
  z_cle pc' hi hp (fun hc => kt (by rw [zle] at hc; omega)) (fun hc => kf (by rw [zle] at hc; omega))
theorem z_kle {x : Int32} {y : Nat} (pc' : Nat) (hi : mAt t pc = some (len, 21, a, b, 5, ts)) (hp : pc + len = pc') (hy : y < 2 ^ 31) (kt : x.toInt ≤ (y : Int) → mZ d t bc bs Q b L st h nc ns) (kf : (y : Int) < x.toInt → mZ d t bc bs Q pc' L st h nc ns) : mZ d t bc bs Q pc L (.int (nI y) :: .int x :: st) h nc ns :=
  z_tle pc' hi hp (fun hc => kt (by rw [nI_toInt hy] at hc; omega)) (fun hc => kf (by rw [nI_toInt hy] at hc; omega))
theorem z_hle {x : Nat} {y : Int32} (pc' : Nat) (hi : mAt t pc = some (len, 21, a, b, 5, ts)) (hp : pc + len = pc') (hx : x < 2 ^ 31) (kt : (x : Int) ≤ y.toInt → mZ d t bc bs Q b L st h nc ns) (kf : y.toInt < (x : Int) → mZ d t bc bs Q pc' L st h nc ns) : mZ d t bc bs Q pc L (.int y :: .int (nI x) :: st) h nc ns :=
  z_tle pc' hi hp (fun hc => kt (by rw [nI_toInt hx] at hc; omega)) (fun hc => kf (by rw [nI_toInt hx] at hc; omega))
theorem z_jle {x : Int32} (pc' : Nat) (hi : mAt t pc = some (len, 20, a, b, 5, ts)) (hp : pc + len = pc') (kt : x.toInt ≤ 0 → mZ d t bc bs Q b L st h nc ns) (kf : 0 < x.toInt → mZ d t bc bs Q pc' L st h nc ns) : mZ d t bc bs Q pc L (.int x :: st) h nc ns :=
  z_ile pc' hi hp (fun hc => kt (by rw [zle, Int32.toInt_zero] at hc; omega)) (fun hc => kf (by rw [zle, Int32.toInt_zero] at hc; omega))
end ZT
theorem zb_0 (a b : Nat) : mBop 0 (nI a) (nI b) = nI (a + b) := nI_add a b
theorem zb_1 {a b : Nat} (h : b ≤ a) : mBop 1 (nI a) (nI b) = nI (a - b) := pk_sub h
theorem zb_2 (a b : Nat) : mBop 2 (nI a) (nI b) = nI (a * b) := pk_mul a b
theorem zi_1 (a : Nat) : nI a + Int32.ofInt 1 = nI (a + 1) := nI_1 a
theorem zd_0 (x y : Int32) : mBop 0 x y = x + y := rfl
theorem zd_1 (x y : Int32) : mBop 1 x y = x - y := rfl
theorem zd_2 (x y : Int32) : mBop 2 x y = x * y := rfl
theorem zd_3 (x y : Int32) : mBop 3 x y = x &&& y := rfl
theorem zd_4 (x y : Int32) : mBop 4 x y = x ||| y := rfl
theorem zd_5 (x y : Int32) : mBop 5 x y = x ^^^ y := rfl
theorem zd_6 (x y : Int32) : mBop 6 x y = x <<< (y &&& 31) := rfl
theorem zd_7 (x y : Int32) : mBop 7 x y = x >>> (y &&& 31) := rfl
theorem zd_8 (x y : Int32) : mBop 8 x y = mBop 8 x y := rfl
end
section
/-! Row -/
abbrev oRow (v : Nat) (c : Int32) : mC := .inr (.inr (7, [.ref v, .int c]))
abbrev aI (n : Nat) (f : Nat → Int32) : mC := .inl (0, n, f)
abbrev aZ (n : Nat) (f : Nat → Int32) : mC := .inl (1, n, f)
set_option maxRecDepth 10000 in
theorem c_Row_clear {d : Nat} {h : mH} {r v : Nat} {c : Int32} {Q : mP} (h1 : h.2 r = oRow v c) (q : Q none (mSet h r (oRow v 0))) : mWP (d + 1) 71 [.ref r] h Q := by
  refine z_in [some (.ref r)] (by rfl) rfl rfl rfl ?_
  refine z_aload 1 rfl rfl rfl ?_
  refine z_push 2 (nI 0) rfl rfl rfl ?_
  refine z_put 5 rfl rfl h1 rfl (mFi rfl) ?_
  refine z_vret rfl (Nat.le_refl _) (Nat.le_refl _) ?_
  exact q
set_option maxRecDepth 10000 in
theorem c_Row_add {d : Nat} {h : mH} {r v n c : Nat} {f : Nat → Int32} {x : Int32} {Q : mP} (h1 : h.2 r = oRow v (nI c)) (h2 : h.2 v = aI n f) (hn : n < 2 ^ 31) (hc : c ≤ n) (q1 : c < n → Q (some (.int 1)) (mSet (mSet h v (aI n (upd f c x))) r (oRow v (nI (c + 1))))) (q0 : n = c → Q (some (.int 0)) h) : mWP (d + 1) 72 [.ref r, .int x] h Q := by
  refine z_in [some (.ref r), some (.int x)] (by rfl) rfl rfl rfl ?_
  refine z_aload 1 rfl rfl rfl ?_
  refine z_get 4 rfl rfl (by first | exact h1 | exact h2 | exact mg_k h1 h2 (by simp) ) rfl ?_
  refine z_aload 5 rfl rfl rfl ?_
  refine z_get 8 rfl rfl (by first | exact h1 | exact h2 | exact mg_k h1 h2 (by simp) ) rfl ?_
  refine z_alen 9 rfl rfl (by first | exact h1 | exact h2 | exact mg_k h1 h2 (by simp) ) (by decide) ?_
  first | refine z_nlt 12 rfl rfl (by omega) (by omega) (fun hc9 => ?_) (fun hc9 => ?_) | refine z_klt 12 rfl rfl (by omega) (fun hc9 => ?_) (fun hc9 => ?_) | refine z_hlt 12 rfl rfl (by omega) (fun hc9 => ?_) (fun hc9 => ?_) | refine z_tlt 12 rfl rfl (fun hc9 => ?_) (fun hc9 => ?_)
  · refine z_aload 15 rfl rfl rfl ?_
    refine z_get 18 rfl rfl (by first | exact h1 | exact h2 | exact mg_k h1 h2 (by simp) ) rfl ?_
    refine z_aload 19 rfl rfl rfl ?_
    refine z_get 22 rfl rfl (by first | exact h1 | exact h2 | exact mg_k h1 h2 (by simp) ) rfl ?_
    refine z_iload 23 rfl rfl rfl ?_
    refine z_ast 24 rfl rfl (by first | exact h1 | exact h2 | exact mg_k h1 h2 (by simp) ) rfl (by omega) (by omega) ?_
    refine z_aload 25 rfl rfl rfl ?_
    first | refine z_dup 26 rfl rfl ?_ | refine z_dupi 26 rfl rfl ?_
    refine z_get 29 rfl rfl (by first | exact h1 | exact h2 | exact mg_k h1 h2 (by simp) ) rfl ?_
    refine z_push 30 (nI 1) rfl rfl rfl ?_
    refine z_bop 31 _ rfl rfl (by first | with_reducible exact zb_0 _ _ | exact zd_0 _ _) ?_
    refine z_put 34 rfl rfl (by first | exact h1 | exact h2 | exact mg_k h1 h2 (by simp) ) rfl (mFi rfl) ?_
    refine z_push 35 (nI 1) rfl rfl rfl ?_
    refine z_iretb rfl (Nat.le_refl _) (Nat.le_refl _) (by first | decide | exact bI_01 _) ?_
    exact q1 (by omega)
  · refine z_push 13 (nI 0) rfl rfl rfl ?_
    refine z_iretb rfl (Nat.le_refl _) (Nat.le_refl _) (by first | decide | exact bI_01 _) ?_
    exact q0 (by omega)
end
section
/-! small static methods of the class and of the reference -/
def jHalf (x : Int32) : Bool := decide (55296 ≤ x.toInt ∧ x.toInt ≤ 57343)
def jHigh (x : Int32) : Bool := decide (55296 ≤ x.toInt ∧ x.toInt < 56320)
def jLow (x : Int32) : Bool := decide (56320 ≤ x.toInt ∧ x.toInt ≤ 57343)
def jByte (x : Int32) : Bool := decide (0 ≤ x.toInt ∧ x.toInt ≤ 255)
def jState (x : Int32) : Bool := decide (0 ≤ x.toInt ∧ x.toInt < 4)
def jRd (x : Int32) : Bool := decide (0 ≤ x.toInt ∧ x.toInt ≤ 3)
def jWr (x : Int32) : Bool := decide (0 ≤ x.toInt ∧ x.toInt ≤ 4)
set_option maxRecDepth 10000 in
theorem c_isHalf {d : Nat} {h : mH} {x : Int32} {Q : mP} (q : Q (some (.int (bI (jHalf x)))) h) : mWP (d + 1) 140 [.int x] h Q := by
  refine z_in [some (.int x)] (by rfl) rfl rfl rfl ?_
  refine z_iload 1 rfl rfl rfl ?_
  refine z_push 4 (nI 55296) rfl rfl rfl ?_
  first | refine z_nlt 7 rfl rfl (by omega) (by omega) (fun hc4 => ?_) (fun hc4 => ?_) | refine z_klt 7 rfl rfl (by omega) (fun hc4 => ?_) (fun hc4 => ?_) | refine z_hlt 7 rfl rfl (by omega) (fun hc4 => ?_) (fun hc4 => ?_) | refine z_tlt 7 rfl rfl (fun hc4 => ?_) (fun hc4 => ?_)
  · refine z_push 19 (nI 0) rfl rfl rfl ?_
    refine z_iretb rfl (Nat.le_refl _) (Nat.le_refl _) (by first | decide | exact bI_01 _) ?_
    first | exact zq q (by rw [show jHalf x = true from decide_eq_true (by omega)]; rfl) | exact zq q (by rw [show jHalf x = false from decide_eq_false (by omega)]; rfl)
  · refine z_iload 8 rfl rfl rfl ?_
    refine z_push 11 (nI 57343) rfl rfl rfl ?_
    first | refine z_ngt 14 rfl rfl (by omega) (by omega) (fun hc11 => ?_) (fun hc11 => ?_) | refine z_kgt 14 rfl rfl (by omega) (fun hc11 => ?_) (fun hc11 => ?_) | refine z_hgt 14 rfl rfl (by omega) (fun hc11 => ?_) (fun hc11 => ?_) | refine z_tgt 14 rfl rfl (fun hc11 => ?_) (fun hc11 => ?_)
    · refine z_push 19 (nI 0) rfl rfl rfl ?_
      refine z_iretb rfl (Nat.le_refl _) (Nat.le_refl _) (by first | decide | exact bI_01 _) ?_
      first | exact zq q (by rw [show jHalf x = true from decide_eq_true (by omega)]; rfl) | exact zq q (by rw [show jHalf x = false from decide_eq_false (by omega)]; rfl)
    · refine z_push 15 (nI 1) rfl rfl rfl ?_
      refine z_goto rfl ?_
      refine z_iretb rfl (Nat.le_refl _) (Nat.le_refl _) (by first | decide | exact bI_01 _) ?_
      first | exact zq q (by rw [show jHalf x = true from decide_eq_true (by omega)]; rfl) | exact zq q (by rw [show jHalf x = false from decide_eq_false (by omega)]; rfl)
set_option maxRecDepth 10000 in
theorem c_isHighHalf {d : Nat} {h : mH} {x : Int32} {Q : mP} (q : Q (some (.int (bI (jHigh x)))) h) : mWP (d + 1) 141 [.int x] h Q := by
  refine z_in [some (.int x)] (by rfl) rfl rfl rfl ?_
  refine z_iload 1 rfl rfl rfl ?_
  refine z_push 4 (nI 55296) rfl rfl rfl ?_
  first | refine z_nlt 7 rfl rfl (by omega) (by omega) (fun hc4 => ?_) (fun hc4 => ?_) | refine z_klt 7 rfl rfl (by omega) (fun hc4 => ?_) (fun hc4 => ?_) | refine z_hlt 7 rfl rfl (by omega) (fun hc4 => ?_) (fun hc4 => ?_) | refine z_tlt 7 rfl rfl (fun hc4 => ?_) (fun hc4 => ?_)
  · refine z_push 19 (nI 0) rfl rfl rfl ?_
    refine z_iretb rfl (Nat.le_refl _) (Nat.le_refl _) (by first | decide | exact bI_01 _) ?_
    first | exact zq q (by rw [show jHigh x = true from decide_eq_true (by omega)]; rfl) | exact zq q (by rw [show jHigh x = false from decide_eq_false (by omega)]; rfl)
  · refine z_iload 8 rfl rfl rfl ?_
    refine z_push 11 (nI 56320) rfl rfl rfl ?_
    first | refine z_nge 14 rfl rfl (by omega) (by omega) (fun hc11 => ?_) (fun hc11 => ?_) | refine z_kge 14 rfl rfl (by omega) (fun hc11 => ?_) (fun hc11 => ?_) | refine z_hge 14 rfl rfl (by omega) (fun hc11 => ?_) (fun hc11 => ?_) | refine z_tge 14 rfl rfl (fun hc11 => ?_) (fun hc11 => ?_)
    · refine z_push 19 (nI 0) rfl rfl rfl ?_
      refine z_iretb rfl (Nat.le_refl _) (Nat.le_refl _) (by first | decide | exact bI_01 _) ?_
      first | exact zq q (by rw [show jHigh x = true from decide_eq_true (by omega)]; rfl) | exact zq q (by rw [show jHigh x = false from decide_eq_false (by omega)]; rfl)
    · refine z_push 15 (nI 1) rfl rfl rfl ?_
      refine z_goto rfl ?_
      refine z_iretb rfl (Nat.le_refl _) (Nat.le_refl _) (by first | decide | exact bI_01 _) ?_
      first | exact zq q (by rw [show jHigh x = true from decide_eq_true (by omega)]; rfl) | exact zq q (by rw [show jHigh x = false from decide_eq_false (by omega)]; rfl)
set_option maxRecDepth 10000 in
theorem c_isLowHalf {d : Nat} {h : mH} {x : Int32} {Q : mP} (q : Q (some (.int (bI (jLow x)))) h) : mWP (d + 1) 142 [.int x] h Q := by
  refine z_in [some (.int x)] (by rfl) rfl rfl rfl ?_
  refine z_iload 1 rfl rfl rfl ?_
  refine z_push 4 (nI 56320) rfl rfl rfl ?_
  first | refine z_nlt 7 rfl rfl (by omega) (by omega) (fun hc4 => ?_) (fun hc4 => ?_) | refine z_klt 7 rfl rfl (by omega) (fun hc4 => ?_) (fun hc4 => ?_) | refine z_hlt 7 rfl rfl (by omega) (fun hc4 => ?_) (fun hc4 => ?_) | refine z_tlt 7 rfl rfl (fun hc4 => ?_) (fun hc4 => ?_)
  · refine z_push 19 (nI 0) rfl rfl rfl ?_
    refine z_iretb rfl (Nat.le_refl _) (Nat.le_refl _) (by first | decide | exact bI_01 _) ?_
    first | exact zq q (by rw [show jLow x = true from decide_eq_true (by omega)]; rfl) | exact zq q (by rw [show jLow x = false from decide_eq_false (by omega)]; rfl)
  · refine z_iload 8 rfl rfl rfl ?_
    refine z_push 11 (nI 57343) rfl rfl rfl ?_
    first | refine z_ngt 14 rfl rfl (by omega) (by omega) (fun hc11 => ?_) (fun hc11 => ?_) | refine z_kgt 14 rfl rfl (by omega) (fun hc11 => ?_) (fun hc11 => ?_) | refine z_hgt 14 rfl rfl (by omega) (fun hc11 => ?_) (fun hc11 => ?_) | refine z_tgt 14 rfl rfl (fun hc11 => ?_) (fun hc11 => ?_)
    · refine z_push 19 (nI 0) rfl rfl rfl ?_
      refine z_iretb rfl (Nat.le_refl _) (Nat.le_refl _) (by first | decide | exact bI_01 _) ?_
      first | exact zq q (by rw [show jLow x = true from decide_eq_true (by omega)]; rfl) | exact zq q (by rw [show jLow x = false from decide_eq_false (by omega)]; rfl)
    · refine z_push 15 (nI 1) rfl rfl rfl ?_
      refine z_goto rfl ?_
      refine z_iretb rfl (Nat.le_refl _) (Nat.le_refl _) (by first | decide | exact bI_01 _) ?_
      first | exact zq q (by rw [show jLow x = true from decide_eq_true (by omega)]; rfl) | exact zq q (by rw [show jLow x = false from decide_eq_false (by omega)]; rfl)
set_option maxRecDepth 10000 in
theorem c_isByte {d : Nat} {h : mH} {x : Int32} {Q : mP} (q : Q (some (.int (bI (jByte x)))) h) : mWP (d + 1) 146 [.int x] h Q := by
  refine z_in [some (.int x)] (by rfl) rfl rfl rfl ?_
  refine z_iload 1 rfl rfl rfl ?_
  first | refine z_zlt 4 rfl rfl (by omega) (fun hc1 => ?_) (fun hc1 => ?_) | refine z_jlt 4 rfl rfl (fun hc1 => ?_) (fun hc1 => ?_)
  · refine z_push 16 (nI 0) rfl rfl rfl ?_
    refine z_iretb rfl (Nat.le_refl _) (Nat.le_refl _) (by first | decide | exact bI_01 _) ?_
    first | exact zq q (by rw [show jByte x = true from decide_eq_true (by omega)]; rfl) | exact zq q (by rw [show jByte x = false from decide_eq_false (by omega)]; rfl)
  · refine z_iload 5 rfl rfl rfl ?_
    refine z_push 8 (nI 255) rfl rfl rfl ?_
    first | refine z_ngt 11 rfl rfl (by omega) (by omega) (fun hc8 => ?_) (fun hc8 => ?_) | refine z_kgt 11 rfl rfl (by omega) (fun hc8 => ?_) (fun hc8 => ?_) | refine z_hgt 11 rfl rfl (by omega) (fun hc8 => ?_) (fun hc8 => ?_) | refine z_tgt 11 rfl rfl (fun hc8 => ?_) (fun hc8 => ?_)
    · refine z_push 16 (nI 0) rfl rfl rfl ?_
      refine z_iretb rfl (Nat.le_refl _) (Nat.le_refl _) (by first | decide | exact bI_01 _) ?_
      first | exact zq q (by rw [show jByte x = true from decide_eq_true (by omega)]; rfl) | exact zq q (by rw [show jByte x = false from decide_eq_false (by omega)]; rfl)
    · refine z_push 12 (nI 1) rfl rfl rfl ?_
      refine z_goto rfl ?_
      refine z_iretb rfl (Nat.le_refl _) (Nat.le_refl _) (by first | decide | exact bI_01 _) ?_
      first | exact zq q (by rw [show jByte x = true from decide_eq_true (by omega)]; rfl) | exact zq q (by rw [show jByte x = false from decide_eq_false (by omega)]; rfl)
set_option maxRecDepth 10000 in
theorem c_isState {d : Nat} {h : mH} {x : Int32} {Q : mP} (q : Q (some (.int (bI (jState x)))) h) : mWP (d + 1) 147 [.int x] h Q := by
  refine z_in [some (.int x)] (by rfl) rfl rfl rfl ?_
  refine z_iload 1 rfl rfl rfl ?_
  first | refine z_zlt 4 rfl rfl (by omega) (fun hc1 => ?_) (fun hc1 => ?_) | refine z_jlt 4 rfl rfl (fun hc1 => ?_) (fun hc1 => ?_)
  · refine z_push 14 (nI 0) rfl rfl rfl ?_
    refine z_iretb rfl (Nat.le_refl _) (Nat.le_refl _) (by first | decide | exact bI_01 _) ?_
    first | exact zq q (by rw [show jState x = true from decide_eq_true (by omega)]; rfl) | exact zq q (by rw [show jState x = false from decide_eq_false (by omega)]; rfl)
  · refine z_iload 5 rfl rfl rfl ?_
    refine z_push 6 (nI 4) rfl rfl rfl ?_
    first | refine z_nge 9 rfl rfl (by omega) (by omega) (fun hc6 => ?_) (fun hc6 => ?_) | refine z_kge 9 rfl rfl (by omega) (fun hc6 => ?_) (fun hc6 => ?_) | refine z_hge 9 rfl rfl (by omega) (fun hc6 => ?_) (fun hc6 => ?_) | refine z_tge 9 rfl rfl (fun hc6 => ?_) (fun hc6 => ?_)
    · refine z_push 14 (nI 0) rfl rfl rfl ?_
      refine z_iretb rfl (Nat.le_refl _) (Nat.le_refl _) (by first | decide | exact bI_01 _) ?_
      first | exact zq q (by rw [show jState x = true from decide_eq_true (by omega)]; rfl) | exact zq q (by rw [show jState x = false from decide_eq_false (by omega)]; rfl)
    · refine z_push 10 (nI 1) rfl rfl rfl ?_
      refine z_goto rfl ?_
      refine z_iretb rfl (Nat.le_refl _) (Nat.le_refl _) (by first | decide | exact bI_01 _) ?_
      first | exact zq q (by rw [show jState x = true from decide_eq_true (by omega)]; rfl) | exact zq q (by rw [show jState x = false from decide_eq_false (by omega)]; rfl)
set_option maxRecDepth 10000 in
theorem c_isReadRule {d : Nat} {h : mH} {x : Int32} {Q : mP} (q : Q (some (.int (bI (jRd x)))) h) : mWP (d + 1) 149 [.int x] h Q := by
  refine z_in [some (.int x)] (by rfl) rfl rfl rfl ?_
  refine z_iload 1 rfl rfl rfl ?_
  first | refine z_zlt 4 rfl rfl (by omega) (fun hc1 => ?_) (fun hc1 => ?_) | refine z_jlt 4 rfl rfl (fun hc1 => ?_) (fun hc1 => ?_)
  · refine z_push 14 (nI 0) rfl rfl rfl ?_
    refine z_iretb rfl (Nat.le_refl _) (Nat.le_refl _) (by first | decide | exact bI_01 _) ?_
    first | exact zq q (by rw [show jRd x = true from decide_eq_true (by omega)]; rfl) | exact zq q (by rw [show jRd x = false from decide_eq_false (by omega)]; rfl)
  · refine z_iload 5 rfl rfl rfl ?_
    refine z_push 6 (nI 3) rfl rfl rfl ?_
    first | refine z_ngt 9 rfl rfl (by omega) (by omega) (fun hc6 => ?_) (fun hc6 => ?_) | refine z_kgt 9 rfl rfl (by omega) (fun hc6 => ?_) (fun hc6 => ?_) | refine z_hgt 9 rfl rfl (by omega) (fun hc6 => ?_) (fun hc6 => ?_) | refine z_tgt 9 rfl rfl (fun hc6 => ?_) (fun hc6 => ?_)
    · refine z_push 14 (nI 0) rfl rfl rfl ?_
      refine z_iretb rfl (Nat.le_refl _) (Nat.le_refl _) (by first | decide | exact bI_01 _) ?_
      first | exact zq q (by rw [show jRd x = true from decide_eq_true (by omega)]; rfl) | exact zq q (by rw [show jRd x = false from decide_eq_false (by omega)]; rfl)
    · refine z_push 10 (nI 1) rfl rfl rfl ?_
      refine z_goto rfl ?_
      refine z_iretb rfl (Nat.le_refl _) (Nat.le_refl _) (by first | decide | exact bI_01 _) ?_
      first | exact zq q (by rw [show jRd x = true from decide_eq_true (by omega)]; rfl) | exact zq q (by rw [show jRd x = false from decide_eq_false (by omega)]; rfl)
set_option maxRecDepth 10000 in
theorem c_isWriteRule {d : Nat} {h : mH} {x : Int32} {Q : mP} (q : Q (some (.int (bI (jWr x)))) h) : mWP (d + 1) 150 [.int x] h Q := by
  refine z_in [some (.int x)] (by rfl) rfl rfl rfl ?_
  refine z_iload 1 rfl rfl rfl ?_
  first | refine z_zlt 4 rfl rfl (by omega) (fun hc1 => ?_) (fun hc1 => ?_) | refine z_jlt 4 rfl rfl (fun hc1 => ?_) (fun hc1 => ?_)
  · refine z_push 14 (nI 0) rfl rfl rfl ?_
    refine z_iretb rfl (Nat.le_refl _) (Nat.le_refl _) (by first | decide | exact bI_01 _) ?_
    first | exact zq q (by rw [show jWr x = true from decide_eq_true (by omega)]; rfl) | exact zq q (by rw [show jWr x = false from decide_eq_false (by omega)]; rfl)
  · refine z_iload 5 rfl rfl rfl ?_
    refine z_push 6 (nI 4) rfl rfl rfl ?_
    first | refine z_ngt 9 rfl rfl (by omega) (by omega) (fun hc6 => ?_) (fun hc6 => ?_) | refine z_kgt 9 rfl rfl (by omega) (fun hc6 => ?_) (fun hc6 => ?_) | refine z_hgt 9 rfl rfl (by omega) (fun hc6 => ?_) (fun hc6 => ?_) | refine z_tgt 9 rfl rfl (fun hc6 => ?_) (fun hc6 => ?_)
    · refine z_push 14 (nI 0) rfl rfl rfl ?_
      refine z_iretb rfl (Nat.le_refl _) (Nat.le_refl _) (by first | decide | exact bI_01 _) ?_
      first | exact zq q (by rw [show jWr x = true from decide_eq_true (by omega)]; rfl) | exact zq q (by rw [show jWr x = false from decide_eq_false (by omega)]; rfl)
    · refine z_push 10 (nI 1) rfl rfl rfl ?_
      refine z_goto rfl ?_
      refine z_iretb rfl (Nat.le_refl _) (Nat.le_refl _) (by first | decide | exact bI_01 _) ?_
      first | exact zq q (by rw [show jWr x = true from decide_eq_true (by omega)]; rfl) | exact zq q (by rw [show jWr x = false from decide_eq_false (by omega)]; rfl)
set_option maxRecDepth 10000 in
theorem c_isMachine {d : Nat} {h : mH} {x : Int32} {Q : mP} (q : Q (some (.int (bI (jState x)))) h) : mWP (d + 1) 151 [.int x] h Q := by
  refine z_in [some (.int x)] (by rfl) rfl rfl rfl ?_
  refine z_iload 1 rfl rfl rfl ?_
  first | refine z_zlt 4 rfl rfl (by omega) (fun hc1 => ?_) (fun hc1 => ?_) | refine z_jlt 4 rfl rfl (fun hc1 => ?_) (fun hc1 => ?_)
  · refine z_push 14 (nI 0) rfl rfl rfl ?_
    refine z_iretb rfl (Nat.le_refl _) (Nat.le_refl _) (by first | decide | exact bI_01 _) ?_
    first | exact zq q (by rw [show jState x = true from decide_eq_true (by omega)]; rfl) | exact zq q (by rw [show jState x = false from decide_eq_false (by omega)]; rfl)
  · refine z_iload 5 rfl rfl rfl ?_
    refine z_push 6 (nI 4) rfl rfl rfl ?_
    first | refine z_nge 9 rfl rfl (by omega) (by omega) (fun hc6 => ?_) (fun hc6 => ?_) | refine z_kge 9 rfl rfl (by omega) (fun hc6 => ?_) (fun hc6 => ?_) | refine z_hge 9 rfl rfl (by omega) (fun hc6 => ?_) (fun hc6 => ?_) | refine z_tge 9 rfl rfl (fun hc6 => ?_) (fun hc6 => ?_)
    · refine z_push 14 (nI 0) rfl rfl rfl ?_
      refine z_iretb rfl (Nat.le_refl _) (Nat.le_refl _) (by first | decide | exact bI_01 _) ?_
      first | exact zq q (by rw [show jState x = true from decide_eq_true (by omega)]; rfl) | exact zq q (by rw [show jState x = false from decide_eq_false (by omega)]; rfl)
    · refine z_push 10 (nI 1) rfl rfl rfl ?_
      refine z_goto rfl ?_
      refine z_iretb rfl (Nat.le_refl _) (Nat.le_refl _) (by first | decide | exact bI_01 _) ?_
      first | exact zq q (by rw [show jState x = true from decide_eq_true (by omega)]; rfl) | exact zq q (by rw [show jState x = false from decide_eq_false (by omega)]; rfl)
def jIn (x y z : Int32) : Bool := decide (y.toInt ≤ x.toInt ∧ x.toInt ≤ z.toInt)
set_option maxRecDepth 10000 in
theorem r_in {d : Nat} {h : mH} {x y z : Int32} {Q : mP} (q : Q (some (.int (bI (jIn x y z)))) h) : mWP (d + 1) 173 [.int x, .int y, .int z] h Q := by
  refine z_in [some (.int x), some (.int y), some (.int z)] (by rfl) rfl rfl rfl ?_
  refine z_iload 1 rfl rfl rfl ?_
  refine z_iload 2 rfl rfl rfl ?_
  first | refine z_nlt 5 rfl rfl (by omega) (by omega) (fun hc2 => ?_) (fun hc2 => ?_) | refine z_klt 5 rfl rfl (by omega) (fun hc2 => ?_) (fun hc2 => ?_) | refine z_hlt 5 rfl rfl (by omega) (fun hc2 => ?_) (fun hc2 => ?_) | refine z_tlt 5 rfl rfl (fun hc2 => ?_) (fun hc2 => ?_)
  · refine z_push 15 (nI 0) rfl rfl rfl ?_
    refine z_iretb rfl (Nat.le_refl _) (Nat.le_refl _) (by first | decide | exact bI_01 _) ?_
    first | exact zq q (by rw [show jIn x y z = true from decide_eq_true (by omega)]; rfl) | exact zq q (by rw [show jIn x y z = false from decide_eq_false (by omega)]; rfl)
  · refine z_iload 6 rfl rfl rfl ?_
    refine z_iload 7 rfl rfl rfl ?_
    first | refine z_ngt 10 rfl rfl (by omega) (by omega) (fun hc7 => ?_) (fun hc7 => ?_) | refine z_kgt 10 rfl rfl (by omega) (fun hc7 => ?_) (fun hc7 => ?_) | refine z_hgt 10 rfl rfl (by omega) (fun hc7 => ?_) (fun hc7 => ?_) | refine z_tgt 10 rfl rfl (fun hc7 => ?_) (fun hc7 => ?_)
    · refine z_push 15 (nI 0) rfl rfl rfl ?_
      refine z_iretb rfl (Nat.le_refl _) (Nat.le_refl _) (by first | decide | exact bI_01 _) ?_
      first | exact zq q (by rw [show jIn x y z = true from decide_eq_true (by omega)]; rfl) | exact zq q (by rw [show jIn x y z = false from decide_eq_false (by omega)]; rfl)
    · refine z_push 11 (nI 1) rfl rfl rfl ?_
      refine z_goto rfl ?_
      refine z_iretb rfl (Nat.le_refl _) (Nat.le_refl _) (by first | decide | exact bI_01 _) ?_
      first | exact zq q (by rw [show jIn x y z = true from decide_eq_true (by omega)]; rfl) | exact zq q (by rw [show jIn x y z = false from decide_eq_false (by omega)]; rfl)
end
section
/-! Row, further -/
theorem mSet_id {h : mH} {a : Nat} {e : mC} (ha : h.2 a = e) : mSet h a e = h := by
  obtain ⟨n, f⟩ := h
  simp only [mSet]
  congr 1
  funext k
  by_cases hk : k = a
  · subst hk; rw [if_pos rfl]; exact ha.symm
  · rw [if_neg hk]
theorem mSet_ss (h : mH) (a : Nat) (e e' : mC) : mSet (mSet h a e) a e' = mSet h a e' := by
  simp only [mSet]
  congr 1
  funext k
  by_cases hk : k = a <;> simp [hk]
theorem mSet_cm {h : mH} {a b : Nat} (hab : a ≠ b) (e e' : mC) : mSet (mSet h a e) b e' = mSet (mSet h b e') a e := by
  simp only [mSet]
  congr 1
  funext k
  by_cases hk : k = a
  · subst hk; simp [hab]
  · simp [hk]
/-- two cells written again -/
theorem mSet_2 {h : mH} {a b : Nat} (hab : a ≠ b) (e1 e2 e3 e4 : mC) : mSet (mSet (mSet (mSet h a e1) b e2) a e3) b e4 = mSet (mSet h a e3) b e4 := by
  rw [mSet_cm (Ne.symm hab) e2 e3, mSet_ss, mSet_ss]
theorem mg_apart {h : mH} {a b : Nat} {e e' : mC} (ha : h.2 a = e) (hb : h.2 b = e') (hn : e ≠ e') : a ≠ b := fun q => hn (by rw [← ha, ← hb, q])
def byt (x : Int32) (k : Nat) : Int32 := nI (x.toBitVec.toNat / 2 ^ (8 * k) % 256)
theorem byt_ok (x : Int32) {k : Nat} (hk : k < 4) : mBop 3 (mBop 8 x (nI (8 * k))) (nI 255) = byt x k := by
  show _ &&& _ = _
  rw [pk_and _ 8 (by decide)]
  show nI ((x.toUInt32 >>> ((nI (8 * k)).toUInt32 &&& Int32.toUInt32 31)).toInt32.toBitVec.toNat % 2 ^ 8) = _
  rw [pk_ushr x (nI (8 * k)) (8 * k) (by
    have : k = 0 ∨ k = 1 ∨ k = 2 ∨ k = 3 := by omega
    rcases this with rfl | rfl | rfl | rfl <;> decide)]
  rfl
/-- len bytes of x behind the first c -/
def addN (f : Nat → Int32) (c : Nat) (x : Int32) (len i : Nat) : Nat → Int32 := fun j => if c ≤ j ∧ j < c + i then byt x (len - 1 - (j - c)) else f j
theorem addN_0 (f : Nat → Int32) (c : Nat) (x : Int32) (len : Nat) : addN f c x len 0 = f := by
  funext j
  simp only [addN]
  rw [if_neg (by omega)]
theorem addN_s (f : Nat → Int32) (c : Nat) (x : Int32) (len i : Nat) : upd (addN f c x len i) (c + i) (byt x (len - 1 - i)) = addN f c x len (i + 1) := by
  funext j
  simp only [addN, upd]
  by_cases hj : j = c + i
  · subst hj
    rw [if_pos rfl, if_pos (by omega), show c + i - c = i by omega]
  · rw [if_neg hj]
    by_cases h2 : c ≤ j ∧ j < c + i
    · rw [if_pos h2, if_pos (by omega)]
    · rw [if_neg h2, if_neg (by omega)]
set_option maxRecDepth 10000 in
theorem c_Row_addAll {d : Nat} {h : mH} {r v n c r2 v2 n2 c2 : Nat} {f g : Nat → Int32} {Q : mP} (h1 : h.2 r = oRow v (nI c)) (h2 : h.2 v = aI n f) (h3 : h.2 r2 = oRow v2 (nI c2)) (h4 : h.2 v2 = aI n2 g) (hn : n < 2 ^ 31) (hn2 : n2 < 2 ^ 31) (hc : c ≤ n) (hc2 : c2 ≤ n2) (q1 : c + c2 ≤ n → Q (some (.int 1)) (mSet (mSet h v (aI n (va_cpy g f 0 c c2))) r (oRow v (nI (c + c2))))) (q0 : n < c + c2 → Q (some (.int 0)) h) : mWP (d + 1) 73 [.ref r, .ref r2] h Q := by
  refine z_in [some (.ref r), some (.ref r2)] (by rfl) rfl rfl rfl ?_
  refine z_aload 1 rfl rfl rfl ?_
  refine z_get 4 rfl rfl (by first | exact h1 | exact h2 | exact h3 | exact h4 | exact mg_k h1 h2 (by simp) | exact mg_k h3 h2 (by simp)) rfl ?_
  refine z_aload 5 rfl rfl rfl ?_
  refine z_get 8 rfl rfl (by first | exact h1 | exact h2 | exact h3 | exact h4 | exact mg_k h1 h2 (by simp) | exact mg_k h3 h2 (by simp)) rfl ?_
  refine z_alen 9 rfl rfl (by first | exact h1 | exact h2 | exact h3 | exact h4 | exact mg_k h1 h2 (by simp) | exact mg_k h3 h2 (by simp)) (by decide) ?_
  refine z_aload 10 rfl rfl rfl ?_
  refine z_get 13 rfl rfl (by first | exact h1 | exact h2 | exact h3 | exact h4 | exact mg_k h1 h2 (by simp) | exact mg_k h3 h2 (by simp)) rfl ?_
  refine z_bop 14 _ rfl rfl (by first | with_reducible exact zb_1 (by omega) | exact zd_1 _ _) ?_
  first | refine z_nle 17 rfl rfl (by omega) (by omega) (fun hc14 => ?_) (fun hc14 => ?_) | refine z_kle 17 rfl rfl (by omega) (fun hc14 => ?_) (fun hc14 => ?_) | refine z_hle 17 rfl rfl (by omega) (fun hc14 => ?_) (fun hc14 => ?_) | refine z_tle 17 rfl rfl (fun hc14 => ?_) (fun hc14 => ?_)
  · refine z_aload 20 rfl rfl rfl ?_
    refine z_get 23 rfl rfl (by first | exact h1 | exact h2 | exact h3 | exact h4 | exact mg_k h1 h2 (by simp) | exact mg_k h3 h2 (by simp)) rfl ?_
    refine z_push 24 (nI 0) rfl rfl rfl ?_
    refine z_aload 25 rfl rfl rfl ?_
    refine z_get 28 rfl rfl (by first | exact h1 | exact h2 | exact h3 | exact h4 | exact mg_k h1 h2 (by simp) | exact mg_k h3 h2 (by simp)) rfl ?_
    refine z_aload 29 rfl rfl rfl ?_
    refine z_get 32 rfl rfl (by first | exact h1 | exact h2 | exact h3 | exact h4 | exact mg_k h1 h2 (by simp) | exact mg_k h3 h2 (by simp)) rfl ?_
    refine z_aload 33 rfl rfl rfl ?_
    refine z_get 36 rfl rfl (by first | exact h1 | exact h2 | exact h3 | exact h4 | exact mg_k h1 h2 (by simp) | exact mg_k h3 h2 (by simp)) rfl ?_
    refine z_copy 39 rfl rfl rfl (by first | exact h1 | exact h2 | exact h3 | exact h4 | exact mg_k h1 h2 (by simp) | exact mg_k h3 h2 (by simp)) (by first | exact h1 | exact h2 | exact h3 | exact h4 | exact mg_k h1 h2 (by simp) | exact mg_k h3 h2 (by simp)) rfl rfl rfl (by omega) (by omega) (by omega) (by omega) ?_
    refine z_aload 40 rfl rfl rfl ?_
    first | refine z_dup 41 rfl rfl ?_ | refine z_dupi 41 rfl rfl ?_
    refine z_get 44 rfl rfl (by first | exact h1 | exact h2 | exact h3 | exact h4 | exact mg_k h1 h2 (by simp) | exact mg_k h3 h2 (by simp)) rfl ?_
    refine z_aload 45 rfl rfl rfl ?_
    refine z_get 48 rfl rfl (by first | exact h1 | exact h2 | exact h3 | exact h4 | exact mg_k h1 h2 (by simp) | exact mg_k h3 h2 (by simp)) rfl ?_
    refine z_bop 49 _ rfl rfl (by first | with_reducible exact zb_0 _ _ | exact zd_0 _ _) ?_
    refine z_put 52 rfl rfl (by first | exact h1 | exact h2 | exact h3 | exact h4 | exact mg_k h1 h2 (by simp) | exact mg_k h3 h2 (by simp)) rfl (mFi rfl) ?_
    refine z_push 53 (nI 1) rfl rfl rfl ?_
    refine z_iretb rfl (Nat.le_refl _) (Nat.le_refl _) (by first | decide | exact bI_01 _) ?_
    first | exact q0 (by omega) | exact q1 (by omega)
  · refine z_push 18 (nI 0) rfl rfl rfl ?_
    refine z_iretb rfl (Nat.le_refl _) (Nat.le_refl _) (by first | decide | exact bI_01 _) ?_
    first | exact q0 (by omega) | exact q1 (by omega)
set_option maxRecDepth 10000 in
theorem c_Row_addNumber {d : Nat} {h : mH} {r v n c len : Nat} {f : Nat → Int32} {x : Int32} {Q : mP} (h1 : h.2 r = oRow v (nI c)) (h2 : h.2 v = aI n f) (hn : n < 2 ^ 31) (hl : len ≤ 4) (hc : c + len ≤ n) (q : Q none (mSet (mSet h v (aI n (addN f c x len len))) r (oRow v (nI (c + len))))) : mWP (d + 1) 74 [.ref r, .int x, .int (nI len)] h Q := by
  have hrv : v ≠ r := mg_apart h2 h1 (by simp)
  have loop : ∀ k i, i + k = len → mZ d tk_74 0 0 Q 4 [some (.ref r), some (.int x), some (.int (nI len)), some (.int (nI k - 1))] [] (mSet (mSet h v (aI n (addN f c x len i))) r (oRow v (nI (c + i)))) 0 0 := by
    intro k
    induction k with
    | zero =>
      intro i hi
      obtain rfl : i = len := by omega
      refine z_iload 5 rfl rfl rfl ?_
      refine z_jlt 8 rfl rfl (fun hc5 => ?_) (fun hc5 => ?_)
      · refine z_vret rfl (Nat.le_refl _) (Nat.le_refl _) ?_
        exact q
      · exact absurd hc5 (by decide)
    | succ k ih =>
      intro i hi
      rw [nI_pred]
      have e1 : (mSet (mSet h v (aI n (addN f c x len i))) r (oRow v (nI (c + i)))).2 r = oRow v (nI (c + i)) := mg_eq _ _ _
      have e2 : (mSet (mSet h v (aI n (addN f c x len i))) r (oRow v (nI (c + i)))).2 v = aI n (addN f c x len i) := mg_ne hrv (mg_eq _ _ _)
      refine z_iload 5 rfl rfl rfl ?_
      first | refine z_zlt 8 rfl rfl (by omega) (fun hc5 => ?_) (fun hc5 => ?_) | refine z_jlt 8 rfl rfl (fun hc5 => ?_) (fun hc5 => ?_)
      · refine z_vret rfl (Nat.le_refl _) (Nat.le_refl _) ?_
        exact absurd hc5 (by omega)
      · refine z_aload 9 rfl rfl rfl ?_
        refine z_get 12 rfl rfl (by first | exact e1 | exact e2 | exact mg_k e1 e2 (by simp)) rfl ?_
        refine z_aload 13 rfl rfl rfl ?_
        refine z_get 16 rfl rfl (by first | exact e1 | exact e2 | exact mg_k e1 e2 (by simp)) rfl ?_
        refine z_alen 17 rfl rfl (by first | exact e1 | exact e2 | exact mg_k e1 e2 (by simp)) (by decide) ?_
        first | refine z_nge 20 rfl rfl (by omega) (by omega) (fun hc17 => ?_) (fun hc17 => ?_) | refine z_kge 20 rfl rfl (by omega) (fun hc17 => ?_) (fun hc17 => ?_) | refine z_hge 20 rfl rfl (by omega) (fun hc17 => ?_) (fun hc17 => ?_) | refine z_tge 20 rfl rfl (fun hc17 => ?_) (fun hc17 => ?_)
        · refine z_vret rfl (Nat.le_refl _) (Nat.le_refl _) ?_
          exact absurd hc5 (by omega)
        · refine z_aload 21 rfl rfl rfl ?_
          refine z_get 24 rfl rfl (by first | exact e1 | exact e2 | exact mg_k e1 e2 (by simp)) rfl ?_
          refine z_aload 25 rfl rfl rfl ?_
          refine z_get 28 rfl rfl (by first | exact e1 | exact e2 | exact mg_k e1 e2 (by simp)) rfl ?_
          refine z_iload 29 rfl rfl rfl ?_
          refine z_push 31 (nI 8) rfl rfl rfl ?_
          refine z_iload 32 rfl rfl rfl ?_
          refine z_bop 33 _ rfl rfl (by first | with_reducible exact zb_2 _ _ | exact zd_2 _ _) ?_
          refine z_bop 34 _ rfl rfl (zd_8 _ _) ?_
          refine z_push 37 (nI 255) rfl rfl rfl ?_
          refine z_bop 38 _ rfl rfl (byt_ok x (by omega)) ?_
          refine z_ast 39 rfl rfl (by first | exact e1 | exact e2 | exact mg_k e1 e2 (by simp)) rfl (by omega) (by omega) ?_
          refine z_aload 40 rfl rfl rfl ?_
          first | refine z_dup 41 rfl rfl ?_ | refine z_dupi 41 rfl rfl ?_
          refine z_get 44 rfl rfl (by first | exact e1 | exact e2 | exact mg_k e1 e2 (by simp)) rfl ?_
          refine z_push 45 (nI 1) rfl rfl rfl ?_
          refine z_bop 46 _ rfl rfl (by first | with_reducible exact zb_0 _ _ | exact zd_0 _ _) ?_
          refine z_put 49 rfl rfl (by first | exact e1 | exact e2 | exact mg_k e1 e2 (by simp)) rfl (mFi rfl) ?_
          refine z_iinc 52 _ rfl rfl rfl rfl (by show nI k + -1 = nI k - 1; rw [Int32.sub_eq_add_neg]) ?_
          refine z_goto rfl ?_
          have h9 := ih (i + 1) (by omega)
          rw [← addN_s f c x len i, ← mSet_2 hrv (aI n (addN f c x len i)) (oRow v (nI (c + i)))] at h9
          rw [show len - 1 - i = k by omega] at h9
          exact h9
  refine z_in [some (.ref r), some (.int x), some (.int (nI len)), none] (by rfl) rfl rfl rfl ?_
  refine z_iload 1 rfl rfl rfl ?_
  refine z_push 2 1 rfl rfl rfl ?_
  refine z_bop 3 _ rfl rfl (zd_1 _ _) ?_
  refine z_istore 4 rfl rfl rfl rfl ?_
  have h9 := loop len 0 (by omega)
  rw [addN_0, mSet_id h2, Nat.add_zero, mSet_id h1] at h9
  exact h9
end
section
/-! Row: points, numbers; joined, lowHalvesOf, isPoint, isText -/
def uN9 (p : Nat) : Nat := if p < 65536 then 1 else 2
/-- a point's units behind the first c -/
def addU (f : Nat → Int32) (c p : Nat) : Nat → Int32 := if p < 65536 then upd f c (nI p) else upd (upd f c (nI (55296 + (p - 65536) / 1024))) (c + 1) (nI (56320 + (p - 65536) % 1024))
def joinI (x y : Int32) : Int32 := nI 65536 + (x - nI 55296) * nI 1024 + (y - nI 56320)
def packN (f : Nat → Int32) (a : Nat) : Nat → Int32
  | 0 => 0
  | k + 1 => (packN f a k <<< (nI 8 &&& 31)) ||| f (a + k)
def ptAt (f : Nat → Int32) (c a : Nat) : Int32 := if jHalf (f a) = true then (if jHigh (f a) = true ∧ a + 1 < c ∧ jLow (f (a + 1)) = true then joinI (f a) (f (a + 1)) else -1) else f a
def jPoint (x : Int32) : Bool := decide (0 ≤ x.toInt ∧ x.toInt ≤ 1114111) && !jHalf x
def jLh (x : Int32) : Int32 := if x.toInt < 65536 then 0 else 1
set_option maxRecDepth 10000 in
theorem c_joined {d : Nat} {h : mH} {x y : Int32} {Q : mP} (q : Q (some (.int (joinI x y))) h) : mWP (d + 1) 143 [.int x, .int y] h Q := by
  refine z_in [some (.int x), some (.int y)] (by rfl) rfl rfl rfl ?_
  refine z_push 3 (nI 65536) rfl rfl rfl ?_
  refine z_iload 4 rfl rfl rfl ?_
  refine z_push 7 (nI 55296) rfl rfl rfl ?_
  refine z_bop 8 _ rfl rfl (by first | with_reducible exact zb_1 (by omega) | exact zd_1 _ _) ?_
  refine z_push 11 (nI 1024) rfl rfl rfl ?_
  refine z_bop 12 _ rfl rfl (by first | with_reducible exact zb_2 _ _ | exact zd_2 _ _) ?_
  refine z_bop 13 _ rfl rfl (by first | with_reducible exact zb_0 _ _ | exact zd_0 _ _) ?_
  refine z_iload 14 rfl rfl rfl ?_
  refine z_push 17 (nI 56320) rfl rfl rfl ?_
  refine z_bop 18 _ rfl rfl (by first | with_reducible exact zb_1 (by omega) | exact zd_1 _ _) ?_
  refine z_bop 19 _ rfl rfl (by first | with_reducible exact zb_0 _ _ | exact zd_0 _ _) ?_
  refine z_ireti rfl (Nat.le_refl _) (Nat.le_refl _) ?_
  exact q
set_option maxRecDepth 10000 in
theorem c_lowHalvesOf {d : Nat} {h : mH} {x : Int32} {Q : mP} (q : Q (some (.int (jLh x))) h) : mWP (d + 1) 144 [.int x] h Q := by
  refine z_in [some (.int x)] (by rfl) rfl rfl rfl ?_
  refine z_iload 1 rfl rfl rfl ?_
  refine z_push 4 (nI 65536) rfl rfl rfl ?_
  first | refine z_nge 7 rfl rfl (by omega) (by omega) (fun hc4 => ?_) (fun hc4 => ?_) | refine z_kge 7 rfl rfl (by omega) (fun hc4 => ?_) (fun hc4 => ?_) | refine z_hge 7 rfl rfl (by omega) (fun hc4 => ?_) (fun hc4 => ?_) | refine z_tge 7 rfl rfl (fun hc4 => ?_) (fun hc4 => ?_)
  · refine z_push 12 (nI 1) rfl rfl rfl ?_
    refine z_ireti rfl (Nat.le_refl _) (Nat.le_refl _) ?_
    first | exact zq q (by rw [show jLh x = 0 from if_pos (by omega)]; rfl) | exact zq q (by rw [show jLh x = 1 from if_neg (by omega)]; rfl)
  · refine z_push 8 (nI 0) rfl rfl rfl ?_
    refine z_goto rfl ?_
    refine z_ireti rfl (Nat.le_refl _) (Nat.le_refl _) ?_
    first | exact zq q (by rw [show jLh x = 0 from if_pos (by omega)]; rfl) | exact zq q (by rw [show jLh x = 1 from if_neg (by omega)]; rfl)
set_option maxRecDepth 10000 in
theorem c_isPoint {d : Nat} {h : mH} {x : Int32} {Q : mP} (q : Q (some (.int (bI (jPoint x)))) h) : mWP (d + 2) 145 [.int x] h Q := by
  refine z_in [some (.int x)] (by rfl) rfl rfl rfl ?_
  refine z_iload 1 rfl rfl rfl ?_
  first | refine z_zlt 4 rfl rfl (by omega) (fun hc1 => ?_) (fun hc1 => ?_) | refine z_jlt 4 rfl rfl (fun hc1 => ?_) (fun hc1 => ?_)
  · refine z_push 23 (nI 0) rfl rfl rfl ?_
    refine z_iretb rfl (Nat.le_refl _) (Nat.le_refl _) (by first | decide | exact bI_01 _) ?_
    first | exact zq q (by rw [show jPoint x = true by rw [jPoint, hc15, decide_eq_true (by omega)]; rfl]; rfl) | exact zq q (by rw [show jPoint x = false by rw [jPoint, decide_eq_false (by omega)]; rfl]; rfl) | exact zq q (by rw [show jPoint x = false by rw [jPoint, hc15]; simp]; rfl)
  · refine z_iload 5 rfl rfl rfl ?_
    refine z_push 8 (nI 1114111) rfl rfl rfl ?_
    first | refine z_ngt 11 rfl rfl (by omega) (by omega) (fun hc8 => ?_) (fun hc8 => ?_) | refine z_kgt 11 rfl rfl (by omega) (fun hc8 => ?_) (fun hc8 => ?_) | refine z_hgt 11 rfl rfl (by omega) (fun hc8 => ?_) (fun hc8 => ?_) | refine z_tgt 11 rfl rfl (fun hc8 => ?_) (fun hc8 => ?_)
    · refine z_push 23 (nI 0) rfl rfl rfl ?_
      refine z_iretb rfl (Nat.le_refl _) (Nat.le_refl _) (by first | decide | exact bI_01 _) ?_
      first | exact zq q (by rw [show jPoint x = true by rw [jPoint, hc15, decide_eq_true (by omega)]; rfl]; rfl) | exact zq q (by rw [show jPoint x = false by rw [jPoint, decide_eq_false (by omega)]; rfl]; rfl) | exact zq q (by rw [show jPoint x = false by rw [jPoint, hc15]; simp]; rfl)
    · refine z_iload 12 rfl rfl rfl ?_
      refine z_cs 15 _ rfl rfl rfl rfl rfl rfl (Nat.le_refl _) (Nat.le_refl _) ?_
      refine c_isHalf ?_
      first | refine z_bne 18 rfl rfl (fun hc15 => ?_) (fun hc15 => ?_) | refine z_zne 18 rfl rfl (by omega) (fun hc15 => ?_) (fun hc15 => ?_) | refine z_jne 18 rfl rfl (fun hc15 => ?_) (fun hc15 => ?_)
      · refine z_push 23 (nI 0) rfl rfl rfl ?_
        refine z_iretb rfl (Nat.le_refl _) (Nat.le_refl _) (by first | decide | exact bI_01 _) ?_
        first | exact zq q (by rw [show jPoint x = true by rw [jPoint, hc15, decide_eq_true (by omega)]; rfl]; rfl) | exact zq q (by rw [show jPoint x = false by rw [jPoint, decide_eq_false (by omega)]; rfl]; rfl) | exact zq q (by rw [show jPoint x = false by rw [jPoint, hc15]; simp]; rfl)
      · refine z_push 19 (nI 1) rfl rfl rfl ?_
        refine z_goto rfl ?_
        refine z_iretb rfl (Nat.le_refl _) (Nat.le_refl _) (by first | decide | exact bI_01 _) ?_
        first | exact zq q (by rw [show jPoint x = true by rw [jPoint, hc15, decide_eq_true (by omega)]; rfl]; rfl) | exact zq q (by rw [show jPoint x = false by rw [jPoint, decide_eq_false (by omega)]; rfl]; rfl) | exact zq q (by rw [show jPoint x = false by rw [jPoint, hc15]; simp]; rfl)
set_option maxRecDepth 10000 in
theorem c_Row_addPoint {d : Nat} {h : mH} {r v n c p : Nat} {f : Nat → Int32} {Q : mP} (h1 : h.2 r = oRow v (nI c)) (h2 : h.2 v = aI n f) (hn : n < 2 ^ 31) (hp : p < 1114112) (hc : c + uN9 p ≤ n) (q : Q none (mSet (mSet h v (aI n (addU f c p))) r (oRow v (nI (c + uN9 p))))) : mWP (d + 2) 75 [.ref r, .int (nI p)] h Q := by
  have hrv : v ≠ r := mg_apart h2 h1 (by simp)
  have hu : (p < 65536 ∧ uN9 p = 1) ∨ (65536 ≤ p ∧ uN9 p = 2) := by unfold uN9; split <;> omega
  refine z_in [some (.ref r), some (.int (nI p))] (by rfl) rfl rfl rfl ?_
  refine z_iload 1 rfl rfl rfl ?_
  refine z_push 3 (nI 65536) rfl rfl rfl ?_
  first | refine z_nge 6 rfl rfl (by omega) (by omega) (fun hc3 => ?_) (fun hc3 => ?_) | refine z_kge 6 rfl rfl (by omega) (fun hc3 => ?_) (fun hc3 => ?_) | refine z_hge 6 rfl rfl (by omega) (fun hc3 => ?_) (fun hc3 => ?_) | refine z_tge 6 rfl rfl (fun hc3 => ?_) (fun hc3 => ?_)
  · refine z_aload 16 rfl rfl rfl ?_
    refine z_push 18 (nI 55296) rfl rfl rfl ?_
    refine z_iload 19 rfl rfl rfl ?_
    refine z_push 21 (nI 65536) rfl rfl rfl ?_
    refine z_bop 22 _ rfl rfl (by first | with_reducible exact zb_1 (by omega) | exact zd_1 _ _) ?_
    refine z_push 25 (nI 1024) rfl rfl rfl ?_
    refine z_idiv 26 _ rfl rfl (by decide) (pk_div (by omega) (by omega) (by omega)) ?_
    refine z_bop 27 _ rfl rfl (by first | with_reducible exact zb_0 _ _ | exact zd_0 _ _) ?_
    refine z_cv 30 _ rfl rfl rfl rfl (by first | exact h1 | exact h2 | exact e1) rfl rfl (Nat.le_refl _) (Nat.le_refl _) ?_
    refine c_Row_add h1 h2 hn (by omega) (fun _ => ?_) (fun h9 => absurd h9 (by omega))
    have e1 : (mSet (mSet h v (aI n (upd f c (nI (55296 + (p - 65536) / 1024))))) r (oRow v (nI (c + 1)))).2 r = oRow v (nI (c + 1)) := mg_eq _ _ _
    have e2 : (mSet (mSet h v (aI n (upd f c (nI (55296 + (p - 65536) / 1024))))) r (oRow v (nI (c + 1)))).2 v = aI n (upd f c (nI (55296 + (p - 65536) / 1024))) := mg_ne hrv (mg_eq _ _ _)
    refine z_pop 31 rfl rfl ?_
    refine z_aload 32 rfl rfl rfl ?_
    refine z_push 34 (nI 56320) rfl rfl rfl ?_
    refine z_iload 35 rfl rfl rfl ?_
    refine z_push 37 (nI 65536) rfl rfl rfl ?_
    refine z_bop 38 _ rfl rfl (by first | with_reducible exact zb_1 (by omega) | exact zd_1 _ _) ?_
    refine z_push 41 (nI 1024) rfl rfl rfl ?_
    refine z_irem 42 _ rfl rfl (by decide) (pk_rem (by omega) (by omega) (by omega)) ?_
    refine z_bop 43 _ rfl rfl (by first | with_reducible exact zb_0 _ _ | exact zd_0 _ _) ?_
    refine z_cv 46 _ rfl rfl rfl rfl (by first | exact h1 | exact h2 | exact e1) rfl rfl (Nat.le_refl _) (Nat.le_refl _) ?_
    refine c_Row_add e1 e2 hn (by omega) (fun _ => ?_) (fun h9 => absurd h9 (by omega))
    refine z_pop 47 rfl rfl ?_
    refine z_vret rfl (Nat.le_refl _) (Nat.le_refl _) ?_
    first
    | (simp only [addU, uN9, if_pos (show p < 65536 by omega)] at q; exact q)
    | (simp only [addU, uN9, if_neg (show ¬ p < 65536 by omega)] at q; rw [mSet_2 hrv]; exact q)
  · refine z_aload 7 rfl rfl rfl ?_
    refine z_iload 8 rfl rfl rfl ?_
    refine z_cv 11 _ rfl rfl rfl rfl (by first | exact h1 | exact h2 | exact e1) rfl rfl (Nat.le_refl _) (Nat.le_refl _) ?_
    refine c_Row_add h1 h2 hn (by omega) (fun _ => ?_) (fun h9 => absurd h9 (by omega))
    refine z_pop 12 rfl rfl ?_
    refine z_goto rfl ?_
    refine z_vret rfl (Nat.le_refl _) (Nat.le_refl _) ?_
    first
    | (simp only [addU, uN9, if_pos (show p < 65536 by omega)] at q; exact q)
    | (simp only [addU, uN9, if_neg (show ¬ p < 65536 by omega)] at q; rw [mSet_2 hrv]; exact q)
set_option maxRecDepth 10000 in
theorem c_packed {d : Nat} {h : mH} {v n a k : Nat} {f : Nat → Int32} {Q : mP} (h2 : h.2 v = aI n f) (hn : n < 2 ^ 31) (ha : a + k ≤ n) (q : Q (some (.int (packN f a k))) h) : mWP (d + 1) 77 [.ref v, .int (nI a), .int (nI k)] h Q := by
  have loop : ∀ m i, i + m = k → mZ d tk_77 0 0 Q 5 [some (.ref v), some (.int (nI a)), some (.int (nI k)), some (.int (packN f a i)), some (.int (nI (a + i)))] [] h 0 0 := by
    intro m
    induction m with
    | zero =>
      intro i hi
      obtain rfl : i = k := by omega
      refine z_iload 7 rfl rfl rfl ?_
      refine z_iload 8 rfl rfl rfl ?_
      refine z_iload 9 rfl rfl rfl ?_
      refine z_bop 10 _ rfl rfl (nI_add _ _) ?_
      refine z_nge 13 rfl rfl (by omega) (by omega) (fun hc10 => ?_) (fun hc10 => absurd hc10 (by omega))
      refine z_iload 37 rfl rfl rfl ?_
      refine z_ireti rfl (Nat.le_refl _) (Nat.le_refl _) ?_
      exact q
    | succ m ih =>
      intro i hi
      refine z_iload 7 rfl rfl rfl ?_
      refine z_iload 8 rfl rfl rfl ?_
      refine z_iload 9 rfl rfl rfl ?_
      refine z_bop 10 _ rfl rfl (by first | with_reducible exact zb_0 _ _ | exact zd_0 _ _) ?_
      first | refine z_nge 13 rfl rfl (by omega) (by omega) (fun hc10 => ?_) (fun hc10 => ?_) | refine z_kge 13 rfl rfl (by omega) (fun hc10 => ?_) (fun hc10 => ?_) | refine z_hge 13 rfl rfl (by omega) (fun hc10 => ?_) (fun hc10 => ?_) | refine z_tge 13 rfl rfl (fun hc10 => ?_) (fun hc10 => ?_)
      · refine z_iload 37 rfl rfl rfl ?_
        refine z_ireti rfl (Nat.le_refl _) (Nat.le_refl _) ?_
        exact absurd hc10 (by omega)
      · refine z_iload 15 rfl rfl rfl ?_
        refine z_aload 16 rfl rfl rfl ?_
        refine z_alen 17 rfl rfl h2 (by decide) ?_
        first | refine z_nge 20 rfl rfl (by omega) (by omega) (fun hc17 => ?_) (fun hc17 => ?_) | refine z_kge 20 rfl rfl (by omega) (fun hc17 => ?_) (fun hc17 => ?_) | refine z_hge 20 rfl rfl (by omega) (fun hc17 => ?_) (fun hc17 => ?_) | refine z_tge 20 rfl rfl (fun hc17 => ?_) (fun hc17 => ?_)
        · refine z_iload 37 rfl rfl rfl ?_
          refine z_ireti rfl (Nat.le_refl _) (Nat.le_refl _) ?_
          exact absurd hc10 (by omega)
        · refine z_iload 21 rfl rfl rfl ?_
          refine z_push 23 (nI 8) rfl rfl rfl ?_
          refine z_bop 24 _ rfl rfl (zd_6 _ _) ?_
          refine z_aload 25 rfl rfl rfl ?_
          refine z_iload 27 rfl rfl rfl ?_
          refine z_ald 28 rfl rfl h2 rfl (by omega) (by omega) ?_
          refine z_bop 29 _ rfl rfl (zd_4 _ _) ?_
          refine z_istore 30 rfl rfl rfl rfl ?_
          refine z_iinc 33 _ rfl rfl rfl rfl (by first | with_reducible exact zi_1 _ | rfl) ?_
          refine z_goto rfl ?_
          exact ih (i + 1) (by omega)
  refine z_in [some (.ref v), some (.int (nI a)), some (.int (nI k)), none, none] (by rfl) rfl rfl rfl ?_
  refine z_push 1 (nI 0) rfl rfl rfl ?_
  refine z_istore 2 rfl rfl rfl rfl ?_
  refine z_iload 3 rfl rfl rfl ?_
  refine z_istore 5 rfl rfl rfl rfl ?_
  exact loop k 0 (by omega)
end
section
/-! Row: numberAt, pointAt, isSame; isText; Found -/
theorem zqo {Q : mP} {h : mH} {x y : Int32} (e : x = y) (q : Q (some (.int x)) h) : Q (some (.int y)) h := by rw [← e]; exact q
set_option maxRecDepth 10000 in
theorem c_Row_numberAt {d : Nat} {h : mH} {r v n c a k : Nat} {f : Nat → Int32} {Q : mP} (h1 : h.2 r = oRow v (nI c)) (h2 : h.2 v = aI n f) (hn : n < 2 ^ 31) (hc : c ≤ n) (ha : a ≤ c) (hk : k < 2 ^ 31) (q : a + k ≤ c → Q (some (.int (packN f a k))) h) (q0 : c < a + k → Q (some (.int (-1))) h) : mWP (d + 2) 76 [.ref r, .int (nI a), .int (nI k)] h Q := by
  refine z_in [some (.ref r), some (.int (nI a)), some (.int (nI k))] (by rfl) rfl rfl rfl ?_
  refine z_iload 1 rfl rfl rfl ?_
  first | refine z_zlt 4 rfl rfl (by omega) (fun hc1 => ?_) (fun hc1 => ?_) | refine z_jlt 4 rfl rfl (fun hc1 => ?_) (fun hc1 => ?_)
  · first | skip | exact absurd hc1 (by omega)
    refine z_push 27 (-1) rfl rfl rfl ?_
    refine z_ireti rfl (Nat.le_refl _) (Nat.le_refl _) ?_
    first | exact q (by omega) | exact q0 (by omega) | exact absurd hc1 (by omega)
  · refine z_iload 5 rfl rfl rfl ?_
    refine z_aload 6 rfl rfl rfl ?_
    refine z_get 9 rfl rfl h1 rfl ?_
    refine z_iload 10 rfl rfl rfl ?_
    refine z_bop 11 _ rfl rfl (by first | with_reducible exact zb_1 (by omega) | exact zd_1 _ _) ?_
    first | refine z_ngt 14 rfl rfl (by omega) (by omega) (fun hc11 => ?_) (fun hc11 => ?_) | refine z_kgt 14 rfl rfl (by omega) (fun hc11 => ?_) (fun hc11 => ?_) | refine z_hgt 14 rfl rfl (by omega) (fun hc11 => ?_) (fun hc11 => ?_) | refine z_tgt 14 rfl rfl (fun hc11 => ?_) (fun hc11 => ?_)
    · first | skip | exact absurd hc1 (by omega)
      refine z_push 27 (-1) rfl rfl rfl ?_
      refine z_ireti rfl (Nat.le_refl _) (Nat.le_refl _) ?_
      first | exact q (by omega) | exact q0 (by omega) | exact absurd hc1 (by omega)
    · refine z_aload 15 rfl rfl rfl ?_
      refine z_get 18 rfl rfl h1 rfl ?_
      refine z_iload 19 rfl rfl rfl ?_
      refine z_iload 20 rfl rfl rfl ?_
      refine z_cs 23 _ rfl rfl rfl rfl rfl rfl (Nat.le_refl _) (Nat.le_refl _) ?_
      refine c_packed h2 hn (by omega) ?_
      refine z_goto rfl ?_
      refine z_ireti rfl (Nat.le_refl _) (Nat.le_refl _) ?_
      first | exact q (by omega) | exact q0 (by omega) | exact absurd hc1 (by omega)
set_option maxRecDepth 10000 in
theorem c_Row_pointAt {d : Nat} {h : mH} {r v n c a : Nat} {f : Nat → Int32} {Q : mP} (h1 : h.2 r = oRow v (nI c)) (h2 : h.2 v = aI n f) (hn : n < 2 ^ 31) (hc : c ≤ n) (ha : a < c) (q : Q (some (.int (ptAt f c a))) h) : mWP (d + 2) 78 [.ref r, .int (nI a)] h Q := by
  refine z_in [some (.ref r), some (.int (nI a)), none, none] (by rfl) rfl rfl rfl ?_
  refine z_iload 1 rfl rfl rfl ?_
  first | refine z_zlt 4 rfl rfl (by omega) (fun hc1 => ?_) (fun hc1 => ?_) | refine z_jlt 4 rfl rfl (fun hc1 => ?_) (fun hc1 => ?_)
  · refine z_push 13 (-1) rfl rfl rfl ?_
    refine z_ireti rfl (Nat.le_refl _) (Nat.le_refl _) ?_
    first
    | exact absurd hc1 (by omega)
    | exact absurd hc9 (by omega)
    | (refine zqo ?_ q; simp [ptAt, hc25]; done)
    | (refine zqo ?_ q; simp [ptAt, hc25, hc34]; done)
    | (refine zqo ?_ q; simp [ptAt, hc25, hc34, show ¬ a + 1 < c by omega]; done)
    | (refine zqo ?_ q; simp [ptAt, hc25, hc34, hc58]; done)
    | (refine zqo ?_ q; simp [ptAt, hc25, hc34, hc58, hc44]; done)
  · refine z_iload 5 rfl rfl rfl ?_
    refine z_aload 6 rfl rfl rfl ?_
    refine z_get 9 rfl rfl (by first | exact h1 | exact h2) rfl ?_
    first | refine z_nlt 12 rfl rfl (by omega) (by omega) (fun hc9 => ?_) (fun hc9 => ?_) | refine z_klt 12 rfl rfl (by omega) (fun hc9 => ?_) (fun hc9 => ?_) | refine z_hlt 12 rfl rfl (by omega) (fun hc9 => ?_) (fun hc9 => ?_) | refine z_tlt 12 rfl rfl (fun hc9 => ?_) (fun hc9 => ?_)
    · refine z_aload 15 rfl rfl rfl ?_
      refine z_get 18 rfl rfl (by first | exact h1 | exact h2) rfl ?_
      refine z_iload 19 rfl rfl rfl ?_
      refine z_ald 20 rfl rfl (by first | exact h1 | exact h2) rfl (by omega) (by omega) ?_
      refine z_istore 21 rfl rfl rfl rfl ?_
      refine z_iload 22 rfl rfl rfl ?_
      refine z_cs 25 _ rfl rfl rfl rfl rfl rfl (Nat.le_refl _) (Nat.le_refl _) ?_
      refine c_isHalf ?_
      first | refine z_bne 28 rfl rfl (fun hc25 => ?_) (fun hc25 => ?_) | refine z_zne 28 rfl rfl (by omega) (fun hc25 => ?_) (fun hc25 => ?_) | refine z_jne 28 rfl rfl (fun hc25 => ?_) (fun hc25 => ?_)
      · refine z_iload 31 rfl rfl rfl ?_
        refine z_cs 34 _ rfl rfl rfl rfl rfl rfl (Nat.le_refl _) (Nat.le_refl _) ?_
        refine c_isHighHalf ?_
        first | refine z_beq 37 rfl rfl (fun hc34 => ?_) (fun hc34 => ?_) | refine z_zeq 37 rfl rfl (by omega) (fun hc34 => ?_) (fun hc34 => ?_) | refine z_jeq 37 rfl rfl (fun hc34 => ?_) (fun hc34 => ?_)
        · refine z_push 66 (nI 0) rfl rfl rfl ?_
          refine z_istore 67 rfl rfl rfl rfl ?_
          refine z_iload 68 rfl rfl rfl ?_
          refine z_zeq 71 rfl rfl (by omega) (fun _ => ?_) (fun h9 => absurd h9 (by omega))
          refine z_push 87 (-1) rfl rfl rfl ?_
          refine z_ireti rfl (Nat.le_refl _) (Nat.le_refl _) ?_
          first
          | exact absurd hc1 (by omega)
          | exact absurd hc9 (by omega)
          | (refine zqo ?_ q; simp [ptAt, hc25]; done)
          | (refine zqo ?_ q; simp [ptAt, hc25, hc34]; done)
          | (refine zqo ?_ q; simp [ptAt, hc25, hc34, show ¬ a + 1 < c by omega]; done)
          | (refine zqo ?_ q; simp [ptAt, hc25, hc34, hc58]; done)
          | (refine zqo ?_ q; simp [ptAt, hc25, hc34, hc58, hc44]; done)
        · refine z_iload 38 rfl rfl rfl ?_
          refine z_push 39 (nI 1) rfl rfl rfl ?_
          refine z_bop 40 _ rfl rfl (by first | with_reducible exact zb_0 _ _ | exact zd_0 _ _) ?_
          refine z_aload 41 rfl rfl rfl ?_
          refine z_get 44 rfl rfl (by first | exact h1 | exact h2) rfl ?_
          first | refine z_nge 47 rfl rfl (by omega) (by omega) (fun hc44 => ?_) (fun hc44 => ?_) | refine z_kge 47 rfl rfl (by omega) (fun hc44 => ?_) (fun hc44 => ?_) | refine z_hge 47 rfl rfl (by omega) (fun hc44 => ?_) (fun hc44 => ?_) | refine z_tge 47 rfl rfl (fun hc44 => ?_) (fun hc44 => ?_)
          · refine z_push 66 (nI 0) rfl rfl rfl ?_
            refine z_istore 67 rfl rfl rfl rfl ?_
            refine z_iload 68 rfl rfl rfl ?_
            refine z_zeq 71 rfl rfl (by omega) (fun _ => ?_) (fun h9 => absurd h9 (by omega))
            refine z_push 87 (-1) rfl rfl rfl ?_
            refine z_ireti rfl (Nat.le_refl _) (Nat.le_refl _) ?_
            first
            | exact absurd hc1 (by omega)
            | exact absurd hc9 (by omega)
            | (refine zqo ?_ q; simp [ptAt, hc25]; done)
            | (refine zqo ?_ q; simp [ptAt, hc25, hc34]; done)
            | (refine zqo ?_ q; simp [ptAt, hc25, hc34, show ¬ a + 1 < c by omega]; done)
            | (refine zqo ?_ q; simp [ptAt, hc25, hc34, hc58]; done)
            | (refine zqo ?_ q; simp [ptAt, hc25, hc34, hc58, hc44]; done)
          · refine z_aload 48 rfl rfl rfl ?_
            refine z_get 51 rfl rfl (by first | exact h1 | exact h2) rfl ?_
            refine z_iload 52 rfl rfl rfl ?_
            refine z_push 53 (nI 1) rfl rfl rfl ?_
            refine z_bop 54 _ rfl rfl (by first | with_reducible exact zb_0 _ _ | exact zd_0 _ _) ?_
            refine z_ald 55 rfl rfl (by first | exact h1 | exact h2) rfl (by omega) (by omega) ?_
            refine z_cs 58 _ rfl rfl rfl rfl rfl rfl (Nat.le_refl _) (Nat.le_refl _) ?_
            refine c_isLowHalf ?_
            first | refine z_beq 61 rfl rfl (fun hc58 => ?_) (fun hc58 => ?_) | refine z_zeq 61 rfl rfl (by omega) (fun hc58 => ?_) (fun hc58 => ?_) | refine z_jeq 61 rfl rfl (fun hc58 => ?_) (fun hc58 => ?_)
            · refine z_push 66 (nI 0) rfl rfl rfl ?_
              refine z_istore 67 rfl rfl rfl rfl ?_
              refine z_iload 68 rfl rfl rfl ?_
              refine z_zeq 71 rfl rfl (by omega) (fun _ => ?_) (fun h9 => absurd h9 (by omega))
              refine z_push 87 (-1) rfl rfl rfl ?_
              refine z_ireti rfl (Nat.le_refl _) (Nat.le_refl _) ?_
              first
              | exact absurd hc1 (by omega)
              | exact absurd hc9 (by omega)
              | (refine zqo ?_ q; simp [ptAt, hc25]; done)
              | (refine zqo ?_ q; simp [ptAt, hc25, hc34]; done)
              | (refine zqo ?_ q; simp [ptAt, hc25, hc34, show ¬ a + 1 < c by omega]; done)
              | (refine zqo ?_ q; simp [ptAt, hc25, hc34, hc58]; done)
              | (refine zqo ?_ q; simp [ptAt, hc25, hc34, hc58, hc44]; done)
            · refine z_push 62 (nI 1) rfl rfl rfl ?_
              refine z_goto rfl ?_
              refine z_istore 67 rfl rfl rfl rfl ?_
              refine z_iload 68 rfl rfl rfl ?_
              refine z_zeq 71 rfl rfl (by omega) (fun h9 => absurd h9 (by omega)) (fun _ => ?_)
              refine z_iload 72 rfl rfl rfl ?_
              refine z_aload 73 rfl rfl rfl ?_
              refine z_get 76 rfl rfl (by first | exact h1 | exact h2) rfl ?_
              refine z_iload 77 rfl rfl rfl ?_
              refine z_push 78 (nI 1) rfl rfl rfl ?_
              refine z_bop 79 _ rfl rfl (by first | with_reducible exact zb_0 _ _ | exact zd_0 _ _) ?_
              refine z_ald 80 rfl rfl (by first | exact h1 | exact h2) rfl (by omega) (by omega) ?_
              refine z_cs 83 _ rfl rfl rfl rfl rfl rfl (Nat.le_refl _) (Nat.le_refl _) ?_
              refine c_joined ?_
              refine z_goto rfl ?_
              refine z_ireti rfl (Nat.le_refl _) (Nat.le_refl _) ?_
              first
              | exact absurd hc1 (by omega)
              | exact absurd hc9 (by omega)
              | (refine zqo ?_ q; simp [ptAt, hc25]; done)
              | (refine zqo ?_ q; simp [ptAt, hc25, hc34]; done)
              | (refine zqo ?_ q; simp [ptAt, hc25, hc34, show ¬ a + 1 < c by omega]; done)
              | (refine zqo ?_ q; simp [ptAt, hc25, hc34, hc58]; done)
              | (refine zqo ?_ q; simp [ptAt, hc25, hc34, hc58, hc44]; done)
      · refine z_iload 29 rfl rfl rfl ?_
        refine z_ireti rfl (Nat.le_refl _) (Nat.le_refl _) ?_
        first
        | exact absurd hc1 (by omega)
        | exact absurd hc9 (by omega)
        | (refine zqo ?_ q; simp [ptAt, hc25]; done)
        | (refine zqo ?_ q; simp [ptAt, hc25, hc34]; done)
        | (refine zqo ?_ q; simp [ptAt, hc25, hc34, show ¬ a + 1 < c by omega]; done)
        | (refine zqo ?_ q; simp [ptAt, hc25, hc34, hc58]; done)
        | (refine zqo ?_ q; simp [ptAt, hc25, hc34, hc58, hc44]; done)
    · refine z_push 13 (-1) rfl rfl rfl ?_
      refine z_ireti rfl (Nat.le_refl _) (Nat.le_refl _) ?_
      first
      | exact absurd hc1 (by omega)
      | exact absurd hc9 (by omega)
      | (refine zqo ?_ q; simp [ptAt, hc25]; done)
      | (refine zqo ?_ q; simp [ptAt, hc25, hc34]; done)
      | (refine zqo ?_ q; simp [ptAt, hc25, hc34, show ¬ a + 1 < c by omega]; done)
      | (refine zqo ?_ q; simp [ptAt, hc25, hc34, hc58]; done)
      | (refine zqo ?_ q; simp [ptAt, hc25, hc34, hc58, hc44]; done)
abbrev oFound (w l p g : Int32) (s : Int32) : mC := .inr (.inr (2, [.int w, .int l, .int p, .int g, .int s]))
set_option maxRecDepth 10000 in
theorem c_Found_setNone {d : Nat} {h : mH} {r : Nat} {w l p g s  : Int32} {Q : mP} (h1 : h.2 r = oFound w l p g s) (q : Q none (mSet h r (oFound 0 l p g s))) : mWP (d + 1) 18 [.ref r] h Q := by
  refine z_in [some (.ref r)] (by rfl) rfl rfl rfl ?_
  refine z_aload 1 rfl rfl rfl ?_
  refine z_push 2 (nI 0) rfl rfl rfl ?_
  refine z_put 5 rfl rfl (by first | exact h1 | exact mg_eq _ _ _) rfl (mFi rfl) ?_
  refine z_vret rfl (Nat.le_refl _) (Nat.le_refl _) ?_
  (repeat rw [mSet_ss]); exact q
set_option maxRecDepth 10000 in
theorem c_Found_setPart {d : Nat} {h : mH} {r : Nat} {w l p g s  : Int32} {Q : mP} (h1 : h.2 r = oFound w l p g s) (q : Q none (mSet h r (oFound 1 l p g s))) : mWP (d + 1) 19 [.ref r] h Q := by
  refine z_in [some (.ref r)] (by rfl) rfl rfl rfl ?_
  refine z_aload 1 rfl rfl rfl ?_
  refine z_push 2 (nI 1) rfl rfl rfl ?_
  refine z_put 5 rfl rfl (by first | exact h1 | exact mg_eq _ _ _) rfl (mFi rfl) ?_
  refine z_vret rfl (Nat.le_refl _) (Nat.le_refl _) ?_
  (repeat rw [mSet_ss]); exact q
set_option maxRecDepth 10000 in
theorem c_Found_setWhole {d : Nat} {h : mH} {r : Nat} {w l p g s x y : Int32} {Q : mP} (h1 : h.2 r = oFound w l p g s) (q : Q none (mSet h r (oFound 2 y x g s))) : mWP (d + 1) 20 [.ref r, .int x, .int y] h Q := by
  refine z_in [some (.ref r), some (.int x), some (.int y)] (by rfl) rfl rfl rfl ?_
  refine z_aload 1 rfl rfl rfl ?_
  refine z_push 2 (nI 2) rfl rfl rfl ?_
  refine z_put 5 rfl rfl (by first | exact h1 | exact mg_eq _ _ _) rfl (mFi rfl) ?_
  refine z_aload 6 rfl rfl rfl ?_
  refine z_iload 7 rfl rfl rfl ?_
  refine z_put 10 rfl rfl (by first | exact h1 | exact mg_eq _ _ _) rfl (mFi rfl) ?_
  refine z_aload 11 rfl rfl rfl ?_
  refine z_iload 12 rfl rfl rfl ?_
  refine z_put 15 rfl rfl (by first | exact h1 | exact mg_eq _ _ _) rfl (mFi rfl) ?_
  refine z_vret rfl (Nat.le_refl _) (Nat.le_refl _) ?_
  (repeat rw [mSet_ss]); exact q
set_option maxRecDepth 10000 in
theorem c_Found_setShift {d : Nat} {h : mH} {r : Nat} {w l p g s x y : Int32} {Q : mP} (h1 : h.2 r = oFound w l p g s) (hy : y = 0 ∨ y = 1) (q : Q none (mSet h r (oFound 3 1 p x y))) : mWP (d + 1) 21 [.ref r, .int x, .int y] h Q := by
  refine z_in [some (.ref r), some (.int x), some (.int y)] (by rfl) rfl rfl rfl ?_
  refine z_aload 1 rfl rfl rfl ?_
  refine z_push 2 (nI 3) rfl rfl rfl ?_
  refine z_put 5 rfl rfl (by first | exact h1 | exact mg_eq _ _ _) rfl (mFi rfl) ?_
  refine z_aload 6 rfl rfl rfl ?_
  refine z_iload 7 rfl rfl rfl ?_
  refine z_put 10 rfl rfl (by first | exact h1 | exact mg_eq _ _ _) rfl (mFi rfl) ?_
  refine z_aload 11 rfl rfl rfl ?_
  refine z_iload 12 rfl rfl rfl ?_
  refine z_put 15 rfl rfl (by first | exact h1 | exact mg_eq _ _ _) rfl (mFb rfl hy) ?_
  refine z_aload 16 rfl rfl rfl ?_
  refine z_push 17 (nI 1) rfl rfl rfl ?_
  refine z_put 20 rfl rfl (by first | exact h1 | exact mg_eq _ _ _) rfl (mFi rfl) ?_
  refine z_vret rfl (Nat.le_refl _) (Nat.le_refl _) ?_
  (repeat rw [mSet_ss]); exact q
end
section
/-! Entries and Shifts: their cells stand one behind the other -/
/-- the first of m numbers from i on with P -/
def ffd (P : Nat → Bool) : Nat → Nat → Option Nat
  | 0, _ => none
  | m + 1, i => if P i = true then some i else ffd P m (i + 1)
def oI : Option Nat → Int32
  | none => -1
  | some j => nI j
/-- nothing but the cells from lo to below hi has changed -/
def Fr (lo hi : Nat) (h h' : mH) : Prop := h'.1 = h.1 ∧ ∀ a, (a < lo ∨ hi ≤ a) → h'.2 a = h.2 a
theorem Fr.rfl {lo hi : Nat} {h : mH} : Fr lo hi h h := ⟨Eq.refl _, fun _ _ => Eq.refl _⟩
theorem Fr.set {lo hi : Nat} {h h' : mH} {a : Nat} {e : mC} (hf : Fr lo hi h h') (h1 : lo ≤ a) (h2 : a < hi) : Fr lo hi h (mSet h' a e) := ⟨hf.1, fun x hx => by
  have : x ≠ a := by omega
  simp only [mSet]
  rw [if_neg this]
  exact hf.2 x hx⟩
theorem Fr.trans {lo hi : Nat} {h h1 h2 : mH} (a : Fr lo hi h h1) (b : Fr lo hi h1 h2) : Fr lo hi h h2 := ⟨b.1.trans a.1, fun x hx => (b.2 x hx).trans (a.2 x hx)⟩
theorem Fr.mono {lo hi lo' hi' : Nat} {h h' : mH} (a : Fr lo hi h h') (h1 : lo' ≤ lo) (h2 : hi ≤ hi') : Fr lo' hi' h h' := ⟨a.1, fun x hx => a.2 x (by omega)⟩
theorem zmaxN {a b : Nat} (ha : a < 2 ^ 31) (hb : b < 2 ^ 31) : (if nI a < nI b then nI b else nI a) = nI (max a b) := by
  by_cases h : a < b
  · rw [if_pos (nI_lt h hb), Nat.max_eq_right (by omega)]
  · rw [if_neg (nI_nlt (by omega) ha), Nat.max_eq_left (by omega)]
theorem zminN {a b : Nat} (ha : a < 2 ^ 31) (hb : b < 2 ^ 31) : (if nI b < nI a then nI b else nI a) = nI (min a b) := by
  by_cases h : b < a
  · rw [if_pos (nI_lt h ha), Nat.min_eq_right (by omega)]
  · rw [if_neg (nI_nlt (by omega) hb), Nat.min_eq_left (by omega)]
def EntAt (h : mH) (e n : Nat) (S T N P F : Nat → Int32) (c : Nat) : Prop := h.2 e = .inr (.inr (0, [.ref (e + 1), .ref (e + 2), .ref (e + 3), .ref (e + 4), .ref (e + 5), .int (nI c)])) ∧ h.2 (e + 1) = aI n S ∧ h.2 (e + 2) = aI n T ∧ h.2 (e + 3) = aI n N ∧ h.2 (e + 4) = aI n P ∧ h.2 (e + 5) = aZ n F
def ShAt (h : mH) (e n : Nat) (S V G K : Nat → Int32) (c : Nat) : Prop := h.2 e = .inr (.inr (9, [.ref (e + 1), .ref (e + 2), .ref (e + 3), .ref (e + 4), .int (nI c)])) ∧ h.2 (e + 1) = aI n S ∧ h.2 (e + 2) = aI n V ∧ h.2 (e + 3) = aI n G ∧ h.2 (e + 4) = aZ n K
def eP (S T N : Nat → Int32) (st tx ln : Int32) (i : Nat) : Bool := decide (S i = st) && decide (T i = tx) && decide (N i = ln)
def sP (S V : Nat → Int32) (st b : Int32) (i : Nat) : Bool := decide (S i = st) && decide (V i = b)
set_option maxRecDepth 10000 in
theorem c_Ent_slotOf {d : Nat} {h : mH} {e n c : Nat} {S T N P F : Nat → Int32} {st tx ln : Int32} {Q : mP} (hE : EntAt h e n S T N P F c) (hn : n < 2 ^ 31) (hc : c ≤ n) (q : Q (some (.int (oI (ffd (eP S T N st tx ln) c 0)))) h) : mWP (d + 1) 1 [.ref e, .int st, .int tx, .int ln] h Q := by
  obtain ⟨E0, E1, E2, E3, E4, E5⟩ := hE
  have loop : ∀ m i, i + m = c → oI (ffd (eP S T N st tx ln) m i) = oI (ffd (eP S T N st tx ln) c 0) → mZ d tk_1 0 0 Q 3 [some (.ref e), some (.int st), some (.int tx), some (.int ln), some (.int (nI i))] [] h 0 0 := by
    intro m
    induction m with
    | zero =>
      intro i hi hr
      obtain rfl : i = c := by omega
      refine z_iload 5 rfl rfl rfl ?_
      refine z_aload 6 rfl rfl rfl ?_
      refine z_get 9 rfl rfl E0 rfl ?_
      refine z_nge 12 rfl rfl (by omega) (by omega) (fun _ => ?_) (fun h9 => absurd h9 (by omega))
      refine z_push 55 (-1) rfl rfl rfl ?_
      refine z_ireti rfl (Nat.le_refl _) (Nat.le_refl _) ?_
      exact zqo hr.symm q
    | succ m ih =>
      intro i hi hr
      refine z_iload 5 rfl rfl rfl ?_
      refine z_aload 6 rfl rfl rfl ?_
      refine z_get 9 rfl rfl (by first | exact E0 | exact E1 | exact E2 | exact E3) rfl ?_
      first | refine z_nge 12 rfl rfl (by omega) (by omega) (fun hc9 => ?_) (fun hc9 => ?_) | refine z_kge 12 rfl rfl (by omega) (fun hc9 => ?_) (fun hc9 => ?_) | refine z_hge 12 rfl rfl (by omega) (fun hc9 => ?_) (fun hc9 => ?_) | refine z_tge 12 rfl rfl (fun hc9 => ?_) (fun hc9 => ?_)
      · refine z_push 55 (-1) rfl rfl rfl ?_
        refine z_ireti rfl (Nat.le_refl _) (Nat.le_refl _) ?_
        first | exact absurd hc9 (by omega) | (refine zqo ?_ q; rw [← hr]; simp [ffd, eP, oI, *])
      · refine z_aload 13 rfl rfl rfl ?_
        refine z_get 16 rfl rfl (by first | exact E0 | exact E1 | exact E2 | exact E3) rfl ?_
        refine z_iload 18 rfl rfl rfl ?_
        refine z_ald 19 rfl rfl (by first | exact E0 | exact E1 | exact E2 | exact E3) rfl (by omega) (by omega) ?_
        refine z_iload 20 rfl rfl rfl ?_
        refine z_cne 23 rfl rfl (fun hc20 => ?_) (fun hc20 => ?_)
        · refine z_iinc 51 _ rfl rfl rfl rfl (by first | with_reducible exact zi_1 _ | rfl) ?_
          refine z_goto rfl ?_
          exact ih (i + 1) (by omega) (by rw [← hr]; simp [ffd, eP, *])
        · refine z_aload 24 rfl rfl rfl ?_
          refine z_get 27 rfl rfl (by first | exact E0 | exact E1 | exact E2 | exact E3) rfl ?_
          refine z_iload 29 rfl rfl rfl ?_
          refine z_ald 30 rfl rfl (by first | exact E0 | exact E1 | exact E2 | exact E3) rfl (by omega) (by omega) ?_
          refine z_iload 31 rfl rfl rfl ?_
          refine z_cne 34 rfl rfl (fun hc31 => ?_) (fun hc31 => ?_)
          · refine z_iinc 51 _ rfl rfl rfl rfl (by first | with_reducible exact zi_1 _ | rfl) ?_
            refine z_goto rfl ?_
            exact ih (i + 1) (by omega) (by rw [← hr]; simp [ffd, eP, *])
          · refine z_aload 35 rfl rfl rfl ?_
            refine z_get 38 rfl rfl (by first | exact E0 | exact E1 | exact E2 | exact E3) rfl ?_
            refine z_iload 40 rfl rfl rfl ?_
            refine z_ald 41 rfl rfl (by first | exact E0 | exact E1 | exact E2 | exact E3) rfl (by omega) (by omega) ?_
            refine z_iload 42 rfl rfl rfl ?_
            refine z_cne 45 rfl rfl (fun hc42 => ?_) (fun hc42 => ?_)
            · refine z_iinc 51 _ rfl rfl rfl rfl (by first | with_reducible exact zi_1 _ | rfl) ?_
              refine z_goto rfl ?_
              exact ih (i + 1) (by omega) (by rw [← hr]; simp [ffd, eP, *])
            · refine z_iload 47 rfl rfl rfl ?_
              refine z_ireti rfl (Nat.le_refl _) (Nat.le_refl _) ?_
              first | exact absurd hc9 (by omega) | (refine zqo ?_ q; rw [← hr]; simp [ffd, eP, oI, *])
  refine z_in [some (.ref e), some (.int st), some (.int tx), some (.int ln), none] (by rfl) rfl rfl rfl ?_
  refine z_push 1 (nI 0) rfl rfl rfl ?_
  refine z_istore 3 rfl rfl rfl rfl ?_
  exact loop c 0 (by omega) rfl
set_option maxRecDepth 10000 in
theorem c_Sh_slotOf {d : Nat} {h : mH} {e n c : Nat} {S V G K : Nat → Int32} {st b : Int32} {Q : mP} (hE : ShAt h e n S V G K c) (hn : n < 2 ^ 31) (hc : c ≤ n) (q : Q (some (.int (oI (ffd (sP S V st b) c 0)))) h) : mWP (d + 1) 91 [.ref e, .int st, .int b] h Q := by
  obtain ⟨E0, E1, E2, E3, E4⟩ := hE
  have loop : ∀ m i, i + m = c → oI (ffd (sP S V st b) m i) = oI (ffd (sP S V st b) c 0) → mZ d tk_91 0 0 Q 2 [some (.ref e), some (.int st), some (.int b), some (.int (nI i))] [] h 0 0 := by
    intro m
    induction m with
    | zero =>
      intro i hi hr
      obtain rfl : i = c := by omega
      refine z_iload 3 rfl rfl rfl ?_
      refine z_aload 4 rfl rfl rfl ?_
      refine z_get 7 rfl rfl E0 rfl ?_
      refine z_nge 10 rfl rfl (by omega) (by omega) (fun _ => ?_) (fun h9 => absurd h9 (by omega))
      refine z_push 39 (-1) rfl rfl rfl ?_
      refine z_ireti rfl (Nat.le_refl _) (Nat.le_refl _) ?_
      exact zqo hr.symm q
    | succ m ih =>
      intro i hi hr
      refine z_iload 3 rfl rfl rfl ?_
      refine z_aload 4 rfl rfl rfl ?_
      refine z_get 7 rfl rfl (by first | exact E0 | exact E1 | exact E2 | exact E3) rfl ?_
      first | refine z_nge 10 rfl rfl (by omega) (by omega) (fun hc7 => ?_) (fun hc7 => ?_) | refine z_kge 10 rfl rfl (by omega) (fun hc7 => ?_) (fun hc7 => ?_) | refine z_hge 10 rfl rfl (by omega) (fun hc7 => ?_) (fun hc7 => ?_) | refine z_tge 10 rfl rfl (fun hc7 => ?_) (fun hc7 => ?_)
      · refine z_push 39 (-1) rfl rfl rfl ?_
        refine z_ireti rfl (Nat.le_refl _) (Nat.le_refl _) ?_
        first | exact absurd hc7 (by omega) | (refine zqo ?_ q; rw [← hr]; simp [ffd, sP, oI, *])
      · refine z_aload 11 rfl rfl rfl ?_
        refine z_get 14 rfl rfl (by first | exact E0 | exact E1 | exact E2 | exact E3) rfl ?_
        refine z_iload 15 rfl rfl rfl ?_
        refine z_ald 16 rfl rfl (by first | exact E0 | exact E1 | exact E2 | exact E3) rfl (by omega) (by omega) ?_
        refine z_iload 17 rfl rfl rfl ?_
        refine z_cne 20 rfl rfl (fun hc17 => ?_) (fun hc17 => ?_)
        · refine z_iinc 35 _ rfl rfl rfl rfl (by first | with_reducible exact zi_1 _ | rfl) ?_
          refine z_goto rfl ?_
          exact ih (i + 1) (by omega) (by rw [← hr]; simp [ffd, sP, *])
        · refine z_aload 21 rfl rfl rfl ?_
          refine z_get 24 rfl rfl (by first | exact E0 | exact E1 | exact E2 | exact E3) rfl ?_
          refine z_iload 25 rfl rfl rfl ?_
          refine z_ald 26 rfl rfl (by first | exact E0 | exact E1 | exact E2 | exact E3) rfl (by omega) (by omega) ?_
          refine z_iload 27 rfl rfl rfl ?_
          refine z_cne 30 rfl rfl (fun hc27 => ?_) (fun hc27 => ?_)
          · refine z_iinc 35 _ rfl rfl rfl rfl (by first | with_reducible exact zi_1 _ | rfl) ?_
            refine z_goto rfl ?_
            exact ih (i + 1) (by omega) (by rw [← hr]; simp [ffd, sP, *])
          · refine z_iload 31 rfl rfl rfl ?_
            refine z_ireti rfl (Nat.le_refl _) (Nat.le_refl _) ?_
            first | exact absurd hc7 (by omega) | (refine zqo ?_ q; rw [← hr]; simp [ffd, sP, oI, *])
  refine z_in [some (.ref e), some (.int st), some (.int b), none] (by rfl) rfl rfl rfl ?_
  refine z_push 1 (nI 0) rfl rfl rfl ?_
  refine z_istore 2 rfl rfl rfl rfl ?_
  exact loop c 0 (by omega) rfl
set_option maxRecDepth 10000 in
theorem c_Ent_put {d : Nat} {h : mH} {e n c k : Nat} {S T N P F : Nat → Int32} {st tx ln pt pf : Int32} {Q : mP} (hE : EntAt h e n S T N P F c) (hn : n < 2 ^ 31) (hk : k ≤ c) (hkn : k < n) (hc : c ≤ n) (hpf : pf = 0 ∨ pf = 1) (q : ∀ h', EntAt h' e n (upd S k st) (upd T k tx) (upd N k ln) (upd P k pt) (upd F k pf) (max c (k + 1)) → Fr e (e + 6) h h' → Q none h') : mWP (d + 1) 2 [.ref e, .int (nI k), .int st, .int tx, .int ln, .int pt, .int pf] h Q := by
  obtain ⟨E0, E1, E2, E3, E4, E5⟩ := hE
  refine z_in [some (.ref e), some (.int (nI k)), some (.int st), some (.int tx), some (.int ln), some (.int pt), some (.int pf)] (by rfl) rfl rfl rfl ?_
  refine z_iload 1 rfl rfl rfl ?_
  first | refine z_zlt 4 rfl rfl (by omega) (fun hc1 => ?_) (fun hc1 => ?_) | refine z_jlt 4 rfl rfl (fun hc1 => ?_) (fun hc1 => ?_)
  · refine z_vret rfl (Nat.le_refl _) (Nat.le_refl _) ?_
    first | exact absurd hc1 (by omega) | exact absurd hc9 (by omega) | exact absurd hc18 (by omega)
  · refine z_iload 5 rfl rfl rfl ?_
    refine z_aload 6 rfl rfl rfl ?_
    refine z_get 9 rfl rfl (by repeat (first | exact E0 | exact E1 | exact E2 | exact E3 | exact E4 | exact E5 | exact mg_eq _ _ _ | refine mg_ne (by omega) ?_)) rfl ?_
    first | refine z_ngt 12 rfl rfl (by omega) (by omega) (fun hc9 => ?_) (fun hc9 => ?_) | refine z_kgt 12 rfl rfl (by omega) (fun hc9 => ?_) (fun hc9 => ?_) | refine z_hgt 12 rfl rfl (by omega) (fun hc9 => ?_) (fun hc9 => ?_) | refine z_tgt 12 rfl rfl (fun hc9 => ?_) (fun hc9 => ?_)
    · refine z_vret rfl (Nat.le_refl _) (Nat.le_refl _) ?_
      first | exact absurd hc1 (by omega) | exact absurd hc9 (by omega) | exact absurd hc18 (by omega)
    · refine z_iload 13 rfl rfl rfl ?_
      refine z_aload 14 rfl rfl rfl ?_
      refine z_get 17 rfl rfl (by repeat (first | exact E0 | exact E1 | exact E2 | exact E3 | exact E4 | exact E5 | exact mg_eq _ _ _ | refine mg_ne (by omega) ?_)) rfl ?_
      refine z_alen 18 rfl rfl (by repeat (first | exact E0 | exact E1 | exact E2 | exact E3 | exact E4 | exact E5 | exact mg_eq _ _ _ | refine mg_ne (by omega) ?_)) (by decide) ?_
      first | refine z_nlt 21 rfl rfl (by omega) (by omega) (fun hc18 => ?_) (fun hc18 => ?_) | refine z_klt 21 rfl rfl (by omega) (fun hc18 => ?_) (fun hc18 => ?_) | refine z_hlt 21 rfl rfl (by omega) (fun hc18 => ?_) (fun hc18 => ?_) | refine z_tlt 21 rfl rfl (fun hc18 => ?_) (fun hc18 => ?_)
      · refine z_aload 23 rfl rfl rfl ?_
        refine z_get 26 rfl rfl (by repeat (first | exact E0 | exact E1 | exact E2 | exact E3 | exact E4 | exact E5 | exact mg_eq _ _ _ | refine mg_ne (by omega) ?_)) rfl ?_
        refine z_iload 27 rfl rfl rfl ?_
        refine z_iload 28 rfl rfl rfl ?_
        refine z_ast 29 rfl rfl (by repeat (first | exact E0 | exact E1 | exact E2 | exact E3 | exact E4 | exact E5 | exact mg_eq _ _ _ | refine mg_ne (by omega) ?_)) rfl (by omega) (by omega) ?_
        refine z_aload 30 rfl rfl rfl ?_
        refine z_get 33 rfl rfl (by repeat (first | exact E0 | exact E1 | exact E2 | exact E3 | exact E4 | exact E5 | exact mg_eq _ _ _ | refine mg_ne (by omega) ?_)) rfl ?_
        refine z_iload 34 rfl rfl rfl ?_
        refine z_iload 35 rfl rfl rfl ?_
        refine z_ast 36 rfl rfl (by repeat (first | exact E0 | exact E1 | exact E2 | exact E3 | exact E4 | exact E5 | exact mg_eq _ _ _ | refine mg_ne (by omega) ?_)) rfl (by omega) (by omega) ?_
        refine z_aload 37 rfl rfl rfl ?_
        refine z_get 40 rfl rfl (by repeat (first | exact E0 | exact E1 | exact E2 | exact E3 | exact E4 | exact E5 | exact mg_eq _ _ _ | refine mg_ne (by omega) ?_)) rfl ?_
        refine z_iload 41 rfl rfl rfl ?_
        refine z_iload 43 rfl rfl rfl ?_
        refine z_ast 44 rfl rfl (by repeat (first | exact E0 | exact E1 | exact E2 | exact E3 | exact E4 | exact E5 | exact mg_eq _ _ _ | refine mg_ne (by omega) ?_)) rfl (by omega) (by omega) ?_
        refine z_aload 45 rfl rfl rfl ?_
        refine z_get 48 rfl rfl (by repeat (first | exact E0 | exact E1 | exact E2 | exact E3 | exact E4 | exact E5 | exact mg_eq _ _ _ | refine mg_ne (by omega) ?_)) rfl ?_
        refine z_iload 49 rfl rfl rfl ?_
        refine z_iload 51 rfl rfl rfl ?_
        refine z_ast 52 rfl rfl (by repeat (first | exact E0 | exact E1 | exact E2 | exact E3 | exact E4 | exact E5 | exact mg_eq _ _ _ | refine mg_ne (by omega) ?_)) rfl (by omega) (by omega) ?_
        refine z_aload 53 rfl rfl rfl ?_
        refine z_get 56 rfl rfl (by repeat (first | exact E0 | exact E1 | exact E2 | exact E3 | exact E4 | exact E5 | exact mg_eq _ _ _ | refine mg_ne (by omega) ?_)) rfl ?_
        refine z_iload 57 rfl rfl rfl ?_
        refine z_iload 59 rfl rfl rfl ?_
        refine z_bst 60 rfl rfl (by repeat (first | exact E0 | exact E1 | exact E2 | exact E3 | exact E4 | exact E5 | exact mg_eq _ _ _ | refine mg_ne (by omega) ?_)) rfl (by omega) (by omega) hpf ?_
        refine z_aload 61 rfl rfl rfl ?_
        refine z_aload 62 rfl rfl rfl ?_
        refine z_get 65 rfl rfl (by repeat (first | exact E0 | exact E1 | exact E2 | exact E3 | exact E4 | exact E5 | exact mg_eq _ _ _ | refine mg_ne (by omega) ?_)) rfl ?_
        refine z_iload 66 rfl rfl rfl ?_
        refine z_push 67 (nI 1) rfl rfl rfl ?_
        refine z_bop 68 _ rfl rfl (by first | with_reducible exact zb_0 _ _ | exact zd_0 _ _) ?_
        refine z_max 71 _ rfl rfl rfl (Nat.le_refl _) (Nat.le_refl _) (zmaxN (by omega) (by omega)) ?_
        refine z_put 74 rfl rfl (by repeat (first | exact E0 | exact E1 | exact E2 | exact E3 | exact E4 | exact E5 | exact mg_eq _ _ _ | refine mg_ne (by omega) ?_)) rfl (mFi rfl) ?_
        refine z_vret rfl (Nat.le_refl _) (Nat.le_refl _) ?_
        refine q _ ⟨by simp [mSet], by simp [mSet], by simp [mSet], by simp [mSet], by simp [mSet], by simp [mSet]⟩ ?_
        exact Fr.set (Fr.set (Fr.set (Fr.set (Fr.set (Fr.set Fr.rfl (by omega) (by omega)) (by omega) (by omega)) (by omega) (by omega)) (by omega) (by omega)) (by omega) (by omega)) (by omega) (by omega)
      · refine z_vret rfl (Nat.le_refl _) (Nat.le_refl _) ?_
        first | exact absurd hc1 (by omega) | exact absurd hc9 (by omega) | exact absurd hc18 (by omega)
set_option maxRecDepth 10000 in
theorem c_Sh_add {d : Nat} {h : mH} {e n c : Nat} {S V G K : Nat → Int32} {st b g k : Int32} {Q : mP} (hE : ShAt h e n S V G K c) (hn : n < 2 ^ 31) (hc : c < n) (hk : k = 0 ∨ k = 1) (q : ∀ h', ShAt h' e n (upd S c st) (upd V c b) (upd G c g) (upd K c k) (c + 1) → Fr e (e + 5) h h' → Q none h') : mWP (d + 1) 92 [.ref e, .int st, .int b, .int g, .int k] h Q := by
  obtain ⟨E0, E1, E2, E3, E4⟩ := hE
  refine z_in [some (.ref e), some (.int st), some (.int b), some (.int g), some (.int k)] (by rfl) rfl rfl rfl ?_
  refine z_aload 1 rfl rfl rfl ?_
  refine z_get 4 rfl rfl (by repeat (first | exact E0 | exact E1 | exact E2 | exact E3 | exact E4 | exact mg_eq _ _ _ | refine mg_ne (by omega) ?_)) rfl ?_
  refine z_aload 5 rfl rfl rfl ?_
  refine z_get 8 rfl rfl (by repeat (first | exact E0 | exact E1 | exact E2 | exact E3 | exact E4 | exact mg_eq _ _ _ | refine mg_ne (by omega) ?_)) rfl ?_
  refine z_alen 9 rfl rfl (by repeat (first | exact E0 | exact E1 | exact E2 | exact E3 | exact E4 | exact mg_eq _ _ _ | refine mg_ne (by omega) ?_)) (by decide) ?_
  first | refine z_nlt 12 rfl rfl (by omega) (by omega) (fun hc9 => ?_) (fun hc9 => ?_) | refine z_klt 12 rfl rfl (by omega) (fun hc9 => ?_) (fun hc9 => ?_) | refine z_hlt 12 rfl rfl (by omega) (fun hc9 => ?_) (fun hc9 => ?_) | refine z_tlt 12 rfl rfl (fun hc9 => ?_) (fun hc9 => ?_)
  · refine z_aload 14 rfl rfl rfl ?_
    refine z_get 17 rfl rfl (by repeat (first | exact E0 | exact E1 | exact E2 | exact E3 | exact E4 | exact mg_eq _ _ _ | refine mg_ne (by omega) ?_)) rfl ?_
    refine z_aload 18 rfl rfl rfl ?_
    refine z_get 21 rfl rfl (by repeat (first | exact E0 | exact E1 | exact E2 | exact E3 | exact E4 | exact mg_eq _ _ _ | refine mg_ne (by omega) ?_)) rfl ?_
    refine z_iload 22 rfl rfl rfl ?_
    refine z_ast 23 rfl rfl (by repeat (first | exact E0 | exact E1 | exact E2 | exact E3 | exact E4 | exact mg_eq _ _ _ | refine mg_ne (by omega) ?_)) rfl (by omega) (by omega) ?_
    refine z_aload 24 rfl rfl rfl ?_
    refine z_get 27 rfl rfl (by repeat (first | exact E0 | exact E1 | exact E2 | exact E3 | exact E4 | exact mg_eq _ _ _ | refine mg_ne (by omega) ?_)) rfl ?_
    refine z_aload 28 rfl rfl rfl ?_
    refine z_get 31 rfl rfl (by repeat (first | exact E0 | exact E1 | exact E2 | exact E3 | exact E4 | exact mg_eq _ _ _ | refine mg_ne (by omega) ?_)) rfl ?_
    refine z_iload 32 rfl rfl rfl ?_
    refine z_ast 33 rfl rfl (by repeat (first | exact E0 | exact E1 | exact E2 | exact E3 | exact E4 | exact mg_eq _ _ _ | refine mg_ne (by omega) ?_)) rfl (by omega) (by omega) ?_
    refine z_aload 34 rfl rfl rfl ?_
    refine z_get 37 rfl rfl (by repeat (first | exact E0 | exact E1 | exact E2 | exact E3 | exact E4 | exact mg_eq _ _ _ | refine mg_ne (by omega) ?_)) rfl ?_
    refine z_aload 38 rfl rfl rfl ?_
    refine z_get 41 rfl rfl (by repeat (first | exact E0 | exact E1 | exact E2 | exact E3 | exact E4 | exact mg_eq _ _ _ | refine mg_ne (by omega) ?_)) rfl ?_
    refine z_iload 42 rfl rfl rfl ?_
    refine z_ast 43 rfl rfl (by repeat (first | exact E0 | exact E1 | exact E2 | exact E3 | exact E4 | exact mg_eq _ _ _ | refine mg_ne (by omega) ?_)) rfl (by omega) (by omega) ?_
    refine z_aload 44 rfl rfl rfl ?_
    refine z_get 47 rfl rfl (by repeat (first | exact E0 | exact E1 | exact E2 | exact E3 | exact E4 | exact mg_eq _ _ _ | refine mg_ne (by omega) ?_)) rfl ?_
    refine z_aload 48 rfl rfl rfl ?_
    refine z_get 51 rfl rfl (by repeat (first | exact E0 | exact E1 | exact E2 | exact E3 | exact E4 | exact mg_eq _ _ _ | refine mg_ne (by omega) ?_)) rfl ?_
    refine z_iload 53 rfl rfl rfl ?_
    refine z_bst 54 rfl rfl (by repeat (first | exact E0 | exact E1 | exact E2 | exact E3 | exact E4 | exact mg_eq _ _ _ | refine mg_ne (by omega) ?_)) rfl (by omega) (by omega) hk ?_
    refine z_aload 55 rfl rfl rfl ?_
    first | refine z_dup 56 rfl rfl ?_ | refine z_dupi 56 rfl rfl ?_
    refine z_get 59 rfl rfl (by repeat (first | exact E0 | exact E1 | exact E2 | exact E3 | exact E4 | exact mg_eq _ _ _ | refine mg_ne (by omega) ?_)) rfl ?_
    refine z_push 60 (nI 1) rfl rfl rfl ?_
    refine z_bop 61 _ rfl rfl (by first | with_reducible exact zb_0 _ _ | exact zd_0 _ _) ?_
    refine z_put 64 rfl rfl (by repeat (first | exact E0 | exact E1 | exact E2 | exact E3 | exact E4 | exact mg_eq _ _ _ | refine mg_ne (by omega) ?_)) rfl (mFi rfl) ?_
    refine z_vret rfl (Nat.le_refl _) (Nat.le_refl _) ?_
    refine q _ ⟨by simp [mSet], by simp [mSet], by simp [mSet], by simp [mSet], by simp [mSet]⟩ ?_
    exact Fr.set (Fr.set (Fr.set (Fr.set (Fr.set Fr.rfl (by omega) (by omega)) (by omega) (by omega)) (by omega) (by omega)) (by omega) (by omega)) (by omega) (by omega)
  · refine z_vret rfl (Nat.le_refl _) (Nat.le_refl _) ?_
    exact absurd hc9 (by omega)
end
section
/-! Entries, Shifts: taking away, copying, counting -/
/-- the values behind k come one place ahead, up to place i -/
def rmv (S : Nat → Int32) (k i : Nat) : Nat → Int32 := fun j => if k ≤ j ∧ j < i then S (j + 1) else S j
theorem rmv_0 (S : Nat → Int32) (k : Nat) : rmv S k k = S := by
  funext j
  simp only [rmv]
  rw [if_neg (by omega)]
theorem rmv_at (S : Nat → Int32) (k i : Nat) : rmv S k i (i + 1) = S (i + 1) := by
  simp only [rmv]
  rw [if_neg (by omega)]
theorem rmv_s (S : Nat → Int32) {k i : Nat} (h : k ≤ i) : upd (rmv S k i) i (S (i + 1)) = rmv S k (i + 1) := by
  funext j
  simp only [rmv, upd]
  by_cases hj : j = i
  · subst hj
    rw [if_pos rfl, if_pos (by omega)]
  · rw [if_neg hj]
    by_cases h2 : k ≤ j ∧ j < i
    · rw [if_pos h2, if_pos (by omega)]
    · rw [if_neg h2, if_neg (by omega)]
/-- the first i values of S2, behind them S -/
def cpf (S2 S : Nat → Int32) (i : Nat) : Nat → Int32 := fun j => if j < i then S2 j else S j
theorem cpf_0 (S2 S : Nat → Int32) : cpf S2 S 0 = S := by
  funext j
  simp [cpf]
theorem cpf_s (S2 S : Nat → Int32) (i : Nat) : upd (cpf S2 S i) i (S2 i) = cpf S2 S (i + 1) := by
  funext j
  simp only [cpf, upd]
  by_cases hj : j = i
  · subst hj
    rw [if_pos rfl, if_pos (by omega)]
  · rw [if_neg hj]
    by_cases h2 : j < i
    · rw [if_pos h2, if_pos (by omega)]
    · rw [if_neg h2, if_neg (by omega)]
def cnt9 (p : Nat → Bool) : Nat → Nat
  | 0 => 0
  | n + 1 => cnt9 p n + (if p n = true then 1 else 0)
theorem cnt9_le (p : Nat → Bool) (n : Nat) : cnt9 p n ≤ n := by
  induction n with
  | zero => exact Nat.le_refl 0
  | succ n ih => unfold cnt9; split <;> omega
theorem EntAt.fr {h h' : mH} {e n c lo hi : Nat} {S T N P F : Nat → Int32} (hE : EntAt h e n S T N P F c) (hf : Fr lo hi h h') (hd : e + 6 ≤ lo ∨ hi ≤ e) : EntAt h' e n S T N P F c := by
  obtain ⟨E0, E1, E2, E3, E4, E5⟩ := hE
  exact ⟨by rw [hf.2 _ (by omega)]; exact E0, by rw [hf.2 _ (by omega)]; exact E1, by rw [hf.2 _ (by omega)]; exact E2, by rw [hf.2 _ (by omega)]; exact E3, by rw [hf.2 _ (by omega)]; exact E4, by rw [hf.2 _ (by omega)]; exact E5⟩
theorem ShAt.fr {h h' : mH} {e n c lo hi : Nat} {S V G K : Nat → Int32} (hE : ShAt h e n S V G K c) (hf : Fr lo hi h h') (hd : e + 5 ≤ lo ∨ hi ≤ e) : ShAt h' e n S V G K c := by
  obtain ⟨E0, E1, E2, E3, E4⟩ := hE
  exact ⟨by rw [hf.2 _ (by omega)]; exact E0, by rw [hf.2 _ (by omega)]; exact E1, by rw [hf.2 _ (by omega)]; exact E2, by rw [hf.2 _ (by omega)]; exact E3, by rw [hf.2 _ (by omega)]; exact E4⟩
set_option maxRecDepth 10000 in
theorem c_Ent_removeAt {d : Nat} {h : mH} {e n c k : Nat} {S T N P F : Nat → Int32} {Q : mP} (hE : EntAt h e n S T N P F c) (hn : n < 2 ^ 31) (hk : k < c) (hc : c ≤ n) (hF : ∀ j, F j = 0 ∨ F j = 1) (q : ∀ h', EntAt h' e n (rmv S k (c - 1)) (rmv T k (c - 1)) (rmv N k (c - 1)) (rmv P k (c - 1)) (rmv F k (c - 1)) (c - 1) → Fr e (e + 6) h h' → Q none h') : mWP (d + 2) 3 [.ref e, .int (nI k)] h Q := by
  have loop : ∀ m i, i + m = c - 1 → k ≤ i → ∀ h1, EntAt h1 e n (rmv S k i) (rmv T k i) (rmv N k i) (rmv P k i) (rmv F k i) c → Fr e (e + 6) h h1 → mZ (d + 1) tk_3 0 0 Q 15 [some (.ref e), some (.int (nI k)), some (.int (nI i))] [] h1 0 0 := by
    intro m
    induction m with
    | zero =>
      intro i hi hki h1 hE1 hf1
      obtain rfl : i = c - 1 := by omega
      obtain ⟨E0, E1, E2, E3, E4, E5⟩ := hE1
      refine z_iload 16 rfl rfl rfl ?_
      refine z_push 17 (nI 1) rfl rfl rfl ?_
      refine z_bop 18 _ rfl rfl (zb_0 _ _) ?_
      refine z_aload 19 rfl rfl rfl ?_
      refine z_get 22 rfl rfl E0 rfl ?_
      refine z_nge 25 rfl rfl (by omega) (by omega) (fun _ => ?_) (fun h9 => absurd h9 (by omega))
      refine z_aload 77 rfl rfl rfl ?_
      first | refine z_dup 78 rfl rfl ?_ | refine z_dupi 78 rfl rfl ?_
      refine z_get 81 rfl rfl E0 rfl ?_
      refine z_push 82 (nI 1) rfl rfl rfl ?_
      refine z_bop 83 _ rfl rfl (by first | with_reducible exact zb_1 (by omega) | exact zd_1 _ _) ?_
      refine z_put 86 rfl rfl E0 rfl (mFi rfl) ?_
      refine z_vret rfl (Nat.le_refl _) (Nat.le_refl _) ?_
      refine q _ ⟨mg_eq _ _ _, mg_ne (by omega) E1, mg_ne (by omega) E2, mg_ne (by omega) E3, mg_ne (by omega) E4, mg_ne (by omega) E5⟩ (Fr.set hf1 (by omega) (by omega))
    | succ m ih =>
      intro i hi hki h1 hE1 hf1
      obtain ⟨E0, E1, E2, E3, E4, E5⟩ := id hE1
      refine z_iload 16 rfl rfl rfl ?_
      refine z_push 17 (nI 1) rfl rfl rfl ?_
      refine z_bop 18 _ rfl rfl (by first | with_reducible exact zb_0 _ _ | exact zd_0 _ _) ?_
      refine z_aload 19 rfl rfl rfl ?_
      refine z_get 22 rfl rfl (by repeat (first | exact E0 | exact E1 | exact E2 | exact E3 | exact E4 | exact E5 | exact mg_eq _ _ _ | refine mg_ne (by omega) ?_)) rfl ?_
      first | refine z_nge 25 rfl rfl (by omega) (by omega) (fun hc22 => ?_) (fun hc22 => ?_) | refine z_kge 25 rfl rfl (by omega) (fun hc22 => ?_) (fun hc22 => ?_) | refine z_hge 25 rfl rfl (by omega) (fun hc22 => ?_) (fun hc22 => ?_) | refine z_tge 25 rfl rfl (fun hc22 => ?_) (fun hc22 => ?_)
      · refine z_aload 77 rfl rfl rfl ?_
        first | refine z_dup 78 rfl rfl ?_ | refine z_dupi 78 rfl rfl ?_
        refine z_get 81 rfl rfl (by repeat (first | exact E0 | exact E1 | exact E2 | exact E3 | exact E4 | exact E5 | exact mg_eq _ _ _ | refine mg_ne (by omega) ?_)) rfl ?_
        refine z_push 82 (nI 1) rfl rfl rfl ?_
        refine z_bop 83 _ rfl rfl (by first | with_reducible exact zb_1 (by omega) | exact zd_1 _ _) ?_
        refine z_put 86 rfl rfl (by repeat (first | exact E0 | exact E1 | exact E2 | exact E3 | exact E4 | exact E5 | exact mg_eq _ _ _ | refine mg_ne (by omega) ?_)) rfl (mFi rfl) ?_
        refine z_vret rfl (Nat.le_refl _) (Nat.le_refl _) ?_
        exact absurd hc22 (by omega)
      · refine z_aload 26 rfl rfl rfl ?_
        refine z_iload 27 rfl rfl rfl ?_
        refine z_aload 28 rfl rfl rfl ?_
        refine z_get 31 rfl rfl (by repeat (first | exact E0 | exact E1 | exact E2 | exact E3 | exact E4 | exact E5 | exact mg_eq _ _ _ | refine mg_ne (by omega) ?_)) rfl ?_
        refine z_iload 32 rfl rfl rfl ?_
        refine z_push 33 (nI 1) rfl rfl rfl ?_
        refine z_bop 34 _ rfl rfl (by first | with_reducible exact zb_0 _ _ | exact zd_0 _ _) ?_
        refine z_ald 35 rfl rfl (by repeat (first | exact E0 | exact E1 | exact E2 | exact E3 | exact E4 | exact E5 | exact mg_eq _ _ _ | refine mg_ne (by omega) ?_)) rfl (by omega) (by omega) ?_
        refine z_aload 36 rfl rfl rfl ?_
        refine z_get 39 rfl rfl (by repeat (first | exact E0 | exact E1 | exact E2 | exact E3 | exact E4 | exact E5 | exact mg_eq _ _ _ | refine mg_ne (by omega) ?_)) rfl ?_
        refine z_iload 40 rfl rfl rfl ?_
        refine z_push 41 (nI 1) rfl rfl rfl ?_
        refine z_bop 42 _ rfl rfl (by first | with_reducible exact zb_0 _ _ | exact zd_0 _ _) ?_
        refine z_ald 43 rfl rfl (by repeat (first | exact E0 | exact E1 | exact E2 | exact E3 | exact E4 | exact E5 | exact mg_eq _ _ _ | refine mg_ne (by omega) ?_)) rfl (by omega) (by omega) ?_
        refine z_aload 44 rfl rfl rfl ?_
        refine z_get 47 rfl rfl (by repeat (first | exact E0 | exact E1 | exact E2 | exact E3 | exact E4 | exact E5 | exact mg_eq _ _ _ | refine mg_ne (by omega) ?_)) rfl ?_
        refine z_iload 48 rfl rfl rfl ?_
        refine z_push 49 (nI 1) rfl rfl rfl ?_
        refine z_bop 50 _ rfl rfl (by first | with_reducible exact zb_0 _ _ | exact zd_0 _ _) ?_
        refine z_ald 51 rfl rfl (by repeat (first | exact E0 | exact E1 | exact E2 | exact E3 | exact E4 | exact E5 | exact mg_eq _ _ _ | refine mg_ne (by omega) ?_)) rfl (by omega) (by omega) ?_
        refine z_aload 52 rfl rfl rfl ?_
        refine z_get 55 rfl rfl (by repeat (first | exact E0 | exact E1 | exact E2 | exact E3 | exact E4 | exact E5 | exact mg_eq _ _ _ | refine mg_ne (by omega) ?_)) rfl ?_
        refine z_iload 56 rfl rfl rfl ?_
        refine z_push 57 (nI 1) rfl rfl rfl ?_
        refine z_bop 58 _ rfl rfl (by first | with_reducible exact zb_0 _ _ | exact zd_0 _ _) ?_
        refine z_ald 59 rfl rfl (by repeat (first | exact E0 | exact E1 | exact E2 | exact E3 | exact E4 | exact E5 | exact mg_eq _ _ _ | refine mg_ne (by omega) ?_)) rfl (by omega) (by omega) ?_
        refine z_aload 60 rfl rfl rfl ?_
        refine z_get 63 rfl rfl (by repeat (first | exact E0 | exact E1 | exact E2 | exact E3 | exact E4 | exact E5 | exact mg_eq _ _ _ | refine mg_ne (by omega) ?_)) rfl ?_
        refine z_iload 64 rfl rfl rfl ?_
        refine z_push 65 (nI 1) rfl rfl rfl ?_
        refine z_bop 66 _ rfl rfl (by first | with_reducible exact zb_0 _ _ | exact zd_0 _ _) ?_
        refine z_bld 67 rfl rfl (by repeat (first | exact E0 | exact E1 | exact E2 | exact E3 | exact E4 | exact E5 | exact mg_eq _ _ _ | refine mg_ne (by omega) ?_)) rfl (by omega) (by omega) ?_
        refine z_cv 70 _ rfl rfl rfl rfl (by repeat (first | exact E0 | exact E1 | exact E2 | exact E3 | exact E4 | exact E5 | exact mg_eq _ _ _ | refine mg_ne (by omega) ?_)) rfl rfl (Nat.le_refl _) (Nat.le_refl _) ?_
        refine c_Ent_put hE1 hn (by omega) (by omega) (by omega) (by rw [rmv_at]; exact hF _) (fun h2 hE2 hf2 => ?_)
        rw [rmv_at, rmv_at, rmv_at, rmv_at, rmv_at, rmv_s S (by omega), rmv_s T (by omega), rmv_s N (by omega), rmv_s P (by omega), rmv_s F (by omega), Nat.max_eq_left (by omega)] at hE2
        refine z_iinc 73 _ rfl rfl rfl rfl (by first | with_reducible exact zi_1 _ | rfl) ?_
        refine z_goto rfl ?_
        exact ih (i + 1) (by omega) (by omega) h2 hE2 (hf1.trans hf2)
  refine z_in [some (.ref e), some (.int (nI k)), none] (by rfl) rfl rfl rfl ?_
  refine z_iload 1 rfl rfl rfl ?_
  first | refine z_zlt 4 rfl rfl (by omega) (fun hc1 => ?_) (fun hc1 => ?_) | refine z_jlt 4 rfl rfl (fun hc1 => ?_) (fun hc1 => ?_)
  · refine z_vret rfl (Nat.le_refl _) (Nat.le_refl _) ?_
    first | exact absurd hc1 (by omega) | exact absurd hc9 (by omega)
  · refine z_iload 5 rfl rfl rfl ?_
    refine z_aload 6 rfl rfl rfl ?_
    refine z_get 9 rfl rfl hE.1 rfl ?_
    first | refine z_nlt 12 rfl rfl (by omega) (by omega) (fun hc9 => ?_) (fun hc9 => ?_) | refine z_klt 12 rfl rfl (by omega) (fun hc9 => ?_) (fun hc9 => ?_) | refine z_hlt 12 rfl rfl (by omega) (fun hc9 => ?_) (fun hc9 => ?_) | refine z_tlt 12 rfl rfl (fun hc9 => ?_) (fun hc9 => ?_)
    · refine z_iload 14 rfl rfl rfl ?_
      refine z_istore 15 rfl rfl rfl rfl ?_
      exact loop (c - 1 - k) k (by omega) (Nat.le_refl k) h (by rw [rmv_0, rmv_0, rmv_0, rmv_0, rmv_0]; exact hE) Fr.rfl
    · refine z_vret rfl (Nat.le_refl _) (Nat.le_refl _) ?_
      first | exact absurd hc1 (by omega) | exact absurd hc9 (by omega)
set_option maxRecDepth 10000 in
theorem c_Ent_copyFrom {d : Nat} {h : mH} {e n c e2 n2 c2 : Nat} {S T N P F S2 T2 N2 P2 F2 : Nat → Int32} {Q : mP} (hE : EntAt h e n S T N P F c) (hG : EntAt h e2 n2 S2 T2 N2 P2 F2 c2) (hn : n < 2 ^ 31) (hn2 : n2 < 2 ^ 31) (hc2 : c2 ≤ n2) (hcn : c2 ≤ n) (hd : e + 6 ≤ e2 ∨ e2 + 6 ≤ e) (hF2 : ∀ j, F2 j = 0 ∨ F2 j = 1) (q : ∀ h', EntAt h' e n (cpf S2 S c2) (cpf T2 T c2) (cpf N2 N c2) (cpf P2 P c2) (cpf F2 F c2) c2 → Fr e (e + 6) h h' → Q none h') : mWP (d + 2) 4 [.ref e, .ref e2] h Q := by
  have loop : ∀ m i, i + m = c2 → ∀ h1, EntAt h1 e n (cpf S2 S i) (cpf T2 T i) (cpf N2 N i) (cpf P2 P i) (cpf F2 F i) i → Fr e (e + 6) h h1 → mZ (d + 1) tk_4 0 0 Q 7 [some (.ref e), some (.ref e2), some (.int (nI i))] [] h1 0 0 := by
    intro m
    induction m with
    | zero =>
      intro i hi h1 hE1 hf1
      obtain rfl : i = c2 := by omega
      obtain ⟨G0, G1, G2, G3, G4, G5⟩ := hG.fr hf1 (by omega)
      refine z_iload 8 rfl rfl rfl ?_
      refine z_aload 9 rfl rfl rfl ?_
      refine z_get 12 rfl rfl G0 rfl ?_
      refine z_nge 15 rfl rfl (by omega) (by omega) (fun _ => ?_) (fun h9 => absurd h9 (by omega))
      refine z_vret rfl (Nat.le_refl _) (Nat.le_refl _) ?_
      exact q h1 hE1 hf1
    | succ m ih =>
      intro i hi h1 hE1 hf1
      obtain ⟨E0, E1, E2, E3, E4, E5⟩ := id hE1
      obtain ⟨G0, G1, G2, G3, G4, G5⟩ := hG.fr hf1 (by omega)
      refine z_iload 8 rfl rfl rfl ?_
      refine z_aload 9 rfl rfl rfl ?_
      refine z_get 12 rfl rfl (by repeat (first | exact E0 | exact E1 | exact E2 | exact E3 | exact E4 | exact E5 | exact G0 | exact G1 | exact G2 | exact G3 | exact G4 | exact G5 | exact mg_eq _ _ _ | refine mg_ne (by omega) ?_)) rfl ?_
      first | refine z_nge 15 rfl rfl (by omega) (by omega) (fun hc12 => ?_) (fun hc12 => ?_) | refine z_kge 15 rfl rfl (by omega) (fun hc12 => ?_) (fun hc12 => ?_) | refine z_hge 15 rfl rfl (by omega) (fun hc12 => ?_) (fun hc12 => ?_) | refine z_tge 15 rfl rfl (fun hc12 => ?_) (fun hc12 => ?_)
      · refine z_vret rfl (Nat.le_refl _) (Nat.le_refl _) ?_
        exact absurd hc12 (by omega)
      · refine z_aload 16 rfl rfl rfl ?_
        refine z_iload 17 rfl rfl rfl ?_
        refine z_aload 18 rfl rfl rfl ?_
        refine z_get 21 rfl rfl (by repeat (first | exact E0 | exact E1 | exact E2 | exact E3 | exact E4 | exact E5 | exact G0 | exact G1 | exact G2 | exact G3 | exact G4 | exact G5 | exact mg_eq _ _ _ | refine mg_ne (by omega) ?_)) rfl ?_
        refine z_iload 22 rfl rfl rfl ?_
        refine z_ald 23 rfl rfl (by repeat (first | exact E0 | exact E1 | exact E2 | exact E3 | exact E4 | exact E5 | exact G0 | exact G1 | exact G2 | exact G3 | exact G4 | exact G5 | exact mg_eq _ _ _ | refine mg_ne (by omega) ?_)) rfl (by omega) (by omega) ?_
        refine z_aload 24 rfl rfl rfl ?_
        refine z_get 27 rfl rfl (by repeat (first | exact E0 | exact E1 | exact E2 | exact E3 | exact E4 | exact E5 | exact G0 | exact G1 | exact G2 | exact G3 | exact G4 | exact G5 | exact mg_eq _ _ _ | refine mg_ne (by omega) ?_)) rfl ?_
        refine z_iload 28 rfl rfl rfl ?_
        refine z_ald 29 rfl rfl (by repeat (first | exact E0 | exact E1 | exact E2 | exact E3 | exact E4 | exact E5 | exact G0 | exact G1 | exact G2 | exact G3 | exact G4 | exact G5 | exact mg_eq _ _ _ | refine mg_ne (by omega) ?_)) rfl (by omega) (by omega) ?_
        refine z_aload 30 rfl rfl rfl ?_
        refine z_get 33 rfl rfl (by repeat (first | exact E0 | exact E1 | exact E2 | exact E3 | exact E4 | exact E5 | exact G0 | exact G1 | exact G2 | exact G3 | exact G4 | exact G5 | exact mg_eq _ _ _ | refine mg_ne (by omega) ?_)) rfl ?_
        refine z_iload 34 rfl rfl rfl ?_
        refine z_ald 35 rfl rfl (by repeat (first | exact E0 | exact E1 | exact E2 | exact E3 | exact E4 | exact E5 | exact G0 | exact G1 | exact G2 | exact G3 | exact G4 | exact G5 | exact mg_eq _ _ _ | refine mg_ne (by omega) ?_)) rfl (by omega) (by omega) ?_
        refine z_aload 36 rfl rfl rfl ?_
        refine z_get 39 rfl rfl (by repeat (first | exact E0 | exact E1 | exact E2 | exact E3 | exact E4 | exact E5 | exact G0 | exact G1 | exact G2 | exact G3 | exact G4 | exact G5 | exact mg_eq _ _ _ | refine mg_ne (by omega) ?_)) rfl ?_
        refine z_iload 40 rfl rfl rfl ?_
        refine z_ald 41 rfl rfl (by repeat (first | exact E0 | exact E1 | exact E2 | exact E3 | exact E4 | exact E5 | exact G0 | exact G1 | exact G2 | exact G3 | exact G4 | exact G5 | exact mg_eq _ _ _ | refine mg_ne (by omega) ?_)) rfl (by omega) (by omega) ?_
        refine z_aload 42 rfl rfl rfl ?_
        refine z_get 45 rfl rfl (by repeat (first | exact E0 | exact E1 | exact E2 | exact E3 | exact E4 | exact E5 | exact G0 | exact G1 | exact G2 | exact G3 | exact G4 | exact G5 | exact mg_eq _ _ _ | refine mg_ne (by omega) ?_)) rfl ?_
        refine z_iload 46 rfl rfl rfl ?_
        refine z_bld 47 rfl rfl (by repeat (first | exact E0 | exact E1 | exact E2 | exact E3 | exact E4 | exact E5 | exact G0 | exact G1 | exact G2 | exact G3 | exact G4 | exact G5 | exact mg_eq _ _ _ | refine mg_ne (by omega) ?_)) rfl (by omega) (by omega) ?_
        refine z_cv 50 _ rfl rfl rfl rfl (by repeat (first | exact E0 | exact E1 | exact E2 | exact E3 | exact E4 | exact E5 | exact G0 | exact G1 | exact G2 | exact G3 | exact G4 | exact G5 | exact mg_eq _ _ _ | refine mg_ne (by omega) ?_)) rfl rfl (Nat.le_refl _) (Nat.le_refl _) ?_
        refine c_Ent_put hE1 hn (by omega) (by omega) (by omega) (hF2 _) (fun h2 hE3 hf2 => ?_)
        rw [cpf_s, cpf_s, cpf_s, cpf_s, cpf_s, Nat.max_eq_right (by omega)] at hE3
        refine z_iinc 53 _ rfl rfl rfl rfl (by first | with_reducible exact zi_1 _ | rfl) ?_
        refine z_goto rfl ?_
        exact ih (i + 1) (by omega) h2 hE3 (hf1.trans hf2)
  refine z_in [some (.ref e), some (.ref e2), none] (by rfl) rfl rfl rfl ?_
  refine z_aload 1 rfl rfl rfl ?_
  refine z_push 2 (nI 0) rfl rfl rfl ?_
  refine z_put 5 rfl rfl hE.1 rfl (mFi rfl) ?_
  refine z_push 6 (nI 0) rfl rfl rfl ?_
  refine z_istore 7 rfl rfl rfl rfl ?_
  refine loop c2 0 (by omega) _ ?_ (Fr.set Fr.rfl (by omega) (by omega))
  rw [cpf_0, cpf_0, cpf_0, cpf_0, cpf_0]
  exact ⟨mg_eq _ _ _, mg_ne (by omega) hE.2.1, mg_ne (by omega) hE.2.2.1, mg_ne (by omega) hE.2.2.2.1, mg_ne (by omega) hE.2.2.2.2.1, mg_ne (by omega) hE.2.2.2.2.2⟩
set_option maxRecDepth 10000 in
theorem c_Sh_copyFrom {d : Nat} {h : mH} {e n c e2 n2 c2 : Nat} {S V G K S2 V2 G2' K2 : Nat → Int32} {Q : mP} (hE : ShAt h e n S V G K c) (hG : ShAt h e2 n2 S2 V2 G2' K2 c2) (hn : n < 2 ^ 31) (hn2 : n2 < 2 ^ 31) (hc2 : c2 ≤ n2) (hcn : c2 ≤ n) (hd : e + 5 ≤ e2 ∨ e2 + 5 ≤ e) (hF2 : ∀ j, K2 j = 0 ∨ K2 j = 1) (q : ∀ h', ShAt h' e n (cpf S2 S c2) (cpf V2 V c2) (cpf G2' G c2) (cpf K2 K c2) c2 → Fr e (e + 5) h h' → Q none h') : mWP (d + 2) 94 [.ref e, .ref e2] h Q := by
  have loop : ∀ m i, i + m = c2 → ∀ h1, ShAt h1 e n (cpf S2 S i) (cpf V2 V i) (cpf G2' G i) (cpf K2 K i) i → Fr e (e + 5) h h1 → mZ (d + 1) tk_94 0 0 Q 7 [some (.ref e), some (.ref e2), some (.int (nI i))] [] h1 0 0 := by
    intro m
    induction m with
    | zero =>
      intro i hi h1 hE1 hf1
      obtain rfl : i = c2 := by omega
      obtain ⟨G0, G1, G2, G3, G4⟩ := hG.fr hf1 (by omega)
      refine z_iload 8 rfl rfl rfl ?_
      refine z_aload 9 rfl rfl rfl ?_
      refine z_get 12 rfl rfl G0 rfl ?_
      refine z_nge 15 rfl rfl (by omega) (by omega) (fun _ => ?_) (fun h9 => absurd h9 (by omega))
      refine z_vret rfl (Nat.le_refl _) (Nat.le_refl _) ?_
      exact q h1 hE1 hf1
    | succ m ih =>
      intro i hi h1 hE1 hf1
      obtain ⟨E0, E1, E2, E3, E4⟩ := id hE1
      obtain ⟨G0, G1, G2, G3, G4⟩ := hG.fr hf1 (by omega)
      refine z_iload 8 rfl rfl rfl ?_
      refine z_aload 9 rfl rfl rfl ?_
      refine z_get 12 rfl rfl (by repeat (first | exact E0 | exact E1 | exact E2 | exact E3 | exact E4 | exact G0 | exact G1 | exact G2 | exact G3 | exact G4 | exact mg_eq _ _ _ | refine mg_ne (by omega) ?_)) rfl ?_
      first | refine z_nge 15 rfl rfl (by omega) (by omega) (fun hc12 => ?_) (fun hc12 => ?_) | refine z_kge 15 rfl rfl (by omega) (fun hc12 => ?_) (fun hc12 => ?_) | refine z_hge 15 rfl rfl (by omega) (fun hc12 => ?_) (fun hc12 => ?_) | refine z_tge 15 rfl rfl (fun hc12 => ?_) (fun hc12 => ?_)
      · refine z_vret rfl (Nat.le_refl _) (Nat.le_refl _) ?_
        exact absurd hc12 (by omega)
      · refine z_aload 16 rfl rfl rfl ?_
        refine z_aload 17 rfl rfl rfl ?_
        refine z_get 20 rfl rfl (by repeat (first | exact E0 | exact E1 | exact E2 | exact E3 | exact E4 | exact G0 | exact G1 | exact G2 | exact G3 | exact G4 | exact mg_eq _ _ _ | refine mg_ne (by omega) ?_)) rfl ?_
        refine z_iload 21 rfl rfl rfl ?_
        refine z_ald 22 rfl rfl (by repeat (first | exact E0 | exact E1 | exact E2 | exact E3 | exact E4 | exact G0 | exact G1 | exact G2 | exact G3 | exact G4 | exact mg_eq _ _ _ | refine mg_ne (by omega) ?_)) rfl (by omega) (by omega) ?_
        refine z_aload 23 rfl rfl rfl ?_
        refine z_get 26 rfl rfl (by repeat (first | exact E0 | exact E1 | exact E2 | exact E3 | exact E4 | exact G0 | exact G1 | exact G2 | exact G3 | exact G4 | exact mg_eq _ _ _ | refine mg_ne (by omega) ?_)) rfl ?_
        refine z_iload 27 rfl rfl rfl ?_
        refine z_ald 28 rfl rfl (by repeat (first | exact E0 | exact E1 | exact E2 | exact E3 | exact E4 | exact G0 | exact G1 | exact G2 | exact G3 | exact G4 | exact mg_eq _ _ _ | refine mg_ne (by omega) ?_)) rfl (by omega) (by omega) ?_
        refine z_aload 29 rfl rfl rfl ?_
        refine z_get 32 rfl rfl (by repeat (first | exact E0 | exact E1 | exact E2 | exact E3 | exact E4 | exact G0 | exact G1 | exact G2 | exact G3 | exact G4 | exact mg_eq _ _ _ | refine mg_ne (by omega) ?_)) rfl ?_
        refine z_iload 33 rfl rfl rfl ?_
        refine z_ald 34 rfl rfl (by repeat (first | exact E0 | exact E1 | exact E2 | exact E3 | exact E4 | exact G0 | exact G1 | exact G2 | exact G3 | exact G4 | exact mg_eq _ _ _ | refine mg_ne (by omega) ?_)) rfl (by omega) (by omega) ?_
        refine z_aload 35 rfl rfl rfl ?_
        refine z_get 38 rfl rfl (by repeat (first | exact E0 | exact E1 | exact E2 | exact E3 | exact E4 | exact G0 | exact G1 | exact G2 | exact G3 | exact G4 | exact mg_eq _ _ _ | refine mg_ne (by omega) ?_)) rfl ?_
        refine z_iload 39 rfl rfl rfl ?_
        refine z_bld 40 rfl rfl (by repeat (first | exact E0 | exact E1 | exact E2 | exact E3 | exact E4 | exact G0 | exact G1 | exact G2 | exact G3 | exact G4 | exact mg_eq _ _ _ | refine mg_ne (by omega) ?_)) rfl (by omega) (by omega) ?_
        refine z_cv 43 _ rfl rfl rfl rfl (by repeat (first | exact E0 | exact E1 | exact E2 | exact E3 | exact E4 | exact G0 | exact G1 | exact G2 | exact G3 | exact G4 | exact mg_eq _ _ _ | refine mg_ne (by omega) ?_)) rfl rfl (Nat.le_refl _) (Nat.le_refl _) ?_
        refine c_Sh_add hE1 hn (by omega) (hF2 _) (fun h2 hE3 hf2 => ?_)
        rw [cpf_s, cpf_s, cpf_s, cpf_s] at hE3
        refine z_iinc 46 _ rfl rfl rfl rfl (by first | with_reducible exact zi_1 _ | rfl) ?_
        refine z_goto rfl ?_
        exact ih (i + 1) (by omega) h2 hE3 (hf1.trans hf2)
  refine z_in [some (.ref e), some (.ref e2), none] (by rfl) rfl rfl rfl ?_
  refine z_aload 1 rfl rfl rfl ?_
  refine z_push 2 (nI 0) rfl rfl rfl ?_
  refine z_put 5 rfl rfl hE.1 rfl (mFi rfl) ?_
  refine z_push 6 (nI 0) rfl rfl rfl ?_
  refine z_istore 7 rfl rfl rfl rfl ?_
  refine loop c2 0 (by omega) _ ?_ (Fr.set Fr.rfl (by omega) (by omega))
  rw [cpf_0, cpf_0, cpf_0, cpf_0]
  exact ⟨mg_eq _ _ _, mg_ne (by omega) hE.2.1, mg_ne (by omega) hE.2.2.1, mg_ne (by omega) hE.2.2.2.1, mg_ne (by omega) hE.2.2.2.2⟩
end
section
/-! Shifts: sets of states; Entries.preferredOf; Shifts.removeAt -/
def tb9 (r s : Nat) : Nat := if r.testBit s = true then 1 else 0
theorem zt_bitD : ∀ r, r < 16 → ∀ s, s < 4 → (nI r >>> (nI s &&& 31)) &&& nI 1 = nI (tb9 r s) := by decide +kernel
theorem zt_bit {r s : Nat} (hr : r < 16) (hs : s < 4) : mBop 3 (nI r >>> (nI s &&& 31)) (nI 1) = nI (tb9 r s) := zt_bitD r hr s hs
theorem zt_orD : ∀ r, r < 16 → ∀ g, g < 4 → nI r ||| (nI 1 <<< (nI g &&& 31)) = nI (r ||| 1 <<< g) := by decide +kernel
theorem zt_or {r g : Nat} (hr : r < 16) (hg : g < 4) : mBop 4 (nI r) (nI 1 <<< (nI g &&& 31)) = nI (r ||| 1 <<< g) := zt_orD r hr g hg
theorem zt_lt : ∀ r, r < 16 → ∀ g, g < 4 → r ||| 1 <<< g < 16 := by decide +kernel
/-- one shift's share in a set of states -/
def rcS (s g : Nat → Nat) (kf : Nat → Bool) (r i : Nat) : Nat := if kf i = true ∧ r.testBit (s i) = true then r ||| 1 <<< g i else r
def rcF (s g : Nat → Nat) (kf : Nat → Bool) : Nat → Nat → Nat → Nat
  | 0, _, r => r
  | m + 1, i, r => rcF s g kf m (i + 1) (rcS s g kf r i)
def rcK (s g : Nat → Nat) (kf : Nat → Bool) (c : Nat) : Nat → Nat → Nat
  | 0, r => r
  | k + 1, r => rcK s g kf c k (rcF s g kf c 0 r)
theorem rcS_lt {s g : Nat → Nat} {kf : Nat → Bool} {r i : Nat} (hr : r < 16) (hg : g i < 4) : rcS s g kf r i < 16 := by
  unfold rcS
  split
  · exact zt_lt r hr _ hg
  · exact hr
theorem rcF_lt {s g : Nat → Nat} {kf : Nat → Bool} : ∀ (m i : Nat) {r : Nat}, r < 16 → (∀ j, j < i + m → g j < 4) → rcF s g kf m i r < 16
  | 0, _, _, hr, _ => hr
  | m + 1, i, _, hr, hg => rcF_lt m (i + 1) (rcS_lt hr (hg i (by omega))) (fun j hj => hg j (by omega))
theorem rcK_lt {s g : Nat → Nat} {kf : Nat → Bool} {c : Nat} (hg : ∀ j, j < c → g j < 4) : ∀ (k : Nat) {r : Nat}, r < 16 → rcK s g kf c k r < 16
  | 0, _, hr => hr
  | k + 1, _, hr => rcK_lt hg k (rcF_lt c 0 hr (fun j hj => hg j (by omega)))
theorem rcS_a {s g : Nat → Nat} {kf : Nat → Bool} {r i : Nat} (h : kf i = false) : rcS s g kf r i = r := by simp [rcS, h]
theorem rcS_b {s g : Nat → Nat} {kf : Nat → Bool} {r i : Nat} (h : kf i = true) (h2 : tb9 r (s i) = 1) : rcS s g kf r i = r ||| 1 <<< g i := by
  have h3 : r.testBit (s i) = true := by
    unfold tb9 at h2
    split at h2
    · assumption
    · cases h2
  simp [rcS, h, h3]
theorem rcS_c {s g : Nat → Nat} {kf : Nat → Bool} {r i : Nat} (h2 : ¬ tb9 r (s i) = 1) : rcS s g kf r i = r := by
  have h3 : ¬ r.testBit (s i) = true := by
    intro h3
    exact h2 (by simp [tb9, h3])
  unfold rcS
  rw [if_neg (fun h => h3 h.2)]
theorem tb9_lt (r s : Nat) : tb9 r s < 2 := by unfold tb9; split <;> decide
def sgS (s g : Nat → Nat) (kf : Nat → Bool) (fr r i : Nat) : Nat := if kf i = false ∧ fr.testBit (s i) = true then r ||| 1 <<< g i else r
def sgF (s g : Nat → Nat) (kf : Nat → Bool) (fr : Nat) : Nat → Nat → Nat → Nat
  | 0, _, r => r
  | m + 1, i, r => sgF s g kf fr m (i + 1) (sgS s g kf fr r i)
theorem sgF_lt {s g : Nat → Nat} {kf : Nat → Bool} {fr : Nat} : ∀ (m i : Nat) {r : Nat}, r < 16 → (∀ j, j < i + m → g j < 4) → sgF s g kf fr m i r < 16
  | 0, _, _, hr, _ => hr
  | m + 1, i, r, hr, hg => by
    refine sgF_lt m (i + 1) ?_ (fun j hj => hg j (by omega))
    unfold sgS
    split
    · exact zt_lt r hr _ (hg i (by omega))
    · exact hr
set_option maxRecDepth 10000 in
theorem c_Sh_reachedStates {d : Nat} {h : mH} {e n c : Nat} {s g : Nat → Nat} {V : Nat → Int32} {kf : Nat → Bool} {Q : mP} (hE : ShAt h e n (fun j => nI (s j)) V (fun j => nI (g j)) (fun j => bI (kf j)) c) (hn : n < 2 ^ 31) (hc : c ≤ n) (hs : ∀ j, j < c → s j < 4) (hg : ∀ j, j < c → g j < 4) (q : Q (some (.int (nI (rcK s g kf c 3 1)))) h) : mWP (d + 1) 95 [.ref e] h Q := by
  obtain ⟨E0, E1, E2, E3, E4⟩ := hE
  have inner : ∀ m i r (rd : Int32), i + m = c → r < 16 → mZ d tk_95 0 0 Q 59 [some (.ref e), some (.int (nI (rcF s g kf m i r))), some (.int rd), some (.int (nI c))] [] h 0 0 → mZ d tk_95 0 0 Q 11 [some (.ref e), some (.int (nI r)), some (.int rd), some (.int (nI i))] [] h 0 0 := by
    intro m
    induction m with
    | zero =>
      intro i r rd hi hr K
      obtain rfl : i = c := by omega
      refine z_iload 12 rfl rfl rfl ?_
      refine z_aload 13 rfl rfl rfl ?_
      refine z_get 16 rfl rfl E0 rfl ?_
      refine z_nge 19 rfl rfl (by omega) (by omega) (fun _ => ?_) (fun h9 => absurd h9 (by omega))
      exact K
    | succ m ih' =>
      intro i r rd hi hr K
      have ih := fun i r => ih' i r rd
      have hb9 := tb9_lt r (s i)
      refine z_iload 12 rfl rfl rfl ?_
      refine z_aload 13 rfl rfl rfl ?_
      refine z_get 16 rfl rfl (by first | exact E0 | exact E1 | exact E2 | exact E3 | exact E4) rfl ?_
      first | refine z_nge 19 rfl rfl (by omega) (by omega) (fun hc16 => ?_) (fun hc16 => ?_) | refine z_kge 19 rfl rfl (by omega) (fun hc16 => ?_) (fun hc16 => ?_) | refine z_hge 19 rfl rfl (by omega) (fun hc16 => ?_) (fun hc16 => ?_) | refine z_tge 19 rfl rfl (fun hc16 => ?_) (fun hc16 => ?_)
      · exact absurd hc16 (by omega)
      · refine z_aload 20 rfl rfl rfl ?_
        refine z_get 23 rfl rfl (by first | exact E0 | exact E1 | exact E2 | exact E3 | exact E4) rfl ?_
        refine z_iload 24 rfl rfl rfl ?_
        refine z_bld 25 rfl rfl (by first | exact E0 | exact E1 | exact E2 | exact E3 | exact E4) rfl (by omega) (by omega) ?_
        first | refine z_beq 28 rfl rfl (fun hc25 => ?_) (fun hc25 => ?_) | refine z_zeq 28 rfl rfl (by omega) (fun hc25 => ?_) (fun hc25 => ?_) | refine z_jeq 28 rfl rfl (fun hc25 => ?_) (fun hc25 => ?_)
        · refine z_iinc 56 _ rfl rfl rfl rfl (by first | with_reducible exact zi_1 _ | rfl) ?_
          refine z_goto rfl ?_
          refine ih (i + 1) _ (by omega) ?_ ?_
          · first | exact hr | exact zt_lt r hr _ (hg i (by omega))
          · have e9 : rcF s g kf (m + 1) i r = rcF s g kf m (i + 1) (rcS s g kf r i) := rfl
            rw [e9] at K
            first
            | (rw [rcS_a hc25] at K; exact K)
            | (rw [rcS_c hc39] at K; exact K)
            | (rw [rcS_b hc25 hc39] at K; exact K)
        · refine z_iload 29 rfl rfl rfl ?_
          refine z_aload 30 rfl rfl rfl ?_
          refine z_get 33 rfl rfl (by first | exact E0 | exact E1 | exact E2 | exact E3 | exact E4) rfl ?_
          refine z_iload 34 rfl rfl rfl ?_
          refine z_ald 35 rfl rfl (by first | exact E0 | exact E1 | exact E2 | exact E3 | exact E4) rfl (by omega) (by omega) ?_
          refine z_bop 36 _ rfl rfl (zd_7 _ _) ?_
          refine z_push 37 (nI 1) rfl rfl rfl ?_
          refine z_bop 38 _ rfl rfl (zt_bit hr (hs i (by omega))) ?_
          refine z_push 39 (nI 1) rfl rfl rfl ?_
          refine z_nne 42 rfl rfl (by omega) (by omega) (fun hc39 => ?_) (fun hc39 => ?_)
          · refine z_iinc 56 _ rfl rfl rfl rfl (by first | with_reducible exact zi_1 _ | rfl) ?_
            refine z_goto rfl ?_
            refine ih (i + 1) _ (by omega) ?_ ?_
            · first | exact hr | exact zt_lt r hr _ (hg i (by omega))
            · have e9 : rcF s g kf (m + 1) i r = rcF s g kf m (i + 1) (rcS s g kf r i) := rfl
              rw [e9] at K
              first
              | (rw [rcS_a hc25] at K; exact K)
              | (rw [rcS_c hc39] at K; exact K)
              | (rw [rcS_b hc25 hc39] at K; exact K)
          · refine z_iload 43 rfl rfl rfl ?_
            refine z_push 44 (nI 1) rfl rfl rfl ?_
            refine z_aload 45 rfl rfl rfl ?_
            refine z_get 48 rfl rfl (by first | exact E0 | exact E1 | exact E2 | exact E3 | exact E4) rfl ?_
            refine z_iload 49 rfl rfl rfl ?_
            refine z_ald 50 rfl rfl (by first | exact E0 | exact E1 | exact E2 | exact E3 | exact E4) rfl (by omega) (by omega) ?_
            refine z_bop 51 _ rfl rfl (zd_6 _ _) ?_
            refine z_bop 52 _ rfl rfl (zt_or hr (hg i (by omega))) ?_
            refine z_istore 53 rfl rfl rfl rfl ?_
            refine z_iinc 56 _ rfl rfl rfl rfl (by first | with_reducible exact zi_1 _ | rfl) ?_
            refine z_goto rfl ?_
            refine ih (i + 1) _ (by omega) ?_ ?_
            · first | exact hr | exact zt_lt r hr _ (hg i (by omega))
            · have e9 : rcF s g kf (m + 1) i r = rcF s g kf m (i + 1) (rcS s g kf r i) := rfl
              rw [e9] at K
              first
              | (rw [rcS_a hc25] at K; exact K)
              | (rw [rcS_c hc39] at K; exact K)
              | (rw [rcS_b hc25 hc39] at K; exact K)
  have outer : ∀ k rd r, rd + k = 4 → r < 16 → Q (some (.int (nI (rcK s g kf c k r)))) h → mZ d tk_95 0 0 Q 4 [some (.ref e), some (.int (nI r)), some (.int (nI rd)), none] [] h 0 0 ∧ ∀ x : Int32, mZ d tk_95 0 0 Q 4 [some (.ref e), some (.int (nI r)), some (.int (nI rd)), some (.int x)] [] h 0 0 := by
    intro k
    induction k with
    | zero =>
      intro rd r hrd hr hq
      refine ⟨?_, fun x => ?_⟩
      all_goals
        refine z_iload 5 rfl rfl rfl ?_
        refine z_push 6 (nI 4) rfl rfl rfl ?_
        refine z_nge 9 rfl rfl (by omega) (by omega) (fun _ => ?_) (fun h9 => absurd h9 (by omega))
        refine z_iload 66 rfl rfl rfl ?_
        refine z_ireti rfl (Nat.le_refl _) (Nat.le_refl _) ?_
        exact hq
    | succ k ih =>
      intro rd r hrd hr hq
      have hr2 := rcF_lt (s := s) (g := g) (kf := kf) c 0 hr (fun j hj => hg j (by omega))
      have K := (ih (rd + 1) _ (by omega) hr2 hq).2
      refine ⟨?_, fun x => ?_⟩
      all_goals
        refine z_iload 5 rfl rfl rfl ?_
        refine z_push 6 (nI 4) rfl rfl rfl ?_
        refine z_nge 9 rfl rfl (by omega) (by omega) (fun h9 => absurd h9 (by omega)) (fun _ => ?_)
        refine z_push 10 (nI 0) rfl rfl rfl ?_
        refine z_istore 11 rfl rfl rfl rfl ?_
        refine inner c 0 r (nI rd) (by omega) hr ?_
        refine z_iinc 62 _ rfl rfl rfl rfl (zi_1 _) ?_
        refine z_goto rfl ?_
        exact K (nI c)
  refine z_in [some (.ref e), none, none, none] (by rfl) rfl rfl rfl ?_
  refine z_push 1 (nI 1) rfl rfl rfl ?_
  refine z_istore 2 rfl rfl rfl rfl ?_
  refine z_push 3 (nI 1) rfl rfl rfl ?_
  refine z_istore 4 rfl rfl rfl rfl ?_
  exact (outer 3 1 1 (by omega) (by decide) q).1
set_option maxRecDepth 10000 in
theorem c_Sh_homingStates {d : Nat} {h : mH} {e n c : Nat} {s g : Nat → Nat} {V : Nat → Int32} {kf : Nat → Bool} {Q : mP} (hE : ShAt h e n (fun j => nI (s j)) V (fun j => nI (g j)) (fun j => bI (kf j)) c) (hn : n < 2 ^ 31) (hc : c ≤ n) (hs : ∀ j, j < c → s j < 4) (hg : ∀ j, j < c → g j < 4) (q : Q (some (.int (nI (rcK g s kf c 3 1)))) h) : mWP (d + 1) 96 [.ref e] h Q := by
  obtain ⟨E0, E1, E2, E3, E4⟩ := hE
  have inner : ∀ m i r (rd : Int32), i + m = c → r < 16 → mZ d tk_96 0 0 Q 59 [some (.ref e), some (.int (nI (rcF g s kf m i r))), some (.int rd), some (.int (nI c))] [] h 0 0 → mZ d tk_96 0 0 Q 11 [some (.ref e), some (.int (nI r)), some (.int rd), some (.int (nI i))] [] h 0 0 := by
    intro m
    induction m with
    | zero =>
      intro i r rd hi hr K
      obtain rfl : i = c := by omega
      refine z_iload 12 rfl rfl rfl ?_
      refine z_aload 13 rfl rfl rfl ?_
      refine z_get 16 rfl rfl E0 rfl ?_
      refine z_nge 19 rfl rfl (by omega) (by omega) (fun _ => ?_) (fun h9 => absurd h9 (by omega))
      exact K
    | succ m ih' =>
      intro i r rd hi hr K
      have ih := fun i r => ih' i r rd
      have hb9 := tb9_lt r (g i)
      refine z_iload 12 rfl rfl rfl ?_
      refine z_aload 13 rfl rfl rfl ?_
      refine z_get 16 rfl rfl (by first | exact E0 | exact E1 | exact E2 | exact E3 | exact E4) rfl ?_
      first | refine z_nge 19 rfl rfl (by omega) (by omega) (fun hc16 => ?_) (fun hc16 => ?_) | refine z_kge 19 rfl rfl (by omega) (fun hc16 => ?_) (fun hc16 => ?_) | refine z_hge 19 rfl rfl (by omega) (fun hc16 => ?_) (fun hc16 => ?_) | refine z_tge 19 rfl rfl (fun hc16 => ?_) (fun hc16 => ?_)
      · exact absurd hc16 (by omega)
      · refine z_aload 20 rfl rfl rfl ?_
        refine z_get 23 rfl rfl (by first | exact E0 | exact E1 | exact E2 | exact E3 | exact E4) rfl ?_
        refine z_iload 24 rfl rfl rfl ?_
        refine z_bld 25 rfl rfl (by first | exact E0 | exact E1 | exact E2 | exact E3 | exact E4) rfl (by omega) (by omega) ?_
        first | refine z_beq 28 rfl rfl (fun hc25 => ?_) (fun hc25 => ?_) | refine z_zeq 28 rfl rfl (by omega) (fun hc25 => ?_) (fun hc25 => ?_) | refine z_jeq 28 rfl rfl (fun hc25 => ?_) (fun hc25 => ?_)
        · refine z_iinc 56 _ rfl rfl rfl rfl (by first | with_reducible exact zi_1 _ | rfl) ?_
          refine z_goto rfl ?_
          refine ih (i + 1) _ (by omega) ?_ ?_
          · first | exact hr | exact zt_lt r hr _ (hs i (by omega))
          · have e9 : rcF g s kf (m + 1) i r = rcF g s kf m (i + 1) (rcS g s kf r i) := rfl
            rw [e9] at K
            first
            | (rw [rcS_a hc25] at K; exact K)
            | (rw [rcS_c hc39] at K; exact K)
            | (rw [rcS_b hc25 hc39] at K; exact K)
        · refine z_iload 29 rfl rfl rfl ?_
          refine z_aload 30 rfl rfl rfl ?_
          refine z_get 33 rfl rfl (by first | exact E0 | exact E1 | exact E2 | exact E3 | exact E4) rfl ?_
          refine z_iload 34 rfl rfl rfl ?_
          refine z_ald 35 rfl rfl (by first | exact E0 | exact E1 | exact E2 | exact E3 | exact E4) rfl (by omega) (by omega) ?_
          refine z_bop 36 _ rfl rfl (zd_7 _ _) ?_
          refine z_push 37 (nI 1) rfl rfl rfl ?_
          refine z_bop 38 _ rfl rfl (zt_bit hr (hg i (by omega))) ?_
          refine z_push 39 (nI 1) rfl rfl rfl ?_
          refine z_nne 42 rfl rfl (by omega) (by omega) (fun hc39 => ?_) (fun hc39 => ?_)
          · refine z_iinc 56 _ rfl rfl rfl rfl (by first | with_reducible exact zi_1 _ | rfl) ?_
            refine z_goto rfl ?_
            refine ih (i + 1) _ (by omega) ?_ ?_
            · first | exact hr | exact zt_lt r hr _ (hs i (by omega))
            · have e9 : rcF g s kf (m + 1) i r = rcF g s kf m (i + 1) (rcS g s kf r i) := rfl
              rw [e9] at K
              first
              | (rw [rcS_a hc25] at K; exact K)
              | (rw [rcS_c hc39] at K; exact K)
              | (rw [rcS_b hc25 hc39] at K; exact K)
          · refine z_iload 43 rfl rfl rfl ?_
            refine z_push 44 (nI 1) rfl rfl rfl ?_
            refine z_aload 45 rfl rfl rfl ?_
            refine z_get 48 rfl rfl (by first | exact E0 | exact E1 | exact E2 | exact E3 | exact E4) rfl ?_
            refine z_iload 49 rfl rfl rfl ?_
            refine z_ald 50 rfl rfl (by first | exact E0 | exact E1 | exact E2 | exact E3 | exact E4) rfl (by omega) (by omega) ?_
            refine z_bop 51 _ rfl rfl (zd_6 _ _) ?_
            refine z_bop 52 _ rfl rfl (zt_or hr (hs i (by omega))) ?_
            refine z_istore 53 rfl rfl rfl rfl ?_
            refine z_iinc 56 _ rfl rfl rfl rfl (by first | with_reducible exact zi_1 _ | rfl) ?_
            refine z_goto rfl ?_
            refine ih (i + 1) _ (by omega) ?_ ?_
            · first | exact hr | exact zt_lt r hr _ (hs i (by omega))
            · have e9 : rcF g s kf (m + 1) i r = rcF g s kf m (i + 1) (rcS g s kf r i) := rfl
              rw [e9] at K
              first
              | (rw [rcS_a hc25] at K; exact K)
              | (rw [rcS_c hc39] at K; exact K)
              | (rw [rcS_b hc25 hc39] at K; exact K)
  have outer : ∀ k rd r, rd + k = 4 → r < 16 → Q (some (.int (nI (rcK g s kf c k r)))) h → mZ d tk_96 0 0 Q 4 [some (.ref e), some (.int (nI r)), some (.int (nI rd)), none] [] h 0 0 ∧ ∀ x : Int32, mZ d tk_96 0 0 Q 4 [some (.ref e), some (.int (nI r)), some (.int (nI rd)), some (.int x)] [] h 0 0 := by
    intro k
    induction k with
    | zero =>
      intro rd r hrd hr hq
      refine ⟨?_, fun x => ?_⟩
      all_goals
        refine z_iload 5 rfl rfl rfl ?_
        refine z_push 6 (nI 4) rfl rfl rfl ?_
        refine z_nge 9 rfl rfl (by omega) (by omega) (fun _ => ?_) (fun h9 => absurd h9 (by omega))
        refine z_iload 66 rfl rfl rfl ?_
        refine z_ireti rfl (Nat.le_refl _) (Nat.le_refl _) ?_
        exact hq
    | succ k ih =>
      intro rd r hrd hr hq
      have hr2 := rcF_lt (s := g) (g := s) (kf := kf) c 0 hr (fun j hj => hs j (by omega))
      have K := (ih (rd + 1) _ (by omega) hr2 hq).2
      refine ⟨?_, fun x => ?_⟩
      all_goals
        refine z_iload 5 rfl rfl rfl ?_
        refine z_push 6 (nI 4) rfl rfl rfl ?_
        refine z_nge 9 rfl rfl (by omega) (by omega) (fun h9 => absurd h9 (by omega)) (fun _ => ?_)
        refine z_push 10 (nI 0) rfl rfl rfl ?_
        refine z_istore 11 rfl rfl rfl rfl ?_
        refine inner c 0 r (nI rd) (by omega) hr ?_
        refine z_iinc 62 _ rfl rfl rfl rfl (zi_1 _) ?_
        refine z_goto rfl ?_
        exact K (nI c)
  refine z_in [some (.ref e), none, none, none] (by rfl) rfl rfl rfl ?_
  refine z_push 1 (nI 1) rfl rfl rfl ?_
  refine z_istore 2 rfl rfl rfl rfl ?_
  refine z_push 3 (nI 1) rfl rfl rfl ?_
  refine z_istore 4 rfl rfl rfl rfl ?_
  exact (outer 3 1 1 (by omega) (by decide) q).1
theorem sgS_a {s g : Nat → Nat} {kf : Nat → Bool} {fr r i : Nat} (h : kf i = true) : sgS s g kf fr r i = r := by simp [sgS, h]
theorem sgS_b {s g : Nat → Nat} {kf : Nat → Bool} {fr r i : Nat} (h : kf i = false) (h2 : tb9 fr (s i) = 1) : sgS s g kf fr r i = r ||| 1 <<< g i := by
  have h3 : fr.testBit (s i) = true := by
    unfold tb9 at h2
    split at h2
    · assumption
    · cases h2
  simp [sgS, h, h3]
theorem sgS_c {s g : Nat → Nat} {kf : Nat → Bool} {fr r i : Nat} (h2 : ¬ tb9 fr (s i) = 1) : sgS s g kf fr r i = r := by
  have h3 : ¬ fr.testBit (s i) = true := by
    intro h3
    exact h2 (by simp [tb9, h3])
  unfold sgS
  rw [if_neg (fun h => h3 h.2)]
set_option maxRecDepth 10000 in
theorem c_Sh_singleGoals {d : Nat} {h : mH} {e n c fr : Nat} {s g : Nat → Nat} {V : Nat → Int32} {kf : Nat → Bool} {Q : mP} (hE : ShAt h e n (fun j => nI (s j)) V (fun j => nI (g j)) (fun j => bI (kf j)) c) (hn : n < 2 ^ 31) (hc : c ≤ n) (hfr : fr < 16) (hs : ∀ j, j < c → s j < 4) (hg : ∀ j, j < c → g j < 4) (q : Q (some (.int (nI (sgF s g kf fr c 0 0)))) h) : mWP (d + 1) 97 [.ref e, .int (nI fr)] h Q := by
  obtain ⟨E0, E1, E2, E3, E4⟩ := hE
  have loop : ∀ m i r, i + m = c → r < 16 → sgF s g kf fr m i r = sgF s g kf fr c 0 0 → mZ d tk_97 0 0 Q 4 [some (.ref e), some (.int (nI fr)), some (.int (nI r)), some (.int (nI i))] [] h 0 0 := by
    intro m
    induction m with
    | zero =>
      intro i r hi hr hq
      obtain rfl : i = c := by omega
      refine z_iload 5 rfl rfl rfl ?_
      refine z_aload 6 rfl rfl rfl ?_
      refine z_get 9 rfl rfl E0 rfl ?_
      refine z_nge 12 rfl rfl (by omega) (by omega) (fun _ => ?_) (fun h9 => absurd h9 (by omega))
      refine z_iload 53 rfl rfl rfl ?_
      refine z_ireti rfl (Nat.le_refl _) (Nat.le_refl _) ?_
      rw [← hq] at q
      exact q
    | succ m ih =>
      intro i r hi hr hq
      have hb9 := tb9_lt fr (s i)
      refine z_iload 5 rfl rfl rfl ?_
      refine z_aload 6 rfl rfl rfl ?_
      refine z_get 9 rfl rfl (by first | exact E0 | exact E1 | exact E2 | exact E3 | exact E4) rfl ?_
      first | refine z_nge 12 rfl rfl (by omega) (by omega) (fun hc9 => ?_) (fun hc9 => ?_) | refine z_kge 12 rfl rfl (by omega) (fun hc9 => ?_) (fun hc9 => ?_) | refine z_hge 12 rfl rfl (by omega) (fun hc9 => ?_) (fun hc9 => ?_) | refine z_tge 12 rfl rfl (fun hc9 => ?_) (fun hc9 => ?_)
      · refine z_iload 53 rfl rfl rfl ?_
        refine z_ireti rfl (Nat.le_refl _) (Nat.le_refl _) ?_
        exact absurd hc9 (by omega)
      · refine z_aload 13 rfl rfl rfl ?_
        refine z_get 16 rfl rfl (by first | exact E0 | exact E1 | exact E2 | exact E3 | exact E4) rfl ?_
        refine z_iload 17 rfl rfl rfl ?_
        refine z_bld 18 rfl rfl (by first | exact E0 | exact E1 | exact E2 | exact E3 | exact E4) rfl (by omega) (by omega) ?_
        first | refine z_bne 21 rfl rfl (fun hc18 => ?_) (fun hc18 => ?_) | refine z_zne 21 rfl rfl (by omega) (fun hc18 => ?_) (fun hc18 => ?_) | refine z_jne 21 rfl rfl (fun hc18 => ?_) (fun hc18 => ?_)
        · refine z_iinc 49 _ rfl rfl rfl rfl (by first | with_reducible exact zi_1 _ | rfl) ?_
          refine z_goto rfl ?_
          refine ih (i + 1) _ (by omega) ?_ ?_
          · first | exact hr | exact zt_lt r hr _ (hg i (by omega))
          · rw [← hq]
            first
            | (rw [show sgF s g kf fr (m + 1) i r = sgF s g kf fr m (i + 1) (sgS s g kf fr r i) from rfl, sgS_a hc18])
            | (rw [show sgF s g kf fr (m + 1) i r = sgF s g kf fr m (i + 1) (sgS s g kf fr r i) from rfl, sgS_c hc32])
            | (rw [show sgF s g kf fr (m + 1) i r = sgF s g kf fr m (i + 1) (sgS s g kf fr r i) from rfl, sgS_b hc18 hc32])
        · refine z_iload 22 rfl rfl rfl ?_
          refine z_aload 23 rfl rfl rfl ?_
          refine z_get 26 rfl rfl (by first | exact E0 | exact E1 | exact E2 | exact E3 | exact E4) rfl ?_
          refine z_iload 27 rfl rfl rfl ?_
          refine z_ald 28 rfl rfl (by first | exact E0 | exact E1 | exact E2 | exact E3 | exact E4) rfl (by omega) (by omega) ?_
          refine z_bop 29 _ rfl rfl (zd_7 _ _) ?_
          refine z_push 30 (nI 1) rfl rfl rfl ?_
          refine z_bop 31 _ rfl rfl (zt_bit hfr (hs i (by omega))) ?_
          refine z_push 32 (nI 1) rfl rfl rfl ?_
          refine z_nne 35 rfl rfl (by omega) (by omega) (fun hc32 => ?_) (fun hc32 => ?_)
          · refine z_iinc 49 _ rfl rfl rfl rfl (by first | with_reducible exact zi_1 _ | rfl) ?_
            refine z_goto rfl ?_
            refine ih (i + 1) _ (by omega) ?_ ?_
            · first | exact hr | exact zt_lt r hr _ (hg i (by omega))
            · rw [← hq]
              first
              | (rw [show sgF s g kf fr (m + 1) i r = sgF s g kf fr m (i + 1) (sgS s g kf fr r i) from rfl, sgS_a hc18])
              | (rw [show sgF s g kf fr (m + 1) i r = sgF s g kf fr m (i + 1) (sgS s g kf fr r i) from rfl, sgS_c hc32])
              | (rw [show sgF s g kf fr (m + 1) i r = sgF s g kf fr m (i + 1) (sgS s g kf fr r i) from rfl, sgS_b hc18 hc32])
          · refine z_iload 36 rfl rfl rfl ?_
            refine z_push 37 (nI 1) rfl rfl rfl ?_
            refine z_aload 38 rfl rfl rfl ?_
            refine z_get 41 rfl rfl (by first | exact E0 | exact E1 | exact E2 | exact E3 | exact E4) rfl ?_
            refine z_iload 42 rfl rfl rfl ?_
            refine z_ald 43 rfl rfl (by first | exact E0 | exact E1 | exact E2 | exact E3 | exact E4) rfl (by omega) (by omega) ?_
            refine z_bop 44 _ rfl rfl (zd_6 _ _) ?_
            refine z_bop 45 _ rfl rfl (zt_or hr (hg i (by omega))) ?_
            refine z_istore 46 rfl rfl rfl rfl ?_
            refine z_iinc 49 _ rfl rfl rfl rfl (by first | with_reducible exact zi_1 _ | rfl) ?_
            refine z_goto rfl ?_
            refine ih (i + 1) _ (by omega) ?_ ?_
            · first | exact hr | exact zt_lt r hr _ (hg i (by omega))
            · rw [← hq]
              first
              | (rw [show sgF s g kf fr (m + 1) i r = sgF s g kf fr m (i + 1) (sgS s g kf fr r i) from rfl, sgS_a hc18])
              | (rw [show sgF s g kf fr (m + 1) i r = sgF s g kf fr m (i + 1) (sgS s g kf fr r i) from rfl, sgS_c hc32])
              | (rw [show sgF s g kf fr (m + 1) i r = sgF s g kf fr m (i + 1) (sgS s g kf fr r i) from rfl, sgS_b hc18 hc32])
  refine z_in [some (.ref e), some (.int (nI fr)), none, none] (by rfl) rfl rfl rfl ?_
  refine z_push 1 (nI 0) rfl rfl rfl ?_
  refine z_istore 2 rfl rfl rfl rfl ?_
  refine z_push 3 (nI 0) rfl rfl rfl ?_
  refine z_istore 4 rfl rfl rfl rfl ?_
  exact loop c 0 0 (by omega) (by decide) rfl
end
