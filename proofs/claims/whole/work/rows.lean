section
-- ===== PART A: goes FIRST, ahead of the names: the tables' words, and 'selects' of the private methods out of them =====
/-- a private method of a class that the tables say can be made, by its rows of tables_1 -/
def lw_okq (q : MethodName × Nat) : Prop := (q.1.cls ≠ "java/lang/invoke/MethodHandle" ∧ q.1.cls ≠ "java/lang/invoke/VarHandle") ∧ Cond.instantiable q.1.cls q.2 ∈ tables_1 ∧ Cond.privateMethod q.1 ∈ tables_1 ∧ Cond.instanceMethod q.1 ∈ tables_1
theorem lw_p0 : lw_okq (⟨"PlyHouse$Log", "putRow", "(II)Z"⟩, 5) := ⟨⟨by decide +kernel, by decide +kernel⟩, List.mem_of_getElem? (i := 28) (by decide +kernel), List.mem_of_getElem? (i := 390) (by decide +kernel), List.mem_of_getElem? (i := 391) (by decide +kernel)⟩
theorem lw_p1 : lw_okq (⟨"PlyHouse$Log", "findCentre", "()V"⟩, 5) := ⟨⟨by decide +kernel, by decide +kernel⟩, List.mem_of_getElem? (i := 28) (by decide +kernel), List.mem_of_getElem? (i := 402) (by decide +kernel), List.mem_of_getElem? (i := 403) (by decide +kernel)⟩
theorem lw_p2 : lw_okq (⟨"PlyHouse$Log", "growAt", "(II)V"⟩, 5) := ⟨⟨by decide +kernel, by decide +kernel⟩, List.mem_of_getElem? (i := 28) (by decide +kernel), List.mem_of_getElem? (i := 406) (by decide +kernel), List.mem_of_getElem? (i := 407) (by decide +kernel)⟩
theorem lw_p3 : lw_okq (⟨"PlyHouse$Log", "discFits", "(III)Z"⟩, 5) := ⟨⟨by decide +kernel, by decide +kernel⟩, List.mem_of_getElem? (i := 28) (by decide +kernel), List.mem_of_getElem? (i := 410) (by decide +kernel), List.mem_of_getElem? (i := 411) (by decide +kernel)⟩
theorem lw_p4 : lw_okq (⟨"PlyHouse$Log", "hasCells", "(II)Z"⟩, 5) := ⟨⟨by decide +kernel, by decide +kernel⟩, List.mem_of_getElem? (i := 28) (by decide +kernel), List.mem_of_getElem? (i := 414) (by decide +kernel), List.mem_of_getElem? (i := 415) (by decide +kernel)⟩
theorem lw_p5 : lw_okq (⟨"PlyHouse$Log", "peeled", "(II)I"⟩, 5) := ⟨⟨by decide +kernel, by decide +kernel⟩, List.mem_of_getElem? (i := 28) (by decide +kernel), List.mem_of_getElem? (i := 423) (by decide +kernel), List.mem_of_getElem? (i := 424) (by decide +kernel)⟩
theorem lw_p6 : lw_okq (⟨"PlyHouse$Tape", "hasRoomForFeed", "()Z"⟩, 2) := ⟨⟨by decide +kernel, by decide +kernel⟩, List.mem_of_getElem? (i := 54) (by decide +kernel), List.mem_of_getElem? (i := 431) (by decide +kernel), List.mem_of_getElem? (i := 432) (by decide +kernel)⟩
theorem lw_p7 : lw_okq (⟨"PlyHouse$Tape", "append", "(I)V"⟩, 2) := ⟨⟨by decide +kernel, by decide +kernel⟩, List.mem_of_getElem? (i := 54) (by decide +kernel), List.mem_of_getElem? (i := 435) (by decide +kernel), List.mem_of_getElem? (i := 436) (by decide +kernel)⟩
theorem lw_p8 : lw_okq (⟨"PlyHouse$Tape", "keep", "(I)Z"⟩, 2) := ⟨⟨by decide +kernel, by decide +kernel⟩, List.mem_of_getElem? (i := 54) (by decide +kernel), List.mem_of_getElem? (i := 443) (by decide +kernel), List.mem_of_getElem? (i := 444) (by decide +kernel)⟩
theorem lw_p9 : lw_okq (⟨"PlyHouse$GradeReader", "readLines", "(LPlyHouse$Tape;)Z"⟩, 6) := ⟨⟨by decide +kernel, by decide +kernel⟩, List.mem_of_getElem? (i := 70) (by decide +kernel), List.mem_of_getElem? (i := 451) (by decide +kernel), List.mem_of_getElem? (i := 452) (by decide +kernel)⟩
theorem lw_p10 : lw_okq (⟨"PlyHouse$Tokens", "split", "(LPlyHouse$Tape;)V"⟩, 3) := ⟨⟨by decide +kernel, by decide +kernel⟩, List.mem_of_getElem? (i := 76) (by decide +kernel), List.mem_of_getElem? (i := 455) (by decide +kernel), List.mem_of_getElem? (i := 456) (by decide +kernel)⟩
theorem lw_p11 : lw_okq (⟨"PlyHouse$Tape", "byteAt", "(I)I"⟩, 2) := ⟨⟨by decide +kernel, by decide +kernel⟩, List.mem_of_getElem? (i := 54) (by decide +kernel), List.mem_of_getElem? (i := 462) (by decide +kernel), List.mem_of_getElem? (i := 463) (by decide +kernel)⟩
theorem lw_p12 : lw_okq (⟨"PlyHouse$Tokens", "add", "(II)V"⟩, 3) := ⟨⟨by decide +kernel, by decide +kernel⟩, List.mem_of_getElem? (i := 76) (by decide +kernel), List.mem_of_getElem? (i := 556) (by decide +kernel), List.mem_of_getElem? (i := 557) (by decide +kernel)⟩
theorem lw_p13 : lw_okq (⟨"PlyHouse$Grades", "clear", "()V"⟩, 8) := ⟨⟨by decide +kernel, by decide +kernel⟩, List.mem_of_getElem? (i := 95) (by decide +kernel), List.mem_of_getElem? (i := 560) (by decide +kernel), List.mem_of_getElem? (i := 561) (by decide +kernel)⟩
theorem lw_p14 : lw_okq (⟨"PlyHouse$GradeReader", "advance", "()V"⟩, 6) := ⟨⟨by decide +kernel, by decide +kernel⟩, List.mem_of_getElem? (i := 70) (by decide +kernel), List.mem_of_getElem? (i := 564) (by decide +kernel), List.mem_of_getElem? (i := 565) (by decide +kernel)⟩
theorem lw_p15 : lw_okq (⟨"PlyHouse$GradeReader", "readLine", "()Z"⟩, 6) := ⟨⟨by decide +kernel, by decide +kernel⟩, List.mem_of_getElem? (i := 70) (by decide +kernel), List.mem_of_getElem? (i := 568) (by decide +kernel), List.mem_of_getElem? (i := 569) (by decide +kernel)⟩
def lw_privs_1 : List (MethodName × Nat) := [(⟨"PlyHouse$Log", "putRow", "(II)Z"⟩, 5), (⟨"PlyHouse$Log", "findCentre", "()V"⟩, 5), (⟨"PlyHouse$Log", "growAt", "(II)V"⟩, 5), (⟨"PlyHouse$Log", "discFits", "(III)Z"⟩, 5), (⟨"PlyHouse$Log", "hasCells", "(II)Z"⟩, 5), (⟨"PlyHouse$Log", "peeled", "(II)I"⟩, 5), (⟨"PlyHouse$Tape", "hasRoomForFeed", "()Z"⟩, 2), (⟨"PlyHouse$Tape", "append", "(I)V"⟩, 2), (⟨"PlyHouse$Tape", "keep", "(I)Z"⟩, 2), (⟨"PlyHouse$GradeReader", "readLines", "(LPlyHouse$Tape;)Z"⟩, 6), (⟨"PlyHouse$Tokens", "split", "(LPlyHouse$Tape;)V"⟩, 3), (⟨"PlyHouse$Tape", "byteAt", "(I)I"⟩, 2), (⟨"PlyHouse$Tokens", "add", "(II)V"⟩, 3), (⟨"PlyHouse$Grades", "clear", "()V"⟩, 8), (⟨"PlyHouse$GradeReader", "advance", "()V"⟩, 6), (⟨"PlyHouse$GradeReader", "readLine", "()Z"⟩, 6)]
theorem lw_r1 : ∀ q ∈ lw_privs_1, lw_okq q := List.forall_mem_cons.mpr ⟨lw_p0, List.forall_mem_cons.mpr ⟨lw_p1, List.forall_mem_cons.mpr ⟨lw_p2, List.forall_mem_cons.mpr ⟨lw_p3, List.forall_mem_cons.mpr ⟨lw_p4, List.forall_mem_cons.mpr ⟨lw_p5, List.forall_mem_cons.mpr ⟨lw_p6, List.forall_mem_cons.mpr ⟨lw_p7, List.forall_mem_cons.mpr ⟨lw_p8, List.forall_mem_cons.mpr ⟨lw_p9, List.forall_mem_cons.mpr ⟨lw_p10, List.forall_mem_cons.mpr ⟨lw_p11, List.forall_mem_cons.mpr ⟨lw_p12, List.forall_mem_cons.mpr ⟨lw_p13, List.forall_mem_cons.mpr ⟨lw_p14, List.forall_mem_cons.mpr ⟨lw_p15, fun _ h => absurd h List.not_mem_nil⟩⟩⟩⟩⟩⟩⟩⟩⟩⟩⟩⟩⟩⟩⟩⟩
theorem lw_p16 : lw_okq (⟨"PlyHouse$GradeReader", "readToken", "(I)Z"⟩, 6) := ⟨⟨by decide +kernel, by decide +kernel⟩, List.mem_of_getElem? (i := 70) (by decide +kernel), List.mem_of_getElem? (i := 572) (by decide +kernel), List.mem_of_getElem? (i := 573) (by decide +kernel)⟩
theorem lw_p17 : lw_okq (⟨"PlyHouse$GradeReader", "refuse", "()Z"⟩, 6) := ⟨⟨by decide +kernel, by decide +kernel⟩, List.mem_of_getElem? (i := 70) (by decide +kernel), List.mem_of_getElem? (i := 576) (by decide +kernel), List.mem_of_getElem? (i := 577) (by decide +kernel)⟩
theorem lw_p18 : lw_okq (⟨"PlyHouse$GradeReader", "readNumber", "(II)Z"⟩, 6) := ⟨⟨by decide +kernel, by decide +kernel⟩, List.mem_of_getElem? (i := 70) (by decide +kernel), List.mem_of_getElem? (i := 580) (by decide +kernel), List.mem_of_getElem? (i := 581) (by decide +kernel)⟩
theorem lw_p19 : lw_okq (⟨"PlyHouse$GradeReader", "readEither", "(I)Z"⟩, 6) := ⟨⟨by decide +kernel, by decide +kernel⟩, List.mem_of_getElem? (i := 70) (by decide +kernel), List.mem_of_getElem? (i := 585) (by decide +kernel), List.mem_of_getElem? (i := 586) (by decide +kernel)⟩
theorem lw_p20 : lw_okq (⟨"PlyHouse$GradeReader", "readBoth", "(I)Z"⟩, 6) := ⟨⟨by decide +kernel, by decide +kernel⟩, List.mem_of_getElem? (i := 70) (by decide +kernel), List.mem_of_getElem? (i := 589) (by decide +kernel), List.mem_of_getElem? (i := 590) (by decide +kernel)⟩
theorem lw_p21 : lw_okq (⟨"PlyHouse$GradeReader", "readOne", "(I)Z"⟩, 6) := ⟨⟨by decide +kernel, by decide +kernel⟩, List.mem_of_getElem? (i := 70) (by decide +kernel), List.mem_of_getElem? (i := 593) (by decide +kernel), List.mem_of_getElem? (i := 594) (by decide +kernel)⟩
theorem lw_p22 : lw_okq (⟨"PlyHouse$Grades", "emit", "(I)V"⟩, 8) := ⟨⟨by decide +kernel, by decide +kernel⟩, List.mem_of_getElem? (i := 95) (by decide +kernel), List.mem_of_getElem? (i := 597) (by decide +kernel), List.mem_of_getElem? (i := 598) (by decide +kernel)⟩
theorem lw_p23 : lw_okq (⟨"PlyHouse$GradeReader", "readSum", "()Z"⟩, 6) := ⟨⟨by decide +kernel, by decide +kernel⟩, List.mem_of_getElem? (i := 70) (by decide +kernel), List.mem_of_getElem? (i := 601) (by decide +kernel), List.mem_of_getElem? (i := 602) (by decide +kernel)⟩
theorem lw_p24 : lw_okq (⟨"PlyHouse$Grades", "addLine", "(II)V"⟩, 8) := ⟨⟨by decide +kernel, by decide +kernel⟩, List.mem_of_getElem? (i := 95) (by decide +kernel), List.mem_of_getElem? (i := 605) (by decide +kernel), List.mem_of_getElem? (i := 606) (by decide +kernel)⟩
theorem lw_p25 : lw_okq (⟨"PlyHouse$GradeReader", "placeReached", "()I"⟩, 6) := ⟨⟨by decide +kernel, by decide +kernel⟩, List.mem_of_getElem? (i := 70) (by decide +kernel), List.mem_of_getElem? (i := 609) (by decide +kernel), List.mem_of_getElem? (i := 610) (by decide +kernel)⟩
theorem lw_p26 : lw_okq (⟨"PlyHouse$Grades", "copyFrom", "(LPlyHouse$Grades;)V"⟩, 8) := ⟨⟨by decide +kernel, by decide +kernel⟩, List.mem_of_getElem? (i := 95) (by decide +kernel), List.mem_of_getElem? (i := 613) (by decide +kernel), List.mem_of_getElem? (i := 614) (by decide +kernel)⟩
theorem lw_p27 : lw_okq (⟨"PlyHouse$Clipping", "forget", "()V"⟩, 12) := ⟨⟨by decide +kernel, by decide +kernel⟩, List.mem_of_getElem? (i := 182) (by decide +kernel), List.mem_of_getElem? (i := 617) (by decide +kernel), List.mem_of_getElem? (i := 618) (by decide +kernel)⟩
theorem lw_p28 : lw_okq (⟨"PlyHouse$Leaf", "take", "(LPlyHouse$Tape;)V"⟩, 6) := ⟨⟨by decide +kernel, by decide +kernel⟩, List.mem_of_getElem? (i := 151) (by decide +kernel), List.mem_of_getElem? (i := 637) (by decide +kernel), List.mem_of_getElem? (i := 638) (by decide +kernel)⟩
theorem lw_p29 : lw_okq (⟨"PlyHouse$Clipping", "setPatching", "(II)V"⟩, 12) := ⟨⟨by decide +kernel, by decide +kernel⟩, List.mem_of_getElem? (i := 182) (by decide +kernel), List.mem_of_getElem? (i := 648) (by decide +kernel), List.mem_of_getElem? (i := 649) (by decide +kernel)⟩
theorem lw_p30 : lw_okq (⟨"PlyHouse$Grades", "widthOf", "(I)I"⟩, 8) := ⟨⟨by decide +kernel, by decide +kernel⟩, List.mem_of_getElem? (i := 95) (by decide +kernel), List.mem_of_getElem? (i := 656) (by decide +kernel), List.mem_of_getElem? (i := 657) (by decide +kernel)⟩
theorem lw_p31 : lw_okq (⟨"PlyHouse$Clipping", "isSheet", "(III)Z"⟩, 12) := ⟨⟨by decide +kernel, by decide +kernel⟩, List.mem_of_getElem? (i := 182) (by decide +kernel), List.mem_of_getElem? (i := 660) (by decide +kernel), List.mem_of_getElem? (i := 661) (by decide +kernel)⟩
def lw_privs_2 : List (MethodName × Nat) := [(⟨"PlyHouse$GradeReader", "readToken", "(I)Z"⟩, 6), (⟨"PlyHouse$GradeReader", "refuse", "()Z"⟩, 6), (⟨"PlyHouse$GradeReader", "readNumber", "(II)Z"⟩, 6), (⟨"PlyHouse$GradeReader", "readEither", "(I)Z"⟩, 6), (⟨"PlyHouse$GradeReader", "readBoth", "(I)Z"⟩, 6), (⟨"PlyHouse$GradeReader", "readOne", "(I)Z"⟩, 6), (⟨"PlyHouse$Grades", "emit", "(I)V"⟩, 8), (⟨"PlyHouse$GradeReader", "readSum", "()Z"⟩, 6), (⟨"PlyHouse$Grades", "addLine", "(II)V"⟩, 8), (⟨"PlyHouse$GradeReader", "placeReached", "()I"⟩, 6), (⟨"PlyHouse$Grades", "copyFrom", "(LPlyHouse$Grades;)V"⟩, 8), (⟨"PlyHouse$Clipping", "forget", "()V"⟩, 12), (⟨"PlyHouse$Leaf", "take", "(LPlyHouse$Tape;)V"⟩, 6), (⟨"PlyHouse$Clipping", "setPatching", "(II)V"⟩, 12), (⟨"PlyHouse$Grades", "widthOf", "(I)I"⟩, 8), (⟨"PlyHouse$Clipping", "isSheet", "(III)Z"⟩, 12)]
theorem lw_r2 : ∀ q ∈ lw_privs_2, lw_okq q := List.forall_mem_cons.mpr ⟨lw_p16, List.forall_mem_cons.mpr ⟨lw_p17, List.forall_mem_cons.mpr ⟨lw_p18, List.forall_mem_cons.mpr ⟨lw_p19, List.forall_mem_cons.mpr ⟨lw_p20, List.forall_mem_cons.mpr ⟨lw_p21, List.forall_mem_cons.mpr ⟨lw_p22, List.forall_mem_cons.mpr ⟨lw_p23, List.forall_mem_cons.mpr ⟨lw_p24, List.forall_mem_cons.mpr ⟨lw_p25, List.forall_mem_cons.mpr ⟨lw_p26, List.forall_mem_cons.mpr ⟨lw_p27, List.forall_mem_cons.mpr ⟨lw_p28, List.forall_mem_cons.mpr ⟨lw_p29, List.forall_mem_cons.mpr ⟨lw_p30, List.forall_mem_cons.mpr ⟨lw_p31, fun _ h => absurd h List.not_mem_nil⟩⟩⟩⟩⟩⟩⟩⟩⟩⟩⟩⟩⟩⟩⟩⟩
theorem lw_p32 : lw_okq (⟨"PlyHouse$Part", "beginAt", "(I)V"⟩, 9) := ⟨⟨by decide +kernel, by decide +kernel⟩, List.mem_of_getElem? (i := 188) (by decide +kernel), List.mem_of_getElem? (i := 664) (by decide +kernel), List.mem_of_getElem? (i := 665) (by decide +kernel)⟩
theorem lw_p33 : lw_okq (⟨"PlyHouse$Leaf", "listRuns", "(I[I)V"⟩, 6) := ⟨⟨by decide +kernel, by decide +kernel⟩, List.mem_of_getElem? (i := 151) (by decide +kernel), List.mem_of_getElem? (i := 668) (by decide +kernel), List.mem_of_getElem? (i := 669) (by decide +kernel)⟩
theorem lw_p34 : lw_okq (⟨"PlyHouse$Part", "endBefore", "(I)V"⟩, 9) := ⟨⟨by decide +kernel, by decide +kernel⟩, List.mem_of_getElem? (i := 188) (by decide +kernel), List.mem_of_getElem? (i := 674) (by decide +kernel), List.mem_of_getElem? (i := 675) (by decide +kernel)⟩
theorem lw_p35 : lw_okq (⟨"PlyHouse$Clipping", "partIsSheet", "(II)Z"⟩, 12) := ⟨⟨by decide +kernel, by decide +kernel⟩, List.mem_of_getElem? (i := 182) (by decide +kernel), List.mem_of_getElem? (i := 681) (by decide +kernel), List.mem_of_getElem? (i := 682) (by decide +kernel)⟩
theorem lw_p36 : lw_okq (⟨"PlyHouse$Grades", "holds", "(ILPlyHouse$Part;)Z"⟩, 8) := ⟨⟨by decide +kernel, by decide +kernel⟩, List.mem_of_getElem? (i := 95) (by decide +kernel), List.mem_of_getElem? (i := 685) (by decide +kernel), List.mem_of_getElem? (i := 686) (by decide +kernel)⟩
theorem lw_p37 : lw_okq (⟨"PlyHouse$Grades", "codeEndOf", "(I)I"⟩, 8) := ⟨⟨by decide +kernel, by decide +kernel⟩, List.mem_of_getElem? (i := 95) (by decide +kernel), List.mem_of_getElem? (i := 689) (by decide +kernel), List.mem_of_getElem? (i := 690) (by decide +kernel)⟩
theorem lw_p38 : lw_okq (⟨"PlyHouse$Grades", "doStep", "(ILPlyHouse$Part;)V"⟩, 8) := ⟨⟨by decide +kernel, by decide +kernel⟩, List.mem_of_getElem? (i := 95) (by decide +kernel), List.mem_of_getElem? (i := 695) (by decide +kernel), List.mem_of_getElem? (i := 696) (by decide +kernel)⟩
theorem lw_p39 : lw_okq (⟨"PlyHouse$Grades", "push", "(I)V"⟩, 8) := ⟨⟨by decide +kernel, by decide +kernel⟩, List.mem_of_getElem? (i := 95) (by decide +kernel), List.mem_of_getElem? (i := 699) (by decide +kernel), List.mem_of_getElem? (i := 700) (by decide +kernel)⟩
theorem lw_p40 : lw_okq (⟨"PlyHouse$Part", "countOf", "(I)I"⟩, 9) := ⟨⟨by decide +kernel, by decide +kernel⟩, List.mem_of_getElem? (i := 188) (by decide +kernel), List.mem_of_getElem? (i := 703) (by decide +kernel), List.mem_of_getElem? (i := 704) (by decide +kernel)⟩
theorem lw_p41 : lw_okq (⟨"PlyHouse$Grades", "pop", "()I"⟩, 8) := ⟨⟨by decide +kernel, by decide +kernel⟩, List.mem_of_getElem? (i := 95) (by decide +kernel), List.mem_of_getElem? (i := 707) (by decide +kernel), List.mem_of_getElem? (i := 708) (by decide +kernel)⟩
theorem lw_p42 : lw_okq (⟨"PlyHouse$Clipping", "find", "()V"⟩, 12) := ⟨⟨by decide +kernel, by decide +kernel⟩, List.mem_of_getElem? (i := 182) (by decide +kernel), List.mem_of_getElem? (i := 718) (by decide +kernel), List.mem_of_getElem? (i := 719) (by decide +kernel)⟩
theorem lw_p43 : lw_okq (⟨"PlyHouse$Clipping", "trySheets", "(II)V"⟩, 12) := ⟨⟨by decide +kernel, by decide +kernel⟩, List.mem_of_getElem? (i := 182) (by decide +kernel), List.mem_of_getElem? (i := 723) (by decide +kernel), List.mem_of_getElem? (i := 724) (by decide +kernel)⟩
theorem lw_p44 : lw_okq (⟨"PlyHouse$Grades", "worthOf", "(I)I"⟩, 8) := ⟨⟨by decide +kernel, by decide +kernel⟩, List.mem_of_getElem? (i := 95) (by decide +kernel), List.mem_of_getElem? (i := 727) (by decide +kernel), List.mem_of_getElem? (i := 728) (by decide +kernel)⟩
theorem lw_p45 : lw_okq (⟨"PlyHouse$Clipping", "isBetter", "(III)Z"⟩, 12) := ⟨⟨by decide +kernel, by decide +kernel⟩, List.mem_of_getElem? (i := 182) (by decide +kernel), List.mem_of_getElem? (i := 731) (by decide +kernel), List.mem_of_getElem? (i := 732) (by decide +kernel)⟩
theorem lw_p46 : lw_okq (⟨"PlyHouse$Clipping", "listSheets", "(I)V"⟩, 12) := ⟨⟨by decide +kernel, by decide +kernel⟩, List.mem_of_getElem? (i := 182) (by decide +kernel), List.mem_of_getElem? (i := 735) (by decide +kernel), List.mem_of_getElem? (i := 736) (by decide +kernel)⟩
theorem lw_p47 : lw_okq (⟨"PlyHouse$Clipping", "totalWorth", "()I"⟩, 12) := ⟨⟨by decide +kernel, by decide +kernel⟩, List.mem_of_getElem? (i := 182) (by decide +kernel), List.mem_of_getElem? (i := 739) (by decide +kernel), List.mem_of_getElem? (i := 740) (by decide +kernel)⟩
def lw_privs_3 : List (MethodName × Nat) := [(⟨"PlyHouse$Part", "beginAt", "(I)V"⟩, 9), (⟨"PlyHouse$Leaf", "listRuns", "(I[I)V"⟩, 6), (⟨"PlyHouse$Part", "endBefore", "(I)V"⟩, 9), (⟨"PlyHouse$Clipping", "partIsSheet", "(II)Z"⟩, 12), (⟨"PlyHouse$Grades", "holds", "(ILPlyHouse$Part;)Z"⟩, 8), (⟨"PlyHouse$Grades", "codeEndOf", "(I)I"⟩, 8), (⟨"PlyHouse$Grades", "doStep", "(ILPlyHouse$Part;)V"⟩, 8), (⟨"PlyHouse$Grades", "push", "(I)V"⟩, 8), (⟨"PlyHouse$Part", "countOf", "(I)I"⟩, 9), (⟨"PlyHouse$Grades", "pop", "()I"⟩, 8), (⟨"PlyHouse$Clipping", "find", "()V"⟩, 12), (⟨"PlyHouse$Clipping", "trySheets", "(II)V"⟩, 12), (⟨"PlyHouse$Grades", "worthOf", "(I)I"⟩, 8), (⟨"PlyHouse$Clipping", "isBetter", "(III)Z"⟩, 12), (⟨"PlyHouse$Clipping", "listSheets", "(I)V"⟩, 12), (⟨"PlyHouse$Clipping", "totalWorth", "()I"⟩, 12)]
theorem lw_r3 : ∀ q ∈ lw_privs_3, lw_okq q := List.forall_mem_cons.mpr ⟨lw_p32, List.forall_mem_cons.mpr ⟨lw_p33, List.forall_mem_cons.mpr ⟨lw_p34, List.forall_mem_cons.mpr ⟨lw_p35, List.forall_mem_cons.mpr ⟨lw_p36, List.forall_mem_cons.mpr ⟨lw_p37, List.forall_mem_cons.mpr ⟨lw_p38, List.forall_mem_cons.mpr ⟨lw_p39, List.forall_mem_cons.mpr ⟨lw_p40, List.forall_mem_cons.mpr ⟨lw_p41, List.forall_mem_cons.mpr ⟨lw_p42, List.forall_mem_cons.mpr ⟨lw_p43, List.forall_mem_cons.mpr ⟨lw_p44, List.forall_mem_cons.mpr ⟨lw_p45, List.forall_mem_cons.mpr ⟨lw_p46, List.forall_mem_cons.mpr ⟨lw_p47, fun _ h => absurd h List.not_mem_nil⟩⟩⟩⟩⟩⟩⟩⟩⟩⟩⟩⟩⟩⟩⟩⟩
theorem lw_p48 : lw_okq (⟨"PlyHouse$Clipping", "tell", "(II)I"⟩, 12) := ⟨⟨by decide +kernel, by decide +kernel⟩, List.mem_of_getElem? (i := 182) (by decide +kernel), List.mem_of_getElem? (i := 751) (by decide +kernel), List.mem_of_getElem? (i := 752) (by decide +kernel)⟩
theorem lw_p49 : lw_okq (⟨"PlyHouse$Veneers", "set", "(IIIIZ)V"⟩, 9) := ⟨⟨by decide +kernel, by decide +kernel⟩, List.mem_of_getElem? (i := 262) (by decide +kernel), List.mem_of_getElem? (i := 760) (by decide +kernel), List.mem_of_getElem? (i := 761) (by decide +kernel)⟩
theorem lw_p50 : lw_okq (⟨"PlyHouse$Veneers", "thinOf", "(II)I"⟩, 9) := ⟨⟨by decide +kernel, by decide +kernel⟩, List.mem_of_getElem? (i := 262) (by decide +kernel), List.mem_of_getElem? (i := 775) (by decide +kernel), List.mem_of_getElem? (i := 776) (by decide +kernel)⟩
theorem lw_p51 : lw_okq (⟨"PlyHouse$Veneers", "thickOf", "(II)I"⟩, 9) := ⟨⟨by decide +kernel, by decide +kernel⟩, List.mem_of_getElem? (i := 262) (by decide +kernel), List.mem_of_getElem? (i := 785) (by decide +kernel), List.mem_of_getElem? (i := 786) (by decide +kernel)⟩
theorem lw_p52 : lw_okq (⟨"PlyHouse$Veneers", "priceOf", "(II)I"⟩, 9) := ⟨⟨by decide +kernel, by decide +kernel⟩, List.mem_of_getElem? (i := 262) (by decide +kernel), List.mem_of_getElem? (i := 789) (by decide +kernel), List.mem_of_getElem? (i := 790) (by decide +kernel)⟩
theorem lw_p53 : lw_okq (⟨"PlyHouse$Veneers", "warpOf", "(II)I"⟩, 9) := ⟨⟨by decide +kernel, by decide +kernel⟩, List.mem_of_getElem? (i := 262) (by decide +kernel), List.mem_of_getElem? (i := 797) (by decide +kernel), List.mem_of_getElem? (i := 798) (by decide +kernel)⟩
theorem lw_p54 : lw_okq (⟨"PlyHouse$Veneers", "cheapest", "(III)I"⟩, 9) := ⟨⟨by decide +kernel, by decide +kernel⟩, List.mem_of_getElem? (i := 262) (by decide +kernel), List.mem_of_getElem? (i := 806) (by decide +kernel), List.mem_of_getElem? (i := 807) (by decide +kernel)⟩
theorem lw_p55 : lw_okq (⟨"PlyHouse$Veneers", "lay", "(IIIII)V"⟩, 9) := ⟨⟨by decide +kernel, by decide +kernel⟩, List.mem_of_getElem? (i := 262) (by decide +kernel), List.mem_of_getElem? (i := 811) (by decide +kernel), List.mem_of_getElem? (i := 812) (by decide +kernel)⟩
theorem lw_p56 : lw_okq (⟨"PlyHouse$Press", "set", "(IIII)V"⟩, 16) := ⟨⟨by decide +kernel, by decide +kernel⟩, List.mem_of_getElem? (i := 297) (by decide +kernel), List.mem_of_getElem? (i := 819) (by decide +kernel), List.mem_of_getElem? (i := 820) (by decide +kernel)⟩
theorem lw_p57 : lw_okq (⟨"PlyHouse$Press", "addBoard", "(II)I"⟩, 16) := ⟨⟨by decide +kernel, by decide +kernel⟩, List.mem_of_getElem? (i := 297) (by decide +kernel), List.mem_of_getElem? (i := 827) (by decide +kernel), List.mem_of_getElem? (i := 828) (by decide +kernel)⟩
theorem lw_p58 : lw_okq (⟨"PlyHouse$Press", "removeBoard", "()Z"⟩, 16) := ⟨⟨by decide +kernel, by decide +kernel⟩, List.mem_of_getElem? (i := 297) (by decide +kernel), List.mem_of_getElem? (i := 835) (by decide +kernel), List.mem_of_getElem? (i := 836) (by decide +kernel)⟩
theorem lw_p59 : lw_okq (⟨"PlyHouse$Press", "find", "()V"⟩, 16) := ⟨⟨by decide +kernel, by decide +kernel⟩, List.mem_of_getElem? (i := 297) (by decide +kernel), List.mem_of_getElem? (i := 843) (by decide +kernel), List.mem_of_getElem? (i := 844) (by decide +kernel)⟩
theorem lw_p60 : lw_okq (⟨"PlyHouse$Press", "describeSetsUpTo", "(I)V"⟩, 16) := ⟨⟨by decide +kernel, by decide +kernel⟩, List.mem_of_getElem? (i := 297) (by decide +kernel), List.mem_of_getElem? (i := 848) (by decide +kernel), List.mem_of_getElem? (i := 849) (by decide +kernel)⟩
theorem lw_p61 : lw_okq (⟨"PlyHouse$Press", "findEnding", "(I)I"⟩, 16) := ⟨⟨by decide +kernel, by decide +kernel⟩, List.mem_of_getElem? (i := 297) (by decide +kernel), List.mem_of_getElem? (i := 859) (by decide +kernel), List.mem_of_getElem? (i := 860) (by decide +kernel)⟩
theorem lw_p62 : lw_okq (⟨"PlyHouse$Press", "outWith", "(II)I"⟩, 16) := ⟨⟨by decide +kernel, by decide +kernel⟩, List.mem_of_getElem? (i := 297) (by decide +kernel), List.mem_of_getElem? (i := 863) (by decide +kernel), List.mem_of_getElem? (i := 864) (by decide +kernel)⟩
theorem lw_p63 : lw_okq (⟨"PlyHouse$Press", "choose", "(I)V"⟩, 16) := ⟨⟨by decide +kernel, by decide +kernel⟩, List.mem_of_getElem? (i := 297) (by decide +kernel), List.mem_of_getElem? (i := 867) (by decide +kernel), List.mem_of_getElem? (i := 868) (by decide +kernel)⟩
def lw_privs_4 : List (MethodName × Nat) := [(⟨"PlyHouse$Clipping", "tell", "(II)I"⟩, 12), (⟨"PlyHouse$Veneers", "set", "(IIIIZ)V"⟩, 9), (⟨"PlyHouse$Veneers", "thinOf", "(II)I"⟩, 9), (⟨"PlyHouse$Veneers", "thickOf", "(II)I"⟩, 9), (⟨"PlyHouse$Veneers", "priceOf", "(II)I"⟩, 9), (⟨"PlyHouse$Veneers", "warpOf", "(II)I"⟩, 9), (⟨"PlyHouse$Veneers", "cheapest", "(III)I"⟩, 9), (⟨"PlyHouse$Veneers", "lay", "(IIIII)V"⟩, 9), (⟨"PlyHouse$Press", "set", "(IIII)V"⟩, 16), (⟨"PlyHouse$Press", "addBoard", "(II)I"⟩, 16), (⟨"PlyHouse$Press", "removeBoard", "()Z"⟩, 16), (⟨"PlyHouse$Press", "find", "()V"⟩, 16), (⟨"PlyHouse$Press", "describeSetsUpTo", "(I)V"⟩, 16), (⟨"PlyHouse$Press", "findEnding", "(I)I"⟩, 16), (⟨"PlyHouse$Press", "outWith", "(II)I"⟩, 16), (⟨"PlyHouse$Press", "choose", "(I)V"⟩, 16)]
theorem lw_r4 : ∀ q ∈ lw_privs_4, lw_okq q := List.forall_mem_cons.mpr ⟨lw_p48, List.forall_mem_cons.mpr ⟨lw_p49, List.forall_mem_cons.mpr ⟨lw_p50, List.forall_mem_cons.mpr ⟨lw_p51, List.forall_mem_cons.mpr ⟨lw_p52, List.forall_mem_cons.mpr ⟨lw_p53, List.forall_mem_cons.mpr ⟨lw_p54, List.forall_mem_cons.mpr ⟨lw_p55, List.forall_mem_cons.mpr ⟨lw_p56, List.forall_mem_cons.mpr ⟨lw_p57, List.forall_mem_cons.mpr ⟨lw_p58, List.forall_mem_cons.mpr ⟨lw_p59, List.forall_mem_cons.mpr ⟨lw_p60, List.forall_mem_cons.mpr ⟨lw_p61, List.forall_mem_cons.mpr ⟨lw_p62, List.forall_mem_cons.mpr ⟨lw_p63, fun _ h => absurd h List.not_mem_nil⟩⟩⟩⟩⟩⟩⟩⟩⟩⟩⟩⟩⟩⟩⟩⟩
theorem lw_p64 : lw_okq (⟨"PlyHouse$Press", "outOf", "(I)I"⟩, 16) := ⟨⟨by decide +kernel, by decide +kernel⟩, List.mem_of_getElem? (i := 297) (by decide +kernel), List.mem_of_getElem? (i := 871) (by decide +kernel), List.mem_of_getElem? (i := 872) (by decide +kernel)⟩
theorem lw_p65 : lw_okq (⟨"PlyHouse$Press", "listLoads", "()V"⟩, 16) := ⟨⟨by decide +kernel, by decide +kernel⟩, List.mem_of_getElem? (i := 297) (by decide +kernel), List.mem_of_getElem? (i := 875) (by decide +kernel), List.mem_of_getElem? (i := 876) (by decide +kernel)⟩
theorem lw_p66 : lw_okq (⟨"PlyHouse$Press", "lastLoadOf", "(I)I"⟩, 16) := ⟨⟨by decide +kernel, by decide +kernel⟩, List.mem_of_getElem? (i := 297) (by decide +kernel), List.mem_of_getElem? (i := 879) (by decide +kernel), List.mem_of_getElem? (i := 880) (by decide +kernel)⟩
theorem lw_p67 : lw_okq (⟨"PlyHouse$Press", "writeLoad", "(III)V"⟩, 16) := ⟨⟨by decide +kernel, by decide +kernel⟩, List.mem_of_getElem? (i := 297) (by decide +kernel), List.mem_of_getElem? (i := 883) (by decide +kernel), List.mem_of_getElem? (i := 884) (by decide +kernel)⟩
theorem lw_p68 : lw_okq (⟨"PlyHouse$Press", "tell", "(II)I"⟩, 16) := ⟨⟨by decide +kernel, by decide +kernel⟩, List.mem_of_getElem? (i := 297) (by decide +kernel), List.mem_of_getElem? (i := 893) (by decide +kernel), List.mem_of_getElem? (i := 894) (by decide +kernel)⟩
theorem lw_p69 : lw_okq (⟨"PlyHouseModel", "seekCentre", "()V"⟩, 61) := ⟨⟨by decide +kernel, by decide +kernel⟩, List.mem_of_getElem? (i := 901) (by decide +kernel), List.mem_of_getElem? (i := 1100) (by decide +kernel), List.mem_of_getElem? (i := 1101) (by decide +kernel)⟩
theorem lw_p70 : lw_okq (⟨"PlyHouseModel", "fits", "(III)Z"⟩, 61) := ⟨⟨by decide +kernel, by decide +kernel⟩, List.mem_of_getElem? (i := 901) (by decide +kernel), List.mem_of_getElem? (i := 1104) (by decide +kernel), List.mem_of_getElem? (i := 1105) (by decide +kernel)⟩
theorem lw_p71 : lw_okq (⟨"PlyHouseModel", "isIn", "(II)Z"⟩, 61) := ⟨⟨by decide +kernel, by decide +kernel⟩, List.mem_of_getElem? (i := 901) (by decide +kernel), List.mem_of_getElem? (i := 1108) (by decide +kernel), List.mem_of_getElem? (i := 1109) (by decide +kernel)⟩
theorem lw_p72 : lw_okq (⟨"PlyHouseModel", "four", "(I)V"⟩, 61) := ⟨⟨by decide +kernel, by decide +kernel⟩, List.mem_of_getElem? (i := 901) (by decide +kernel), List.mem_of_getElem? (i := 1120) (by decide +kernel), List.mem_of_getElem? (i := 1121) (by decide +kernel)⟩
theorem lw_p73 : lw_okq (⟨"PlyHouseModel", "begin", "()V"⟩, 61) := ⟨⟨by decide +kernel, by decide +kernel⟩, List.mem_of_getElem? (i := 901) (by decide +kernel), List.mem_of_getElem? (i := 1132) (by decide +kernel), List.mem_of_getElem? (i := 1133) (by decide +kernel)⟩
theorem lw_p74 : lw_okq (⟨"PlyHouseModel", "next", "()V"⟩, 61) := ⟨⟨by decide +kernel, by decide +kernel⟩, List.mem_of_getElem? (i := 901) (by decide +kernel), List.mem_of_getElem? (i := 1136) (by decide +kernel), List.mem_of_getElem? (i := 1137) (by decide +kernel)⟩
theorem lw_p75 : lw_okq (⟨"PlyHouseModel", "here", "(I)I"⟩, 61) := ⟨⟨by decide +kernel, by decide +kernel⟩, List.mem_of_getElem? (i := 901) (by decide +kernel), List.mem_of_getElem? (i := 1140) (by decide +kernel), List.mem_of_getElem? (i := 1141) (by decide +kernel)⟩
theorem lw_p76 : lw_okq (⟨"PlyHouseModel", "isWord", "(J)Z"⟩, 61) := ⟨⟨by decide +kernel, by decide +kernel⟩, List.mem_of_getElem? (i := 901) (by decide +kernel), List.mem_of_getElem? (i := 1154) (by decide +kernel), List.mem_of_getElem? (i := 1155) (by decide +kernel)⟩
theorem lw_p77 : lw_okq (⟨"PlyHouseModel", "wrong", "(I)V"⟩, 61) := ⟨⟨by decide +kernel, by decide +kernel⟩, List.mem_of_getElem? (i := 901) (by decide +kernel), List.mem_of_getElem? (i := 1158) (by decide +kernel), List.mem_of_getElem? (i := 1159) (by decide +kernel)⟩
theorem lw_p78 : lw_okq (⟨"PlyHouseModel", "told", "(II)I"⟩, 61) := ⟨⟨by decide +kernel, by decide +kernel⟩, List.mem_of_getElem? (i := 901) (by decide +kernel), List.mem_of_getElem? (i := 1162) (by decide +kernel), List.mem_of_getElem? (i := 1163) (by decide +kernel)⟩
theorem lw_p79 : lw_okq (⟨"PlyHouseModel", "readE", "()V"⟩, 61) := ⟨⟨by decide +kernel, by decide +kernel⟩, List.mem_of_getElem? (i := 901) (by decide +kernel), List.mem_of_getElem? (i := 1168) (by decide +kernel), List.mem_of_getElem? (i := 1169) (by decide +kernel)⟩
def lw_privs_5 : List (MethodName × Nat) := [(⟨"PlyHouse$Press", "outOf", "(I)I"⟩, 16), (⟨"PlyHouse$Press", "listLoads", "()V"⟩, 16), (⟨"PlyHouse$Press", "lastLoadOf", "(I)I"⟩, 16), (⟨"PlyHouse$Press", "writeLoad", "(III)V"⟩, 16), (⟨"PlyHouse$Press", "tell", "(II)I"⟩, 16), (⟨"PlyHouseModel", "seekCentre", "()V"⟩, 61), (⟨"PlyHouseModel", "fits", "(III)Z"⟩, 61), (⟨"PlyHouseModel", "isIn", "(II)Z"⟩, 61), (⟨"PlyHouseModel", "four", "(I)V"⟩, 61), (⟨"PlyHouseModel", "begin", "()V"⟩, 61), (⟨"PlyHouseModel", "next", "()V"⟩, 61), (⟨"PlyHouseModel", "here", "(I)I"⟩, 61), (⟨"PlyHouseModel", "isWord", "(J)Z"⟩, 61), (⟨"PlyHouseModel", "wrong", "(I)V"⟩, 61), (⟨"PlyHouseModel", "told", "(II)I"⟩, 61), (⟨"PlyHouseModel", "readE", "()V"⟩, 61)]
theorem lw_r5 : ∀ q ∈ lw_privs_5, lw_okq q := List.forall_mem_cons.mpr ⟨lw_p64, List.forall_mem_cons.mpr ⟨lw_p65, List.forall_mem_cons.mpr ⟨lw_p66, List.forall_mem_cons.mpr ⟨lw_p67, List.forall_mem_cons.mpr ⟨lw_p68, List.forall_mem_cons.mpr ⟨lw_p69, List.forall_mem_cons.mpr ⟨lw_p70, List.forall_mem_cons.mpr ⟨lw_p71, List.forall_mem_cons.mpr ⟨lw_p72, List.forall_mem_cons.mpr ⟨lw_p73, List.forall_mem_cons.mpr ⟨lw_p74, List.forall_mem_cons.mpr ⟨lw_p75, List.forall_mem_cons.mpr ⟨lw_p76, List.forall_mem_cons.mpr ⟨lw_p77, List.forall_mem_cons.mpr ⟨lw_p78, List.forall_mem_cons.mpr ⟨lw_p79, fun _ h => absurd h List.not_mem_nil⟩⟩⟩⟩⟩⟩⟩⟩⟩⟩⟩⟩⟩⟩⟩⟩
theorem lw_p80 : lw_okq (⟨"PlyHouseModel", "isOpen", "()Z"⟩, 61) := ⟨⟨by decide +kernel, by decide +kernel⟩, List.mem_of_getElem? (i := 901) (by decide +kernel), List.mem_of_getElem? (i := 1172) (by decide +kernel), List.mem_of_getElem? (i := 1173) (by decide +kernel)⟩
theorem lw_p81 : lw_okq (⟨"PlyHouseModel", "sign", "(I)I"⟩, 61) := ⟨⟨by decide +kernel, by decide +kernel⟩, List.mem_of_getElem? (i := 901) (by decide +kernel), List.mem_of_getElem? (i := 1176) (by decide +kernel), List.mem_of_getElem? (i := 1177) (by decide +kernel)⟩
theorem lw_p82 : lw_okq (⟨"PlyHouseModel", "settle", "(I)V"⟩, 61) := ⟨⟨by decide +kernel, by decide +kernel⟩, List.mem_of_getElem? (i := 901) (by decide +kernel), List.mem_of_getElem? (i := 1180) (by decide +kernel), List.mem_of_getElem? (i := 1181) (by decide +kernel)⟩
theorem lw_p83 : lw_okq (⟨"PlyHouseModel", "pop", "()V"⟩, 61) := ⟨⟨by decide +kernel, by decide +kernel⟩, List.mem_of_getElem? (i := 901) (by decide +kernel), List.mem_of_getElem? (i := 1184) (by decide +kernel), List.mem_of_getElem? (i := 1185) (by decide +kernel)⟩
theorem lw_p84 : lw_okq (⟨"PlyHouseModel", "step", "(II)V"⟩, 61) := ⟨⟨by decide +kernel, by decide +kernel⟩, List.mem_of_getElem? (i := 901) (by decide +kernel), List.mem_of_getElem? (i := 1188) (by decide +kernel), List.mem_of_getElem? (i := 1189) (by decide +kernel)⟩
theorem lw_p85 : lw_okq (⟨"PlyHouseModel", "hold", "(I)V"⟩, 61) := ⟨⟨by decide +kernel, by decide +kernel⟩, List.mem_of_getElem? (i := 901) (by decide +kernel), List.mem_of_getElem? (i := 1192) (by decide +kernel), List.mem_of_getElem? (i := 1193) (by decide +kernel)⟩
theorem lw_p86 : lw_okq (⟨"PlyHouseModel", "settleOnes", "(Z)V"⟩, 61) := ⟨⟨by decide +kernel, by decide +kernel⟩, List.mem_of_getElem? (i := 901) (by decide +kernel), List.mem_of_getElem? (i := 1198) (by decide +kernel), List.mem_of_getElem? (i := 1199) (by decide +kernel)⟩
theorem lw_p87 : lw_okq (⟨"PlyHouseModel", "operand", "(I)I"⟩, 61) := ⟨⟨by decide +kernel, by decide +kernel⟩, List.mem_of_getElem? (i := 901) (by decide +kernel), List.mem_of_getElem? (i := 1202) (by decide +kernel), List.mem_of_getElem? (i := 1203) (by decide +kernel)⟩
theorem lw_p88 : lw_okq (⟨"PlyHouseModel", "named", "()I"⟩, 61) := ⟨⟨by decide +kernel, by decide +kernel⟩, List.mem_of_getElem? (i := 901) (by decide +kernel), List.mem_of_getElem? (i := 1206) (by decide +kernel), List.mem_of_getElem? (i := 1207) (by decide +kernel)⟩
theorem lw_p89 : lw_okq (⟨"PlyHouseModel", "isSheet", "(III)Z"⟩, 61) := ⟨⟨by decide +kernel, by decide +kernel⟩, List.mem_of_getElem? (i := 901) (by decide +kernel), List.mem_of_getElem? (i := 1235) (by decide +kernel), List.mem_of_getElem? (i := 1236) (by decide +kernel)⟩
theorem lw_p90 : lw_okq (⟨"PlyHouseModel", "holds", "(I)Z"⟩, 61) := ⟨⟨by decide +kernel, by decide +kernel⟩, List.mem_of_getElem? (i := 901) (by decide +kernel), List.mem_of_getElem? (i := 1239) (by decide +kernel), List.mem_of_getElem? (i := 1240) (by decide +kernel)⟩
theorem lw_p91 : lw_okq (⟨"PlyHouseModel", "clip", "()V"⟩, 61) := ⟨⟨by decide +kernel, by decide +kernel⟩, List.mem_of_getElem? (i := 901) (by decide +kernel), List.mem_of_getElem? (i := 1247) (by decide +kernel), List.mem_of_getElem? (i := 1248) (by decide +kernel)⟩
theorem lw_p92 : lw_okq (⟨"PlyHouseModel", "lays", "(II)Z"⟩, 61) := ⟨⟨by decide +kernel, by decide +kernel⟩, List.mem_of_getElem? (i := 901) (by decide +kernel), List.mem_of_getElem? (i := 1270) (by decide +kernel), List.mem_of_getElem? (i := 1271) (by decide +kernel)⟩
theorem lw_p93 : lw_okq (⟨"PlyHouseModel", "sum", "(II)I"⟩, 61) := ⟨⟨by decide +kernel, by decide +kernel⟩, List.mem_of_getElem? (i := 901) (by decide +kernel), List.mem_of_getElem? (i := 1274) (by decide +kernel), List.mem_of_getElem? (i := 1275) (by decide +kernel)⟩
theorem lw_p94 : lw_okq (⟨"PlyHouseModel", "seek", "()V"⟩, 61) := ⟨⟨by decide +kernel, by decide +kernel⟩, List.mem_of_getElem? (i := 901) (by decide +kernel), List.mem_of_getElem? (i := 1303) (by decide +kernel), List.mem_of_getElem? (i := 1304) (by decide +kernel)⟩
theorem lw_p95 : lw_okq (⟨"PlyHouseModel", "outBy", "(II)I"⟩, 61) := ⟨⟨by decide +kernel, by decide +kernel⟩, List.mem_of_getElem? (i := 901) (by decide +kernel), List.mem_of_getElem? (i := 1308) (by decide +kernel), List.mem_of_getElem? (i := 1309) (by decide +kernel)⟩
def lw_privs_6 : List (MethodName × Nat) := [(⟨"PlyHouseModel", "isOpen", "()Z"⟩, 61), (⟨"PlyHouseModel", "sign", "(I)I"⟩, 61), (⟨"PlyHouseModel", "settle", "(I)V"⟩, 61), (⟨"PlyHouseModel", "pop", "()V"⟩, 61), (⟨"PlyHouseModel", "step", "(II)V"⟩, 61), (⟨"PlyHouseModel", "hold", "(I)V"⟩, 61), (⟨"PlyHouseModel", "settleOnes", "(Z)V"⟩, 61), (⟨"PlyHouseModel", "operand", "(I)I"⟩, 61), (⟨"PlyHouseModel", "named", "()I"⟩, 61), (⟨"PlyHouseModel", "isSheet", "(III)Z"⟩, 61), (⟨"PlyHouseModel", "holds", "(I)Z"⟩, 61), (⟨"PlyHouseModel", "clip", "()V"⟩, 61), (⟨"PlyHouseModel", "lays", "(II)Z"⟩, 61), (⟨"PlyHouseModel", "sum", "(II)I"⟩, 61), (⟨"PlyHouseModel", "seek", "()V"⟩, 61), (⟨"PlyHouseModel", "outBy", "(II)I"⟩, 61)]
theorem lw_r6 : ∀ q ∈ lw_privs_6, lw_okq q := List.forall_mem_cons.mpr ⟨lw_p80, List.forall_mem_cons.mpr ⟨lw_p81, List.forall_mem_cons.mpr ⟨lw_p82, List.forall_mem_cons.mpr ⟨lw_p83, List.forall_mem_cons.mpr ⟨lw_p84, List.forall_mem_cons.mpr ⟨lw_p85, List.forall_mem_cons.mpr ⟨lw_p86, List.forall_mem_cons.mpr ⟨lw_p87, List.forall_mem_cons.mpr ⟨lw_p88, List.forall_mem_cons.mpr ⟨lw_p89, List.forall_mem_cons.mpr ⟨lw_p90, List.forall_mem_cons.mpr ⟨lw_p91, List.forall_mem_cons.mpr ⟨lw_p92, List.forall_mem_cons.mpr ⟨lw_p93, List.forall_mem_cons.mpr ⟨lw_p94, List.forall_mem_cons.mpr ⟨lw_p95, fun _ h => absurd h List.not_mem_nil⟩⟩⟩⟩⟩⟩⟩⟩⟩⟩⟩⟩⟩⟩⟩⟩
theorem lw_p96 : lw_okq (⟨"PlyHouseModel", "putIn", "(II)I"⟩, 61) := ⟨⟨by decide +kernel, by decide +kernel⟩, List.mem_of_getElem? (i := 901) (by decide +kernel), List.mem_of_getElem? (i := 1312) (by decide +kernel), List.mem_of_getElem? (i := 1313) (by decide +kernel)⟩
theorem lw_p97 : lw_okq (⟨"PlyHouseModel", "lasts", "(I)I"⟩, 61) := ⟨⟨by decide +kernel, by decide +kernel⟩, List.mem_of_getElem? (i := 901) (by decide +kernel), List.mem_of_getElem? (i := 1319) (by decide +kernel), List.mem_of_getElem? (i := 1320) (by decide +kernel)⟩
def lw_privs_7 : List (MethodName × Nat) := [(⟨"PlyHouseModel", "putIn", "(II)I"⟩, 61), (⟨"PlyHouseModel", "lasts", "(I)I"⟩, 61)]
theorem lw_r7 : ∀ q ∈ lw_privs_7, lw_okq q := List.forall_mem_cons.mpr ⟨lw_p96, List.forall_mem_cons.mpr ⟨lw_p97, fun _ h => absurd h List.not_mem_nil⟩⟩
def lw_privs : List (MethodName × Nat) := lw_privs_1 ++ (lw_privs_2 ++ (lw_privs_3 ++ (lw_privs_4 ++ (lw_privs_5 ++ (lw_privs_6 ++ (lw_privs_7))))))
def lw_tbl : List Cond := k2_sels lw_privs ++ tables_1
theorem lw_privs_ok : ∀ q ∈ lw_privs, lw_okq q := by
  show ∀ q ∈ lw_privs_1 ++ (lw_privs_2 ++ (lw_privs_3 ++ (lw_privs_4 ++ (lw_privs_5 ++ (lw_privs_6 ++ (lw_privs_7)))))), lw_okq q
  exact List.forall_mem_append.mpr ⟨lw_r1, List.forall_mem_append.mpr ⟨lw_r2, List.forall_mem_append.mpr ⟨lw_r3, List.forall_mem_append.mpr ⟨lw_r4, List.forall_mem_append.mpr ⟨lw_r5, List.forall_mem_append.mpr ⟨lw_r6, lw_r7⟩⟩⟩⟩⟩⟩
end
section
def RX0 : String := "PlyHouse$Clipping"
def TX0 : u_T := fun k => match k with
  | 0 => ("PlyHouse$Clipping", "grading", "LPlyHouse$Grades;", true)
  | 1 => ("PlyHouse$Clipping", "marks", "LPlyHouse$Leaf;", true)
  | 2 => ("PlyHouse$Clipping", "part", "LPlyHouse$Part;", true)
  | 3 => ("PlyHouse$Clipping", "worthFrom", "[I", true)
  | 4 => ("PlyHouse$Clipping", "sheetsFrom", "[I", true)
  | 5 => ("PlyHouse$Clipping", "gradeAt", "[I", true)
  | 6 => ("PlyHouse$Clipping", "patchedAt", "[I", true)
  | 7 => ("PlyHouse$Clipping", "begins", "[I", true)
  | 8 => ("PlyHouse$Clipping", "patches", "I", false)
  | 9 => ("PlyHouse$Clipping", "cost", "I", false)
  | 10 => ("PlyHouse$Clipping", "found", "I", false)
  | _ => ("PlyHouse$Clipping", "stale", "Z", false)
def tyX0 : Nat → FieldType := fun k => match k with
  | 0 => .object "PlyHouse$Grades"
  | 1 => .object "PlyHouse$Leaf"
  | 2 => .object "PlyHouse$Part"
  | 3 => .array .int
  | 4 => .array .int
  | 5 => .array .int
  | 6 => .array .int
  | 7 => .array .int
  | 8 => .int
  | 9 => .int
  | 10 => .int
  | _ => .boolean
theorem nmX0 : ∀ a, a < 12 → ∀ b, b < 12 → a ≠ b → (TX0 a).2.1 ≠ (TX0 b).2.1 := by decide +kernel
theorem tyX0_ok : ∀ k, k < 12 → parseFieldDescriptor (TX0 k).2.2.1 = some (tyX0 k) := by decide +kernel
abbrev cX0_init : ByteArray := prog_2_method_1_code
def yX0_init : MethodName := ⟨RX0, "<init>", "(LPlyHouse$Grades;LPlyHouse$Leaf;)V"⟩
abbrev cX0_forget : ByteArray := prog_2_method_2_code
def yX0_forget : MethodName := ⟨RX0, "forget", "()V"⟩
abbrev cX0_setPatching : ByteArray := prog_2_method_3_code
def yX0_setPatching : MethodName := ⟨RX0, "setPatching", "(II)V"⟩
abbrev cX0_isSheet : ByteArray := prog_2_method_4_code
def yX0_isSheet : MethodName := ⟨RX0, "isSheet", "(III)Z"⟩
abbrev cX0_partIsSheet : ByteArray := prog_2_method_5_code
def yX0_partIsSheet : MethodName := ⟨RX0, "partIsSheet", "(II)Z"⟩
abbrev cX0_find : ByteArray := prog_2_method_6_code
def yX0_find : MethodName := ⟨RX0, "find", "()V"⟩
abbrev cX0_trySheets : ByteArray := prog_2_method_7_code
def yX0_trySheets : MethodName := ⟨RX0, "trySheets", "(II)V"⟩
abbrev cX0_isBetter : ByteArray := prog_2_method_8_code
def yX0_isBetter : MethodName := ⟨RX0, "isBetter", "(III)Z"⟩
abbrev cX0_listSheets : ByteArray := prog_2_method_9_code
def yX0_listSheets : MethodName := ⟨RX0, "listSheets", "(I)V"⟩
abbrev cX0_totalWorth : ByteArray := prog_2_method_10_code
def yX0_totalWorth : MethodName := ⟨RX0, "totalWorth", "()I"⟩
abbrev cX0_tell : ByteArray := prog_2_method_11_code
def yX0_tell : MethodName := ⟨RX0, "tell", "(II)I"⟩
def RX1 : String := "PlyHouse$GradeReader"
def TX1 : u_T := fun k => match k with
  | 0 => ("PlyHouse$GradeReader", "tokens", "LPlyHouse$Tokens;", true)
  | 1 => ("PlyHouse$GradeReader", "draft", "LPlyHouse$Grades;", true)
  | 2 => ("PlyHouse$GradeReader", "fault", "I", false)
  | 3 => ("PlyHouse$GradeReader", "number", "I", false)
  | 4 => ("PlyHouse$GradeReader", "token", "I", false)
  | _ => ("PlyHouse$GradeReader", "terms", "I", false)
def tyX1 : Nat → FieldType := fun k => match k with
  | 0 => .object "PlyHouse$Tokens"
  | 1 => .object "PlyHouse$Grades"
  | 2 => .int
  | 3 => .int
  | 4 => .int
  | _ => .int
theorem nmX1 : ∀ a, a < 6 → ∀ b, b < 6 → a ≠ b → (TX1 a).2.1 ≠ (TX1 b).2.1 := by decide +kernel
theorem tyX1_ok : ∀ k, k < 6 → parseFieldDescriptor (TX1 k).2.2.1 = some (tyX1 k) := by decide +kernel
abbrev cX1_init : ByteArray := prog_3_method_1_code
def yX1_init : MethodName := ⟨RX1, "<init>", "()V"⟩
abbrev cX1_readLines : ByteArray := prog_3_method_2_code
def yX1_readLines : MethodName := ⟨RX1, "readLines", "(LPlyHouse$Tape;)Z"⟩
abbrev cX1_readLine : ByteArray := prog_3_method_3_code
def yX1_readLine : MethodName := ⟨RX1, "readLine", "()Z"⟩
abbrev cX1_readEither : ByteArray := prog_3_method_4_code
def yX1_readEither : MethodName := ⟨RX1, "readEither", "(I)Z"⟩
abbrev cX1_readBoth : ByteArray := prog_3_method_5_code
def yX1_readBoth : MethodName := ⟨RX1, "readBoth", "(I)Z"⟩
abbrev cX1_readOne : ByteArray := prog_3_method_6_code
def yX1_readOne : MethodName := ⟨RX1, "readOne", "(I)Z"⟩
abbrev cX1_readSum : ByteArray := prog_3_method_7_code
def yX1_readSum : MethodName := ⟨RX1, "readSum", "()Z"⟩
abbrev cX1_readToken : ByteArray := prog_3_method_8_code
def yX1_readToken : MethodName := ⟨RX1, "readToken", "(I)Z"⟩
abbrev cX1_readNumber : ByteArray := prog_3_method_9_code
def yX1_readNumber : MethodName := ⟨RX1, "readNumber", "(II)Z"⟩
abbrev cX1_refuse : ByteArray := prog_3_method_10_code
def yX1_refuse : MethodName := ⟨RX1, "refuse", "()Z"⟩
abbrev cX1_advance : ByteArray := prog_3_method_11_code
def yX1_advance : MethodName := ⟨RX1, "advance", "()V"⟩
abbrev cX1_placeReached : ByteArray := prog_3_method_12_code
def yX1_placeReached : MethodName := ⟨RX1, "placeReached", "()I"⟩
def RX2 : String := "PlyHouse$Grades"
def TX2 : u_T := fun k => match k with
  | 0 => ("PlyHouse$Grades", "widths", "[I", true)
  | 1 => ("PlyHouse$Grades", "worths", "[I", true)
  | 2 => ("PlyHouse$Grades", "codeEnds", "[I", true)
  | 3 => ("PlyHouse$Grades", "code", "[I", true)
  | 4 => ("PlyHouse$Grades", "stack", "[I", true)
  | 5 => ("PlyHouse$Grades", "lines", "I", false)
  | 6 => ("PlyHouse$Grades", "codeLength", "I", false)
  | _ => ("PlyHouse$Grades", "stacked", "I", false)
def tyX2 : Nat → FieldType := fun k => match k with
  | 0 => .array .int
  | 1 => .array .int
  | 2 => .array .int
  | 3 => .array .int
  | 4 => .array .int
  | 5 => .int
  | 6 => .int
  | _ => .int
theorem nmX2 : ∀ a, a < 8 → ∀ b, b < 8 → a ≠ b → (TX2 a).2.1 ≠ (TX2 b).2.1 := by decide +kernel
theorem tyX2_ok : ∀ k, k < 8 → parseFieldDescriptor (TX2 k).2.2.1 = some (tyX2 k) := by decide +kernel
abbrev cX2_init : ByteArray := prog_4_method_1_code
def yX2_init : MethodName := ⟨RX2, "<init>", "()V"⟩
abbrev cX2_clear : ByteArray := prog_4_method_2_code
def yX2_clear : MethodName := ⟨RX2, "clear", "()V"⟩
abbrev cX2_emit : ByteArray := prog_4_method_3_code
def yX2_emit : MethodName := ⟨RX2, "emit", "(I)V"⟩
abbrev cX2_addLine : ByteArray := prog_4_method_4_code
def yX2_addLine : MethodName := ⟨RX2, "addLine", "(II)V"⟩
abbrev cX2_copyFrom : ByteArray := prog_4_method_5_code
def yX2_copyFrom : MethodName := ⟨RX2, "copyFrom", "(LPlyHouse$Grades;)V"⟩
abbrev cX2_widthOf : ByteArray := prog_4_method_6_code
def yX2_widthOf : MethodName := ⟨RX2, "widthOf", "(I)I"⟩
abbrev cX2_worthOf : ByteArray := prog_4_method_7_code
def yX2_worthOf : MethodName := ⟨RX2, "worthOf", "(I)I"⟩
abbrev cX2_codeEndOf : ByteArray := prog_4_method_8_code
def yX2_codeEndOf : MethodName := ⟨RX2, "codeEndOf", "(I)I"⟩
abbrev cX2_holds : ByteArray := prog_4_method_9_code
def yX2_holds : MethodName := ⟨RX2, "holds", "(ILPlyHouse$Part;)Z"⟩
abbrev cX2_doStep : ByteArray := prog_4_method_10_code
def yX2_doStep : MethodName := ⟨RX2, "doStep", "(ILPlyHouse$Part;)V"⟩
abbrev cX2_joined : ByteArray := prog_4_method_11_code
def yX2_joined : MethodName := ⟨RX2, "joined", "(III)I"⟩
abbrev cX2_push : ByteArray := prog_4_method_12_code
def yX2_push : MethodName := ⟨RX2, "push", "(I)V"⟩
abbrev cX2_pop : ByteArray := prog_4_method_13_code
def yX2_pop : MethodName := ⟨RX2, "pop", "()I"⟩
def RX3 : String := "PlyHouse$Leaf"
def TX3 : u_T := fun k => match k with
  | 0 => ("PlyHouse$Leaf", "knotsBefore", "[I", true)
  | 1 => ("PlyHouse$Leaf", "splitsBefore", "[I", true)
  | 2 => ("PlyHouse$Leaf", "holesBefore", "[I", true)
  | 3 => ("PlyHouse$Leaf", "plugsBefore", "[I", true)
  | 4 => ("PlyHouse$Leaf", "clearBefore", "[I", true)
  | _ => ("PlyHouse$Leaf", "count", "I", false)
def tyX3 : Nat → FieldType := fun k => match k with
  | 0 => .array .int
  | 1 => .array .int
  | 2 => .array .int
  | 3 => .array .int
  | 4 => .array .int
  | _ => .int
theorem nmX3 : ∀ a, a < 6 → ∀ b, b < 6 → a ≠ b → (TX3 a).2.1 ≠ (TX3 b).2.1 := by decide +kernel
theorem tyX3_ok : ∀ k, k < 6 → parseFieldDescriptor (TX3 k).2.2.1 = some (tyX3 k) := by decide +kernel
abbrev cX3_init : ByteArray := prog_5_method_1_code
def yX3_init : MethodName := ⟨RX3, "<init>", "()V"⟩
abbrev cX3_firstFault : ByteArray := prog_5_method_2_code
def yX3_firstFault : MethodName := ⟨RX3, "firstFault", "(LPlyHouse$Tape;)I"⟩
abbrev cX3_isMark : ByteArray := prog_5_method_3_code
def yX3_isMark : MethodName := ⟨RX3, "isMark", "(I)Z"⟩
abbrev cX3_take : ByteArray := prog_5_method_4_code
def yX3_take : MethodName := ⟨RX3, "take", "(LPlyHouse$Tape;)V"⟩
abbrev cX3_listRuns : ByteArray := prog_5_method_5_code
def yX3_listRuns : MethodName := ⟨RX3, "listRuns", "(I[I)V"⟩
abbrev cX3_between : ByteArray := prog_5_method_6_code
def yX3_between : MethodName := ⟨RX3, "between", "([III)I"⟩
def RX4 : String := "PlyHouse$Log"
def TX4 : u_T := fun k => match k with
  | 0 => ("PlyHouse$Log", "rows", "[I", true)
  | 1 => ("PlyHouse$Log", "stale", "Z", false)
  | 2 => ("PlyHouse$Log", "centreRow", "I", false)
  | 3 => ("PlyHouse$Log", "centreColumn", "I", false)
  | _ => ("PlyHouse$Log", "radius", "I", false)
def tyX4 : Nat → FieldType := fun k => match k with
  | 0 => .array .int
  | 1 => .boolean
  | 2 => .int
  | 3 => .int
  | _ => .int
theorem nmX4 : ∀ a, a < 5 → ∀ b, b < 5 → a ≠ b → (TX4 a).2.1 ≠ (TX4 b).2.1 := by decide +kernel
theorem tyX4_ok : ∀ k, k < 5 → parseFieldDescriptor (TX4 k).2.2.1 = some (tyX4 k) := by decide +kernel
abbrev cX4_init : ByteArray := prog_6_method_1_code
def yX4_init : MethodName := ⟨RX4, "<init>", "()V"⟩
abbrev cX4_putRow : ByteArray := prog_6_method_2_code
def yX4_putRow : MethodName := ⟨RX4, "putRow", "(II)Z"⟩
abbrev cX4_findCentre : ByteArray := prog_6_method_3_code
def yX4_findCentre : MethodName := ⟨RX4, "findCentre", "()V"⟩
abbrev cX4_growAt : ByteArray := prog_6_method_4_code
def yX4_growAt : MethodName := ⟨RX4, "growAt", "(II)V"⟩
abbrev cX4_discFits : ByteArray := prog_6_method_5_code
def yX4_discFits : MethodName := ⟨RX4, "discFits", "(III)Z"⟩
abbrev cX4_hasCells : ByteArray := prog_6_method_6_code
def yX4_hasCells : MethodName := ⟨RX4, "hasCells", "(II)Z"⟩
abbrev cX4_peeled : ByteArray := prog_6_method_7_code
def yX4_peeled : MethodName := ⟨RX4, "peeled", "(II)I"⟩
def RX5 : String := "PlyHouse$Part"
def TX5 : u_T := fun k => match k with
  | 0 => ("PlyHouse$Part", "marks", "LPlyHouse$Leaf;", true)
  | 1 => ("PlyHouse$Part", "runs", "[I", true)
  | 2 => ("PlyHouse$Part", "from", "I", false)
  | 3 => ("PlyHouse$Part", "knots", "I", false)
  | 4 => ("PlyHouse$Part", "splits", "I", false)
  | 5 => ("PlyHouse$Part", "holes", "I", false)
  | 6 => ("PlyHouse$Part", "plugs", "I", false)
  | 7 => ("PlyHouse$Part", "run", "I", false)
  | _ => ("PlyHouse$Part", "patched", "I", false)
def tyX5 : Nat → FieldType := fun k => match k with
  | 0 => .object "PlyHouse$Leaf"
  | 1 => .array .int
  | 2 => .int
  | 3 => .int
  | 4 => .int
  | 5 => .int
  | 6 => .int
  | 7 => .int
  | _ => .int
theorem nmX5 : ∀ a, a < 9 → ∀ b, b < 9 → a ≠ b → (TX5 a).2.1 ≠ (TX5 b).2.1 := by decide +kernel
theorem tyX5_ok : ∀ k, k < 9 → parseFieldDescriptor (TX5 k).2.2.1 = some (tyX5 k) := by decide +kernel
abbrev cX5_init : ByteArray := prog_7_method_1_code
def yX5_init : MethodName := ⟨RX5, "<init>", "(LPlyHouse$Leaf;)V"⟩
abbrev cX5_beginAt : ByteArray := prog_7_method_2_code
def yX5_beginAt : MethodName := ⟨RX5, "beginAt", "(I)V"⟩
abbrev cX5_endBefore : ByteArray := prog_7_method_3_code
def yX5_endBefore : MethodName := ⟨RX5, "endBefore", "(I)V"⟩
abbrev cX5_countOf : ByteArray := prog_7_method_4_code
def yX5_countOf : MethodName := ⟨RX5, "countOf", "(I)I"⟩
def RX6 : String := "PlyHouse$Press"
def TX6 : u_T := fun k => match k with
  | 0 => ("PlyHouse$Press", "thicks", "[I", true)
  | 1 => ("PlyHouse$Press", "minutes", "[I", true)
  | 2 => ("PlyHouse$Press", "loadThick", "[I", true)
  | 3 => ("PlyHouse$Press", "gluedBy", "[I", true)
  | 4 => ("PlyHouse$Press", "aliveTo", "[I", true)
  | 5 => ("PlyHouse$Press", "endings", "[I", true)
  | 6 => ("PlyHouse$Press", "loads", "[I", true)
  | 7 => ("PlyHouse$Press", "putIn", "[I", true)
  | 8 => ("PlyHouse$Press", "boards", "I", false)
  | 9 => ("PlyHouse$Press", "openings", "I", false)
  | 10 => ("PlyHouse$Press", "base", "I", false)
  | 11 => ("PlyHouse$Press", "per", "I", false)
  | 12 => ("PlyHouse$Press", "life", "I", false)
  | 13 => ("PlyHouse$Press", "chosen", "I", false)
  | 14 => ("PlyHouse$Press", "loadCount", "I", false)
  | _ => ("PlyHouse$Press", "stale", "Z", false)
def tyX6 : Nat → FieldType := fun k => match k with
  | 0 => .array .int
  | 1 => .array .int
  | 2 => .array .int
  | 3 => .array .int
  | 4 => .array .int
  | 5 => .array .int
  | 6 => .array .int
  | 7 => .array .int
  | 8 => .int
  | 9 => .int
  | 10 => .int
  | 11 => .int
  | 12 => .int
  | 13 => .int
  | 14 => .int
  | _ => .boolean
theorem nmX6 : ∀ a, a < 16 → ∀ b, b < 16 → a ≠ b → (TX6 a).2.1 ≠ (TX6 b).2.1 := by decide +kernel
theorem tyX6_ok : ∀ k, k < 16 → parseFieldDescriptor (TX6 k).2.2.1 = some (tyX6 k) := by decide +kernel
abbrev cX6_init : ByteArray := prog_8_method_1_code
def yX6_init : MethodName := ⟨RX6, "<init>", "()V"⟩
abbrev cX6_set : ByteArray := prog_8_method_2_code
def yX6_set : MethodName := ⟨RX6, "set", "(IIII)V"⟩
abbrev cX6_addBoard : ByteArray := prog_8_method_3_code
def yX6_addBoard : MethodName := ⟨RX6, "addBoard", "(II)I"⟩
abbrev cX6_removeBoard : ByteArray := prog_8_method_4_code
def yX6_removeBoard : MethodName := ⟨RX6, "removeBoard", "()Z"⟩
abbrev cX6_find : ByteArray := prog_8_method_5_code
def yX6_find : MethodName := ⟨RX6, "find", "()V"⟩
abbrev cX6_describeSetsUpTo : ByteArray := prog_8_method_6_code
def yX6_describeSetsUpTo : MethodName := ⟨RX6, "describeSetsUpTo", "(I)V"⟩
abbrev cX6_findEnding : ByteArray := prog_8_method_7_code
def yX6_findEnding : MethodName := ⟨RX6, "findEnding", "(I)I"⟩
abbrev cX6_outWith : ByteArray := prog_8_method_8_code
def yX6_outWith : MethodName := ⟨RX6, "outWith", "(II)I"⟩
abbrev cX6_choose : ByteArray := prog_8_method_9_code
def yX6_choose : MethodName := ⟨RX6, "choose", "(I)V"⟩
abbrev cX6_outOf : ByteArray := prog_8_method_10_code
def yX6_outOf : MethodName := ⟨RX6, "outOf", "(I)I"⟩
abbrev cX6_lastLoadOf : ByteArray := prog_8_method_11_code
def yX6_lastLoadOf : MethodName := ⟨RX6, "lastLoadOf", "(I)I"⟩
abbrev cX6_listLoads : ByteArray := prog_8_method_12_code
def yX6_listLoads : MethodName := ⟨RX6, "listLoads", "()V"⟩
abbrev cX6_writeLoad : ByteArray := prog_8_method_13_code
def yX6_writeLoad : MethodName := ⟨RX6, "writeLoad", "(III)V"⟩
abbrev cX6_tell : ByteArray := prog_8_method_14_code
def yX6_tell : MethodName := ⟨RX6, "tell", "(II)I"⟩
def RX7 : String := "PlyHouse$Tape"
def TX7 : u_T := fun k => match k with
  | 0 => ("PlyHouse$Tape", "bytes", "[I", true)
  | _ => ("PlyHouse$Tape", "length", "I", false)
def tyX7 : Nat → FieldType := fun k => match k with
  | 0 => .array .int
  | _ => .int
theorem nmX7 : ∀ a, a < 2 → ∀ b, b < 2 → a ≠ b → (TX7 a).2.1 ≠ (TX7 b).2.1 := by decide +kernel
theorem tyX7_ok : ∀ k, k < 2 → parseFieldDescriptor (TX7 k).2.2.1 = some (tyX7 k) := by decide +kernel
abbrev cX7_init : ByteArray := prog_9_method_1_code
def yX7_init : MethodName := ⟨RX7, "<init>", "()V"⟩
abbrev cX7_hasRoomForFeed : ByteArray := prog_9_method_2_code
def yX7_hasRoomForFeed : MethodName := ⟨RX7, "hasRoomForFeed", "()Z"⟩
abbrev cX7_append : ByteArray := prog_9_method_3_code
def yX7_append : MethodName := ⟨RX7, "append", "(I)V"⟩
abbrev cX7_keep : ByteArray := prog_9_method_4_code
def yX7_keep : MethodName := ⟨RX7, "keep", "(I)Z"⟩
abbrev cX7_byteAt : ByteArray := prog_9_method_5_code
def yX7_byteAt : MethodName := ⟨RX7, "byteAt", "(I)I"⟩
def RX8 : String := "PlyHouse$Tokens"
def TX8 : u_T := fun k => match k with
  | 0 => ("PlyHouse$Tokens", "kinds", "[I", true)
  | 1 => ("PlyHouse$Tokens", "places", "[I", true)
  | _ => ("PlyHouse$Tokens", "count", "I", false)
def tyX8 : Nat → FieldType := fun k => match k with
  | 0 => .array .int
  | 1 => .array .int
  | _ => .int
theorem nmX8 : ∀ a, a < 3 → ∀ b, b < 3 → a ≠ b → (TX8 a).2.1 ≠ (TX8 b).2.1 := by decide +kernel
theorem tyX8_ok : ∀ k, k < 3 → parseFieldDescriptor (TX8 k).2.2.1 = some (tyX8 k) := by decide +kernel
abbrev cX8_init : ByteArray := prog_10_method_1_code
def yX8_init : MethodName := ⟨RX8, "<init>", "()V"⟩
abbrev cX8_split : ByteArray := prog_10_method_2_code
def yX8_split : MethodName := ⟨RX8, "split", "(LPlyHouse$Tape;)V"⟩
abbrev cX8_add : ByteArray := prog_10_method_3_code
def yX8_add : MethodName := ⟨RX8, "add", "(II)V"⟩
abbrev cX8_endAt : ByteArray := prog_10_method_4_code
def yX8_endAt : MethodName := ⟨RX8, "endAt", "(LPlyHouse$Tape;I)I"⟩
abbrev cX8_kindAt : ByteArray := prog_10_method_5_code
def yX8_kindAt : MethodName := ⟨RX8, "kindAt", "(LPlyHouse$Tape;II)I"⟩
abbrev cX8_numberAt : ByteArray := prog_10_method_6_code
def yX8_numberAt : MethodName := ⟨RX8, "numberAt", "(LPlyHouse$Tape;II)I"⟩
abbrev cX8_wordAt : ByteArray := prog_10_method_7_code
def yX8_wordAt : MethodName := ⟨RX8, "wordAt", "(LPlyHouse$Tape;II)I"⟩
abbrev cX8_termAt : ByteArray := prog_10_method_8_code
def yX8_termAt : MethodName := ⟨RX8, "termAt", "(LPlyHouse$Tape;II)I"⟩
abbrev cX8_isWord : ByteArray := prog_10_method_9_code
def yX8_isWord : MethodName := ⟨RX8, "isWord", "(LPlyHouse$Tape;IILjava/lang/String;)Z"⟩
abbrev cX8_signOf : ByteArray := prog_10_method_10_code
def yX8_signOf : MethodName := ⟨RX8, "signOf", "(I)I"⟩
abbrev cX8_isBlank : ByteArray := prog_10_method_11_code
def yX8_isBlank : MethodName := ⟨RX8, "isBlank", "(I)Z"⟩
abbrev cX8_isLetter : ByteArray := prog_10_method_12_code
def yX8_isLetter : MethodName := ⟨RX8, "isLetter", "(I)Z"⟩
abbrev cX8_isDigit : ByteArray := prog_10_method_13_code
def yX8_isDigit : MethodName := ⟨RX8, "isDigit", "(I)Z"⟩
def RX9 : String := "PlyHouse$Veneers"
def TX9 : u_T := fun k => match k with
  | 0 => ("PlyHouse$Veneers", "thicks", "[I", true)
  | 1 => ("PlyHouse$Veneers", "offs", "[I", true)
  | 2 => ("PlyHouse$Veneers", "prices", "[I", true)
  | 3 => ("PlyHouse$Veneers", "fairs", "[Z", true)
  | 4 => ("PlyHouse$Veneers", "layers", "I", false)
  | 5 => ("PlyHouse$Veneers", "low", "I", false)
  | 6 => ("PlyHouse$Veneers", "high", "I", false)
  | 7 => ("PlyHouse$Veneers", "leastPrice", "I", false)
  | _ => ("PlyHouse$Veneers", "cheapestKinds", "I", false)
def tyX9 : Nat → FieldType := fun k => match k with
  | 0 => .array .int
  | 1 => .array .int
  | 2 => .array .int
  | 3 => .array .boolean
  | 4 => .int
  | 5 => .int
  | 6 => .int
  | 7 => .int
  | _ => .int
theorem nmX9 : ∀ a, a < 9 → ∀ b, b < 9 → a ≠ b → (TX9 a).2.1 ≠ (TX9 b).2.1 := by decide +kernel
theorem tyX9_ok : ∀ k, k < 9 → parseFieldDescriptor (TX9 k).2.2.1 = some (tyX9 k) := by decide +kernel
abbrev cX9_init : ByteArray := prog_11_method_1_code
def yX9_init : MethodName := ⟨RX9, "<init>", "()V"⟩
abbrev cX9_set : ByteArray := prog_11_method_2_code
def yX9_set : MethodName := ⟨RX9, "set", "(IIIIZ)V"⟩
abbrev cX9_canBe : ByteArray := prog_11_method_3_code
def yX9_canBe : MethodName := ⟨RX9, "canBe", "(II)Z"⟩
abbrev cX9_kindAt : ByteArray := prog_11_method_4_code
def yX9_kindAt : MethodName := ⟨RX9, "kindAt", "(II)I"⟩
abbrev cX9_ofKind : ByteArray := prog_11_method_5_code
def yX9_ofKind : MethodName := ⟨RX9, "ofKind", "([II)I"⟩
abbrev cX9_sumOf : ByteArray := prog_11_method_6_code
def yX9_sumOf : MethodName := ⟨RX9, "sumOf", "([III)I"⟩
abbrev cX9_thinOf : ByteArray := prog_11_method_7_code
def yX9_thinOf : MethodName := ⟨RX9, "thinOf", "(II)I"⟩
abbrev cX9_thickOf : ByteArray := prog_11_method_8_code
def yX9_thickOf : MethodName := ⟨RX9, "thickOf", "(II)I"⟩
abbrev cX9_priceOf : ByteArray := prog_11_method_9_code
def yX9_priceOf : MethodName := ⟨RX9, "priceOf", "(II)I"⟩
abbrev cX9_warpOf : ByteArray := prog_11_method_10_code
def yX9_warpOf : MethodName := ⟨RX9, "warpOf", "(II)I"⟩
abbrev cX9_cheapest : ByteArray := prog_11_method_11_code
def yX9_cheapest : MethodName := ⟨RX9, "cheapest", "(III)I"⟩
abbrev cX9_lay : ByteArray := prog_11_method_12_code
def yX9_lay : MethodName := ⟨RX9, "lay", "(IIIII)V"⟩
def RX10 : String := "PlyHouse"
def TX10 : u_T := fun k => match k with
  | 0 => ("PlyHouse", "log", "LPlyHouse$Log;", true)
  | 1 => ("PlyHouse", "tape", "LPlyHouse$Tape;", true)
  | 2 => ("PlyHouse", "gradeReader", "LPlyHouse$GradeReader;", true)
  | 3 => ("PlyHouse", "grading", "LPlyHouse$Grades;", true)
  | 4 => ("PlyHouse", "marks", "LPlyHouse$Leaf;", true)
  | 5 => ("PlyHouse", "clipping", "LPlyHouse$Clipping;", true)
  | 6 => ("PlyHouse", "veneers", "LPlyHouse$Veneers;", true)
  | 7 => ("PlyHouse", "pressing", "LPlyHouse$Press;", true)
  | 8 => ("PlyHouse", "latestFault", "I", false)
  | _ => ("PlyHouse", "latestPlace", "I", false)
def tyX10 : Nat → FieldType := fun k => match k with
  | 0 => .object "PlyHouse$Log"
  | 1 => .object "PlyHouse$Tape"
  | 2 => .object "PlyHouse$GradeReader"
  | 3 => .object "PlyHouse$Grades"
  | 4 => .object "PlyHouse$Leaf"
  | 5 => .object "PlyHouse$Clipping"
  | 6 => .object "PlyHouse$Veneers"
  | 7 => .object "PlyHouse$Press"
  | 8 => .int
  | _ => .int
theorem nmX10 : ∀ a, a < 10 → ∀ b, b < 10 → a ≠ b → (TX10 a).2.1 ≠ (TX10 b).2.1 := by decide +kernel
theorem tyX10_ok : ∀ k, k < 10 → parseFieldDescriptor (TX10 k).2.2.1 = some (tyX10 k) := by decide +kernel
abbrev cX10_init : ByteArray := prog_1_method_1_code
def yX10_init : MethodName := ⟨RX10, "<init>", "()V"⟩
abbrev cX10_net : ByteArray := prog_1_method_2_code
def yX10_net : MethodName := ⟨RX10, "net", "(II)Z"⟩
abbrev cX10_centre : ByteArray := prog_1_method_3_code
def yX10_centre : MethodName := ⟨RX10, "centre", "(I)I"⟩
abbrev cX10_full : ByteArray := prog_1_method_4_code
def yX10_full : MethodName := ⟨RX10, "full", "(II)I"⟩
abbrev cX10_feed : ByteArray := prog_1_method_5_code
def yX10_feed : MethodName := ⟨RX10, "feed", "(IIIII)I"⟩
abbrev cX10_end : ByteArray := prog_1_method_6_code
def yX10_end : MethodName := ⟨RX10, "end", "(I)I"⟩
abbrev cX10_grades : ByteArray := prog_1_method_7_code
def yX10_grades : MethodName := ⟨RX10, "grades", "()I"⟩
abbrev cX10_fault : ByteArray := prog_1_method_8_code
def yX10_fault : MethodName := ⟨RX10, "fault", "(I)I"⟩
abbrev cX10_leaf : ByteArray := prog_1_method_9_code
def yX10_leaf : MethodName := ⟨RX10, "leaf", "()I"⟩
abbrev cX10_patch : ByteArray := prog_1_method_10_code
def yX10_patch : MethodName := ⟨RX10, "patch", "(II)Z"⟩
abbrev cX10_sheet : ByteArray := prog_1_method_11_code
def yX10_sheet : MethodName := ⟨RX10, "sheet", "(III)I"⟩
abbrev cX10_worth : ByteArray := prog_1_method_12_code
def yX10_worth : MethodName := ⟨RX10, "worth", "()I"⟩
abbrev cX10_sheets : ByteArray := prog_1_method_13_code
def yX10_sheets : MethodName := ⟨RX10, "sheets", "()I"⟩
abbrev cX10_clipped : ByteArray := prog_1_method_14_code
def yX10_clipped : MethodName := ⟨RX10, "clipped", "(II)I"⟩
abbrev cX10_veneer : ByteArray := prog_1_method_15_code
def yX10_veneer : MethodName := ⟨RX10, "veneer", "(IIIIZ)Z"⟩
abbrev cX10_board : ByteArray := prog_1_method_16_code
def yX10_board : MethodName := ⟨RX10, "board", "(III)I"⟩
abbrev cX10_warp : ByteArray := prog_1_method_17_code
def yX10_warp : MethodName := ⟨RX10, "warp", "(II)I"⟩
abbrev cX10_best : ByteArray := prog_1_method_18_code
def yX10_best : MethodName := ⟨RX10, "best", "(III)I"⟩
abbrev cX10_press : ByteArray := prog_1_method_19_code
def yX10_press : MethodName := ⟨RX10, "press", "(IIII)Z"⟩
abbrev cX10_glue : ByteArray := prog_1_method_20_code
def yX10_glue : MethodName := ⟨RX10, "glue", "(II)I"⟩
abbrev cX10_drop : ByteArray := prog_1_method_21_code
def yX10_drop : MethodName := ⟨RX10, "drop", "()Z"⟩
abbrev cX10_plan : ByteArray := prog_1_method_22_code
def yX10_plan : MethodName := ⟨RX10, "plan", "(I)I"⟩
abbrev cX10_load : ByteArray := prog_1_method_23_code
def yX10_load : MethodName := ⟨RX10, "load", "(II)I"⟩
abbrev cX10_about : ByteArray := prog_1_method_24_code
def yX10_about : MethodName := ⟨RX10, "about", "(I)I"⟩
abbrev cX10_within : ByteArray := prog_1_method_25_code
def yX10_within : MethodName := ⟨RX10, "within", "(III)Z"⟩
def RX11 : String := "PlyHouseModel"
def TX11 : u_T := fun k => match k with
  | 0 => ("PlyHouseModel", "net", "[I", true)
  | 1 => ("PlyHouseModel", "centreY", "I", false)
  | 2 => ("PlyHouseModel", "centreX", "I", false)
  | 3 => ("PlyHouseModel", "radius", "I", false)
  | 4 => ("PlyHouseModel", "tape", "[I", true)
  | 5 => ("PlyHouseModel", "taped", "I", false)
  | 6 => ("PlyHouseModel", "fault", "I", false)
  | 7 => ("PlyHouseModel", "faultPlace", "I", false)
  | 8 => ("PlyHouseModel", "at", "I", false)
  | 9 => ("PlyHouseModel", "size", "I", false)
  | 10 => ("PlyHouseModel", "sort", "I", false)
  | 11 => ("PlyHouseModel", "place", "I", false)
  | 12 => ("PlyHouseModel", "number", "I", false)
  | 13 => ("PlyHouseModel", "word", "J", false)
  | 14 => ("PlyHouseModel", "grades", "I", false)
  | 15 => ("PlyHouseModel", "wide", "[I", true)
  | 16 => ("PlyHouseModel", "worth", "[I", true)
  | 17 => ("PlyHouseModel", "steps", "[I", true)
  | 18 => ("PlyHouseModel", "numbers", "[I", true)
  | 19 => ("PlyHouseModel", "lineAt", "[I", true)
  | 20 => ("PlyHouseModel", "newGrades", "I", false)
  | 21 => ("PlyHouseModel", "newMany", "I", false)
  | 22 => ("PlyHouseModel", "terms", "I", false)
  | 23 => ("PlyHouseModel", "newWide", "[I", true)
  | 24 => ("PlyHouseModel", "newWorth", "[I", true)
  | 25 => ("PlyHouseModel", "newSteps", "[I", true)
  | 26 => ("PlyHouseModel", "newNumbers", "[I", true)
  | 27 => ("PlyHouseModel", "newAt", "[I", true)
  | 28 => ("PlyHouseModel", "waits", "[I", true)
  | 29 => ("PlyHouseModel", "waiting", "I", false)
  | 30 => ("PlyHouseModel", "deep", "I", false)
  | 31 => ("PlyHouseModel", "leaf", "[I", true)
  | 32 => ("PlyHouseModel", "marks", "I", false)
  | 33 => ("PlyHouseModel", "patches", "I", false)
  | 34 => ("PlyHouseModel", "patchCost", "I", false)
  | 35 => ("PlyHouseModel", "names", "[I", true)
  | 36 => ("PlyHouseModel", "pile", "[I", true)
  | 37 => ("PlyHouseModel", "best", "[I", true)
  | 38 => ("PlyHouseModel", "fewest", "[I", true)
  | 39 => ("PlyHouseModel", "cutAt", "[I", true)
  | 40 => ("PlyHouseModel", "cutGrade", "[I", true)
  | 41 => ("PlyHouseModel", "cutPatched", "[I", true)
  | 42 => ("PlyHouseModel", "can", "[Z", true)
  | 43 => ("PlyHouseModel", "cuts", "I", false)
  | 44 => ("PlyHouseModel", "thick", "[I", true)
  | 45 => ("PlyHouseModel", "off", "[I", true)
  | 46 => ("PlyHouseModel", "price", "[I", true)
  | 47 => ("PlyHouseModel", "layer", "[I", true)
  | 48 => ("PlyHouseModel", "isFair", "[Z", true)
  | 49 => ("PlyHouseModel", "openings", "I", false)
  | 50 => ("PlyHouseModel", "base", "I", false)
  | 51 => ("PlyHouseModel", "per", "I", false)
  | 52 => ("PlyHouseModel", "life", "I", false)
  | 53 => ("PlyHouseModel", "boards", "I", false)
  | 54 => ("PlyHouseModel", "boardThick", "[I", true)
  | 55 => ("PlyHouseModel", "glued", "[I", true)
  | 56 => ("PlyHouseModel", "out", "[I", true)
  | 57 => ("PlyHouseModel", "loadSet", "[I", true)
  | 58 => ("PlyHouseModel", "loadAt", "[I", true)
  | 59 => ("PlyHouseModel", "pressed", "I", false)
  | _ => ("PlyHouseModel", "loads", "I", false)
def tyX11 : Nat → FieldType := fun k => match k with
  | 0 => .array .int
  | 1 => .int
  | 2 => .int
  | 3 => .int
  | 4 => .array .int
  | 5 => .int
  | 6 => .int
  | 7 => .int
  | 8 => .int
  | 9 => .int
  | 10 => .int
  | 11 => .int
  | 12 => .int
  | 13 => .long
  | 14 => .int
  | 15 => .array .int
  | 16 => .array .int
  | 17 => .array .int
  | 18 => .array .int
  | 19 => .array .int
  | 20 => .int
  | 21 => .int
  | 22 => .int
  | 23 => .array .int
  | 24 => .array .int
  | 25 => .array .int
  | 26 => .array .int
  | 27 => .array .int
  | 28 => .array .int
  | 29 => .int
  | 30 => .int
  | 31 => .array .int
  | 32 => .int
  | 33 => .int
  | 34 => .int
  | 35 => .array .int
  | 36 => .array .int
  | 37 => .array .int
  | 38 => .array .int
  | 39 => .array .int
  | 40 => .array .int
  | 41 => .array .int
  | 42 => .array .boolean
  | 43 => .int
  | 44 => .array .int
  | 45 => .array .int
  | 46 => .array .int
  | 47 => .array .int
  | 48 => .array .boolean
  | 49 => .int
  | 50 => .int
  | 51 => .int
  | 52 => .int
  | 53 => .int
  | 54 => .array .int
  | 55 => .array .int
  | 56 => .array .int
  | 57 => .array .int
  | 58 => .array .int
  | 59 => .int
  | _ => .int
theorem nmX11 : ∀ a, a < 61 → ∀ b, b < 61 → a ≠ b → (TX11 a).2.1 ≠ (TX11 b).2.1 := by decide +kernel
theorem tyX11_ok : ∀ k, k < 61 → parseFieldDescriptor (TX11 k).2.2.1 = some (tyX11 k) := by decide +kernel
abbrev cX11_init : ByteArray := prog_13_method_1_code
def yX11_init : MethodName := ⟨RX11, "<init>", "()V"⟩
abbrev cX11_net : ByteArray := prog_13_method_2_code
def yX11_net : MethodName := ⟨RX11, "net", "(II)Z"⟩
abbrev cX11_isIn : ByteArray := prog_13_method_3_code
def yX11_isIn : MethodName := ⟨RX11, "isIn", "(II)Z"⟩
abbrev cX11_fits : ByteArray := prog_13_method_4_code
def yX11_fits : MethodName := ⟨RX11, "fits", "(III)Z"⟩
abbrev cX11_seekCentre : ByteArray := prog_13_method_5_code
def yX11_seekCentre : MethodName := ⟨RX11, "seekCentre", "()V"⟩
abbrev cX11_centre : ByteArray := prog_13_method_6_code
def yX11_centre : MethodName := ⟨RX11, "centre", "(I)I"⟩
abbrev cX11_full : ByteArray := prog_13_method_7_code
def yX11_full : MethodName := ⟨RX11, "full", "(II)I"⟩
abbrev cX11_feed : ByteArray := prog_13_method_8_code
def yX11_feed : MethodName := ⟨RX11, "feed", "(IIIII)I"⟩
abbrev cX11_four : ByteArray := prog_13_method_9_code
def yX11_four : MethodName := ⟨RX11, "four", "(I)V"⟩
abbrev cX11_end : ByteArray := prog_13_method_10_code
def yX11_end : MethodName := ⟨RX11, "end", "(I)I"⟩
abbrev cX11_here : ByteArray := prog_13_method_11_code
def yX11_here : MethodName := ⟨RX11, "here", "(I)I"⟩
abbrev cX11_isLetter : ByteArray := prog_13_method_12_code
def yX11_isLetter : MethodName := ⟨RX11, "isLetter", "(I)Z"⟩
abbrev cX11_isDigit : ByteArray := prog_13_method_13_code
def yX11_isDigit : MethodName := ⟨RX11, "isDigit", "(I)Z"⟩
abbrev cX11_isSign : ByteArray := prog_13_method_14_code
def yX11_isSign : MethodName := ⟨RX11, "isSign", "(I)Z"⟩
abbrev cX11_next : ByteArray := prog_13_method_15_code
def yX11_next : MethodName := ⟨RX11, "next", "()V"⟩
abbrev cX11_wrong : ByteArray := prog_13_method_16_code
def yX11_wrong : MethodName := ⟨RX11, "wrong", "(I)V"⟩
abbrev cX11_isWord : ByteArray := prog_13_method_17_code
def yX11_isWord : MethodName := ⟨RX11, "isWord", "(J)Z"⟩
abbrev cX11_named : ByteArray := prog_13_method_18_code
def yX11_named : MethodName := ⟨RX11, "named", "()I"⟩
abbrev cX11_step : ByteArray := prog_13_method_19_code
def yX11_step : MethodName := ⟨RX11, "step", "(II)V"⟩
abbrev cX11_told : ByteArray := prog_13_method_20_code
def yX11_told : MethodName := ⟨RX11, "told", "(II)I"⟩
abbrev cX11_hold : ByteArray := prog_13_method_21_code
def yX11_hold : MethodName := ⟨RX11, "hold", "(I)V"⟩
abbrev cX11_pop : ByteArray := prog_13_method_22_code
def yX11_pop : MethodName := ⟨RX11, "pop", "()V"⟩
abbrev cX11_settle : ByteArray := prog_13_method_23_code
def yX11_settle : MethodName := ⟨RX11, "settle", "(I)V"⟩
abbrev cX11_isOpen : ByteArray := prog_13_method_24_code
def yX11_isOpen : MethodName := ⟨RX11, "isOpen", "()Z"⟩
abbrev cX11_readE : ByteArray := prog_13_method_25_code
def yX11_readE : MethodName := ⟨RX11, "readE", "()V"⟩
abbrev cX11_operand : ByteArray := prog_13_method_26_code
def yX11_operand : MethodName := ⟨RX11, "operand", "(I)I"⟩
abbrev cX11_sign : ByteArray := prog_13_method_27_code
def yX11_sign : MethodName := ⟨RX11, "sign", "(I)I"⟩
abbrev cX11_settleOnes : ByteArray := prog_13_method_28_code
def yX11_settleOnes : MethodName := ⟨RX11, "settleOnes", "(Z)V"⟩
abbrev cX11_begin : ByteArray := prog_13_method_29_code
def yX11_begin : MethodName := ⟨RX11, "begin", "()V"⟩
abbrev cX11_grades : ByteArray := prog_13_method_30_code
def yX11_grades : MethodName := ⟨RX11, "grades", "()I"⟩
abbrev cX11_fault : ByteArray := prog_13_method_31_code
def yX11_fault : MethodName := ⟨RX11, "fault", "(I)I"⟩
abbrev cX11_markOf : ByteArray := prog_13_method_32_code
def yX11_markOf : MethodName := ⟨RX11, "markOf", "(I)I"⟩
abbrev cX11_leaf : ByteArray := prog_13_method_33_code
def yX11_leaf : MethodName := ⟨RX11, "leaf", "()I"⟩
abbrev cX11_patch : ByteArray := prog_13_method_34_code
def yX11_patch : MethodName := ⟨RX11, "patch", "(II)Z"⟩
abbrev cX11_holds : ByteArray := prog_13_method_35_code
def yX11_holds : MethodName := ⟨RX11, "holds", "(I)Z"⟩
abbrev cX11_isSheet : ByteArray := prog_13_method_36_code
def yX11_isSheet : MethodName := ⟨RX11, "isSheet", "(III)Z"⟩
abbrev cX11_sheet : ByteArray := prog_13_method_37_code
def yX11_sheet : MethodName := ⟨RX11, "sheet", "(III)I"⟩
abbrev cX11_cell : ByteArray := prog_13_method_38_code
def yX11_cell : MethodName := ⟨RX11, "cell", "(III)I"⟩
abbrev cX11_clip : ByteArray := prog_13_method_39_code
def yX11_clip : MethodName := ⟨RX11, "clip", "()V"⟩
abbrev cX11_worth : ByteArray := prog_13_method_40_code
def yX11_worth : MethodName := ⟨RX11, "worth", "()I"⟩
abbrev cX11_sheets : ByteArray := prog_13_method_41_code
def yX11_sheets : MethodName := ⟨RX11, "sheets", "()I"⟩
abbrev cX11_clipped : ByteArray := prog_13_method_42_code
def yX11_clipped : MethodName := ⟨RX11, "clipped", "(II)I"⟩
abbrev cX11_veneer : ByteArray := prog_13_method_43_code
def yX11_veneer : MethodName := ⟨RX11, "veneer", "(IIIIZ)Z"⟩
abbrev cX11_lays : ByteArray := prog_13_method_44_code
def yX11_lays : MethodName := ⟨RX11, "lays", "(II)Z"⟩
abbrev cX11_sum : ByteArray := prog_13_method_45_code
def yX11_sum : MethodName := ⟨RX11, "sum", "(II)I"⟩
abbrev cX11_board : ByteArray := prog_13_method_46_code
def yX11_board : MethodName := ⟨RX11, "board", "(III)I"⟩
abbrev cX11_warp : ByteArray := prog_13_method_47_code
def yX11_warp : MethodName := ⟨RX11, "warp", "(II)I"⟩
abbrev cX11_best : ByteArray := prog_13_method_48_code
def yX11_best : MethodName := ⟨RX11, "best", "(III)I"⟩
abbrev cX11_press : ByteArray := prog_13_method_49_code
def yX11_press : MethodName := ⟨RX11, "press", "(IIII)Z"⟩
abbrev cX11_glue : ByteArray := prog_13_method_50_code
def yX11_glue : MethodName := ⟨RX11, "glue", "(II)I"⟩
abbrev cX11_drop : ByteArray := prog_13_method_51_code
def yX11_drop : MethodName := ⟨RX11, "drop", "()Z"⟩
abbrev cX11_many : ByteArray := prog_13_method_52_code
def yX11_many : MethodName := ⟨RX11, "many", "(I)I"⟩
abbrev cX11_putIn : ByteArray := prog_13_method_53_code
def yX11_putIn : MethodName := ⟨RX11, "putIn", "(II)I"⟩
abbrev cX11_lasts : ByteArray := prog_13_method_54_code
def yX11_lasts : MethodName := ⟨RX11, "lasts", "(I)I"⟩
abbrev cX11_outBy : ByteArray := prog_13_method_55_code
def yX11_outBy : MethodName := ⟨RX11, "outBy", "(II)I"⟩
abbrev cX11_seek : ByteArray := prog_13_method_56_code
def yX11_seek : MethodName := ⟨RX11, "seek", "()V"⟩
abbrev cX11_plan : ByteArray := prog_13_method_57_code
def yX11_plan : MethodName := ⟨RX11, "plan", "(I)I"⟩
abbrev cX11_load : ByteArray := prog_13_method_58_code
def yX11_load : MethodName := ⟨RX11, "load", "(II)I"⟩
abbrev cX11_about : ByteArray := prog_13_method_59_code
def yX11_about : MethodName := ⟨RX11, "about", "(I)I"⟩
def RJ6 : String := "java/lang/Integer"
def TJ6 : u_T := fun k => match k with
  | _ => ("", "", "", false)
def tyJ6 : Nat → FieldType := fun k => match k with
  | _ => .int
theorem nmJ6 : ∀ a, a < 0 → ∀ b, b < 0 → a ≠ b → (TJ6 a).2.1 ≠ (TJ6 b).2.1 := by decide +kernel
theorem tyJ6_ok : ∀ k, k < 0 → parseFieldDescriptor (TJ6 k).2.2.1 = some (tyJ6 k) := by decide +kernel
abbrev cJ6_bitCount_0f7a4 : ByteArray := prog_14_method_49_code
def yJ6_bitCount_0f7a4 : MethodName := ⟨RJ6, "bitCount", "(I)I"⟩
def RJ9 : String := "java/lang/Math"
def TJ9 : u_T := fun k => match k with
  | _ => ("", "", "", false)
def tyJ9 : Nat → FieldType := fun k => match k with
  | _ => .int
theorem nmJ9 : ∀ a, a < 0 → ∀ b, b < 0 → a ≠ b → (TJ9 a).2.1 ≠ (TJ9 b).2.1 := by decide +kernel
theorem tyJ9_ok : ∀ k, k < 0 → parseFieldDescriptor (TJ9 k).2.2.1 = some (tyJ9 k) := by decide +kernel
abbrev cJ9_max_7cf53 : ByteArray := prog_15_method_65_code
def yJ9_max_7cf53 : MethodName := ⟨RJ9, "max", "(II)I"⟩
abbrev cJ9_min_7cf53 : ByteArray := prog_15_method_69_code
def yJ9_min_7cf53 : MethodName := ⟨RJ9, "min", "(II)I"⟩
def RJ0 : String := "java/lang/String"
def TJ0 : u_T := fun k => match k with
  | _ => ("", "", "", false)
def tyJ0 : Nat → FieldType := fun k => match k with
  | _ => .int
theorem nmJ0 : ∀ a, a < 0 → ∀ b, b < 0 → a ≠ b → (TJ0 a).2.1 ≠ (TJ0 b).2.1 := by decide +kernel
theorem tyJ0_ok : ∀ k, k < 0 → parseFieldDescriptor (TJ0 k).2.2.1 = some (tyJ0 k) := by decide +kernel
abbrev cJ0_length_8abf5 : ByteArray := prog_16_method_54_code
def yJ0_length_8abf5 : MethodName := ⟨RJ0, "length", "()I"⟩
abbrev cJ0_charAt_5068e : ByteArray := prog_16_method_56_code
def yJ0_charAt_5068e : MethodName := ⟨RJ0, "charAt", "(I)C"⟩
abbrev cJ0_coder_7d493 : ByteArray := prog_16_method_152_code
def yJ0_coder_7d493 : MethodName := ⟨RJ0, "coder", "()B"⟩
abbrev cJ0_isLatin1_aae02 : ByteArray := prog_16_method_154_code
def yJ0_isLatin1_aae02 : MethodName := ⟨RJ0, "isLatin1", "()Z"⟩
abbrev cJ0_checkIndex_df160 : ByteArray := prog_16_method_155_code
def yJ0_checkIndex_df160 : MethodName := ⟨RJ0, "checkIndex", "(II)V"⟩
def RJ1 : String := "java/lang/StringLatin1"
def TJ1 : u_T := fun k => match k with
  | _ => ("", "", "", false)
def tyJ1 : Nat → FieldType := fun k => match k with
  | _ => .int
theorem nmJ1 : ∀ a, a < 0 → ∀ b, b < 0 → a ≠ b → (TJ1 a).2.1 ≠ (TJ1 b).2.1 := by decide +kernel
theorem tyJ1_ok : ∀ k, k < 0 → parseFieldDescriptor (TJ1 k).2.2.1 = some (tyJ1 k) := by decide +kernel
abbrev cJ1_charAt_3b067 : ByteArray := prog_17_method_2_code
def yJ1_charAt_3b067 : MethodName := ⟨RJ1, "charAt", "([BI)C"⟩
def RJ2 : String := "java/lang/StringUTF16"
def TJ2 : u_T := fun k => match k with
  | _ => ("", "", "", false)
def tyJ2 : Nat → FieldType := fun k => match k with
  | _ => .int
theorem nmJ2 : ∀ a, a < 0 → ∀ b, b < 0 → a ≠ b → (TJ2 a).2.1 ≠ (TJ2 b).2.1 := by decide +kernel
theorem tyJ2_ok : ∀ k, k < 0 → parseFieldDescriptor (TJ2 k).2.2.1 = some (tyJ2 k) := by decide +kernel
abbrev cJ2_getChar_3b067 : ByteArray := prog_18_method_5_code
def yJ2_getChar_3b067 : MethodName := ⟨RJ2, "getChar", "([BI)C"⟩
abbrev cJ2_length_9d52b : ByteArray := prog_18_method_6_code
def yJ2_length_9d52b : MethodName := ⟨RJ2, "length", "([B)I"⟩
abbrev cJ2_charAt_3b067 : ByteArray := prog_18_method_83_code
def yJ2_charAt_3b067 : MethodName := ⟨RJ2, "charAt", "([BI)C"⟩
abbrev cJ2_checkIndex_2214a : ByteArray := prog_18_method_91_code
def yJ2_checkIndex_2214a : MethodName := ⟨RJ2, "checkIndex", "(I[B)V"⟩
def RJ3 : String := "jdk/internal/util/Preconditions"
def TJ3 : u_T := fun k => match k with
  | _ => ("", "", "", false)
def tyJ3 : Nat → FieldType := fun k => match k with
  | _ => .int
theorem nmJ3 : ∀ a, a < 0 → ∀ b, b < 0 → a ≠ b → (TJ3 a).2.1 ≠ (TJ3 b).2.1 := by decide +kernel
theorem tyJ3_ok : ∀ k, k < 0 → parseFieldDescriptor (TJ3 k).2.2.1 = some (tyJ3 k) := by decide +kernel
abbrev cJ3_checkIndex_8e157 : ByteArray := prog_19_method_11_code
def yJ3_checkIndex_8e157 : MethodName := ⟨RJ3, "checkIndex", "(IILjava/util/function/BiFunction;)I"⟩
def RL : String := "PlyHouseLaw"
abbrev cL_law : ByteArray := code
def yL_law : MethodName := ⟨RL, "law", "([I)Z"⟩
abbrev vwCl : List vw_C := [(RX0, TX0, 12), (RX1, TX1, 6), (RX2, TX2, 8), (RX3, TX3, 6), (RX4, TX4, 5), (RX5, TX5, 9), (RX6, TX6, 16), (RX7, TX7, 2), (RX8, TX8, 3), (RX9, TX9, 9), (RX10, TX10, 10), (RX11, TX11, 61)]
end
section
theorem dX0_init_0 : decode cX0_init 0 = .ok (.aload_n 0, 1) := by decide +kernel
theorem dX0_init_1 : decode cX0_init 1 = .ok (.invokespecial 3, 3) := by decide +kernel
theorem dX0_init_4 : decode cX0_init 4 = .ok (.aload_n 0, 1) := by decide +kernel
theorem dX0_init_5 : decode cX0_init 5 = .ok (.aload_n 1, 1) := by decide +kernel
theorem dX0_init_6 : decode cX0_init 6 = .ok (.putfield 9, 3) := by decide +kernel
theorem dX0_init_9 : decode cX0_init 9 = .ok (.aload_n 0, 1) := by decide +kernel
theorem dX0_init_10 : decode cX0_init 10 = .ok (.aload_n 2, 1) := by decide +kernel
theorem dX0_init_11 : decode cX0_init 11 = .ok (.putfield 15, 3) := by decide +kernel
theorem dX0_init_14 : decode cX0_init 14 = .ok (.aload_n 0, 1) := by decide +kernel
theorem dX0_init_15 : decode cX0_init 15 = .ok (.new 19, 3) := by decide +kernel
theorem dX0_init_18 : decode cX0_init 18 = .ok (.dup, 1) := by decide +kernel
theorem dX0_init_19 : decode cX0_init 19 = .ok (.aload_n 2, 1) := by decide +kernel
theorem dX0_init_20 : decode cX0_init 20 = .ok (.invokespecial 21, 3) := by decide +kernel
theorem dX0_init_23 : decode cX0_init 23 = .ok (.putfield 24, 3) := by decide +kernel
theorem dX0_init_26 : decode cX0_init 26 = .ok (.aload_n 0, 1) := by decide +kernel
theorem dX0_init_27 : decode cX0_init 27 = .ok (.sipush 301, 3) := by decide +kernel
theorem dX0_init_30 : decode cX0_init 30 = .ok (.newarray .int, 2) := by decide +kernel
theorem dX0_init_32 : decode cX0_init 32 = .ok (.putfield 30, 3) := by decide +kernel
theorem dX0_init_35 : decode cX0_init 35 = .ok (.aload_n 0, 1) := by decide +kernel
theorem dX0_init_36 : decode cX0_init 36 = .ok (.sipush 301, 3) := by decide +kernel
theorem dX0_init_39 : decode cX0_init 39 = .ok (.newarray .int, 2) := by decide +kernel
theorem dX0_init_41 : decode cX0_init 41 = .ok (.putfield 34, 3) := by decide +kernel
theorem dX0_init_44 : decode cX0_init 44 = .ok (.aload_n 0, 1) := by decide +kernel
theorem dX0_init_45 : decode cX0_init 45 = .ok (.sipush 301, 3) := by decide +kernel
theorem dX0_init_48 : decode cX0_init 48 = .ok (.newarray .int, 2) := by decide +kernel
theorem dX0_init_50 : decode cX0_init 50 = .ok (.putfield 37, 3) := by decide +kernel
theorem dX0_init_53 : decode cX0_init 53 = .ok (.aload_n 0, 1) := by decide +kernel
theorem dX0_init_54 : decode cX0_init 54 = .ok (.sipush 301, 3) := by decide +kernel
theorem dX0_init_57 : decode cX0_init 57 = .ok (.newarray .int, 2) := by decide +kernel
theorem dX0_init_59 : decode cX0_init 59 = .ok (.putfield 40, 3) := by decide +kernel
theorem dX0_init_62 : decode cX0_init 62 = .ok (.aload_n 0, 1) := by decide +kernel
theorem dX0_init_63 : decode cX0_init 63 = .ok (.sipush 300, 3) := by decide +kernel
theorem dX0_init_66 : decode cX0_init 66 = .ok (.newarray .int, 2) := by decide +kernel
theorem dX0_init_68 : decode cX0_init 68 = .ok (.putfield 43, 3) := by decide +kernel
theorem dX0_init_71 : decode cX0_init 71 = .ok (.aload_n 0, 1) := by decide +kernel
theorem dX0_init_72 : decode cX0_init 72 = .ok (.iconst 0, 1) := by decide +kernel
theorem dX0_init_73 : decode cX0_init 73 = .ok (.putfield 46, 3) := by decide +kernel
theorem dX0_init_76 : decode cX0_init 76 = .ok (.aload_n 0, 1) := by decide +kernel
theorem dX0_init_77 : decode cX0_init 77 = .ok (.iconst 1, 1) := by decide +kernel
theorem dX0_init_78 : decode cX0_init 78 = .ok (.putfield 50, 3) := by decide +kernel
theorem dX0_init_81 : decode cX0_init 81 = .ok (.aload_n 0, 1) := by decide +kernel
theorem dX0_init_82 : decode cX0_init 82 = .ok (.iconst 0, 1) := by decide +kernel
theorem dX0_init_83 : decode cX0_init 83 = .ok (.putfield 53, 3) := by decide +kernel
theorem dX0_init_86 : decode cX0_init 86 = .ok (.aload_n 0, 1) := by decide +kernel
theorem dX0_init_87 : decode cX0_init 87 = .ok (.iconst 1, 1) := by decide +kernel
theorem dX0_init_88 : decode cX0_init 88 = .ok (.putfield 56, 3) := by decide +kernel
theorem dX0_init_91 : decode cX0_init 91 = .ok (.return_, 1) := by decide +kernel
theorem dX0_forget_0 : decode cX0_forget 0 = .ok (.aload_n 0, 1) := by decide +kernel
theorem dX0_forget_1 : decode cX0_forget 1 = .ok (.iconst 1, 1) := by decide +kernel
theorem dX0_forget_2 : decode cX0_forget 2 = .ok (.putfield 56, 3) := by decide +kernel
theorem dX0_forget_5 : decode cX0_forget 5 = .ok (.return_, 1) := by decide +kernel
theorem dX0_setPatching_0 : decode cX0_setPatching 0 = .ok (.aload_n 0, 1) := by decide +kernel
theorem dX0_setPatching_1 : decode cX0_setPatching 1 = .ok (.iload_n 1, 1) := by decide +kernel
theorem dX0_setPatching_2 : decode cX0_setPatching 2 = .ok (.putfield 46, 3) := by decide +kernel
theorem dX0_setPatching_5 : decode cX0_setPatching 5 = .ok (.aload_n 0, 1) := by decide +kernel
theorem dX0_setPatching_6 : decode cX0_setPatching 6 = .ok (.iload_n 2, 1) := by decide +kernel
theorem dX0_setPatching_7 : decode cX0_setPatching 7 = .ok (.putfield 50, 3) := by decide +kernel
theorem dX0_setPatching_10 : decode cX0_setPatching 10 = .ok (.aload_n 0, 1) := by decide +kernel
theorem dX0_setPatching_11 : decode cX0_setPatching 11 = .ok (.iconst 1, 1) := by decide +kernel
theorem dX0_setPatching_12 : decode cX0_setPatching 12 = .ok (.putfield 56, 3) := by decide +kernel
theorem dX0_setPatching_15 : decode cX0_setPatching 15 = .ok (.return_, 1) := by decide +kernel
theorem dX0_isSheet_0 : decode cX0_isSheet 0 = .ok (.aload_n 0, 1) := by decide +kernel
theorem dX0_isSheet_1 : decode cX0_isSheet 1 = .ok (.getfield 24, 3) := by decide +kernel
theorem dX0_isSheet_4 : decode cX0_isSheet 4 = .ok (.iload_n 1, 1) := by decide +kernel
theorem dX0_isSheet_5 : decode cX0_isSheet 5 = .ok (.invokevirtual 60, 3) := by decide +kernel
theorem dX0_isSheet_8 : decode cX0_isSheet 8 = .ok (.aload_n 0, 1) := by decide +kernel
theorem dX0_isSheet_9 : decode cX0_isSheet 9 = .ok (.getfield 24, 3) := by decide +kernel
theorem dX0_isSheet_12 : decode cX0_isSheet 12 = .ok (.iload_n 1, 1) := by decide +kernel
theorem dX0_isSheet_13 : decode cX0_isSheet 13 = .ok (.aload_n 0, 1) := by decide +kernel
theorem dX0_isSheet_14 : decode cX0_isSheet 14 = .ok (.getfield 9, 3) := by decide +kernel
theorem dX0_isSheet_17 : decode cX0_isSheet 17 = .ok (.iload_n 2, 1) := by decide +kernel
theorem dX0_isSheet_18 : decode cX0_isSheet 18 = .ok (.invokevirtual 64, 3) := by decide +kernel
theorem dX0_isSheet_21 : decode cX0_isSheet 21 = .ok (.iadd, 1) := by decide +kernel
theorem dX0_isSheet_22 : decode cX0_isSheet 22 = .ok (.invokevirtual 70, 3) := by decide +kernel
theorem dX0_isSheet_25 : decode cX0_isSheet 25 = .ok (.aload_n 0, 1) := by decide +kernel
theorem dX0_isSheet_26 : decode cX0_isSheet 26 = .ok (.iload_n 2, 1) := by decide +kernel
theorem dX0_isSheet_27 : decode cX0_isSheet 27 = .ok (.iload_n 3, 1) := by decide +kernel
theorem dX0_isSheet_28 : decode cX0_isSheet 28 = .ok (.invokevirtual 73, 3) := by decide +kernel
theorem dX0_isSheet_31 : decode cX0_isSheet 31 = .ok (.ireturn, 1) := by decide +kernel
theorem dX0_partIsSheet_0 : decode cX0_partIsSheet 0 = .ok (.aload_n 0, 1) := by decide +kernel
theorem dX0_partIsSheet_1 : decode cX0_partIsSheet 1 = .ok (.getfield 24, 3) := by decide +kernel
theorem dX0_partIsSheet_4 : decode cX0_partIsSheet 4 = .ok (.iload_n 2, 1) := by decide +kernel
theorem dX0_partIsSheet_5 : decode cX0_partIsSheet 5 = .ok (.putfield 77, 3) := by decide +kernel
theorem dX0_partIsSheet_8 : decode cX0_partIsSheet 8 = .ok (.iload_n 2, 1) := by decide +kernel
theorem dX0_partIsSheet_9 : decode cX0_partIsSheet 9 = .ok (.aload_n 0, 1) := by decide +kernel
theorem dX0_partIsSheet_10 : decode cX0_partIsSheet 10 = .ok (.getfield 46, 3) := by decide +kernel
theorem dX0_partIsSheet_13 : decode cX0_partIsSheet 13 = .ok (.if_icmp .gt 33, 3) := by decide +kernel
theorem dX0_partIsSheet_16 : decode cX0_partIsSheet 16 = .ok (.iload_n 2, 1) := by decide +kernel
theorem dX0_partIsSheet_17 : decode cX0_partIsSheet 17 = .ok (.aload_n 0, 1) := by decide +kernel
theorem dX0_partIsSheet_18 : decode cX0_partIsSheet 18 = .ok (.getfield 24, 3) := by decide +kernel
theorem dX0_partIsSheet_21 : decode cX0_partIsSheet 21 = .ok (.getfield 80, 3) := by decide +kernel
theorem dX0_partIsSheet_24 : decode cX0_partIsSheet 24 = .ok (.if_icmp .gt 22, 3) := by decide +kernel
theorem dX0_partIsSheet_27 : decode cX0_partIsSheet 27 = .ok (.aload_n 0, 1) := by decide +kernel
theorem dX0_partIsSheet_28 : decode cX0_partIsSheet 28 = .ok (.getfield 9, 3) := by decide +kernel
theorem dX0_partIsSheet_31 : decode cX0_partIsSheet 31 = .ok (.iload_n 1, 1) := by decide +kernel
theorem dX0_partIsSheet_32 : decode cX0_partIsSheet 32 = .ok (.aload_n 0, 1) := by decide +kernel
theorem dX0_partIsSheet_33 : decode cX0_partIsSheet 33 = .ok (.getfield 24, 3) := by decide +kernel
theorem dX0_partIsSheet_36 : decode cX0_partIsSheet 36 = .ok (.invokevirtual 83, 3) := by decide +kernel
theorem dX0_partIsSheet_39 : decode cX0_partIsSheet 39 = .ok (.ifCond .eq 7, 3) := by decide +kernel
theorem dX0_partIsSheet_42 : decode cX0_partIsSheet 42 = .ok (.iconst 1, 1) := by decide +kernel
theorem dX0_partIsSheet_43 : decode cX0_partIsSheet 43 = .ok (.goto 4, 3) := by decide +kernel
theorem dX0_partIsSheet_46 : decode cX0_partIsSheet 46 = .ok (.iconst 0, 1) := by decide +kernel
theorem dX0_partIsSheet_47 : decode cX0_partIsSheet 47 = .ok (.ireturn, 1) := by decide +kernel
theorem dX0_find_0 : decode cX0_find 0 = .ok (.aload_n 0, 1) := by decide +kernel
theorem dX0_find_1 : decode cX0_find 1 = .ok (.getfield 56, 3) := by decide +kernel
theorem dX0_find_4 : decode cX0_find 4 = .ok (.ifCond .ne 4, 3) := by decide +kernel
theorem dX0_find_7 : decode cX0_find 7 = .ok (.return_, 1) := by decide +kernel
theorem dX0_find_8 : decode cX0_find 8 = .ok (.aload_n 0, 1) := by decide +kernel
theorem dX0_find_9 : decode cX0_find 9 = .ok (.iconst 0, 1) := by decide +kernel
theorem dX0_find_10 : decode cX0_find 10 = .ok (.putfield 56, 3) := by decide +kernel
theorem dX0_find_13 : decode cX0_find 13 = .ok (.aload_n 0, 1) := by decide +kernel
theorem dX0_find_14 : decode cX0_find 14 = .ok (.getfield 15, 3) := by decide +kernel
theorem dX0_find_17 : decode cX0_find 17 = .ok (.getfield 87, 3) := by decide +kernel
theorem dX0_find_20 : decode cX0_find 20 = .ok (.sipush 300, 3) := by decide +kernel
theorem dX0_find_23 : decode cX0_find 23 = .ok (.invokestatic 90, 3) := by decide +kernel
theorem dX0_find_26 : decode cX0_find 26 = .ok (.istore_n 1, 1) := by decide +kernel
theorem dX0_find_27 : decode cX0_find 27 = .ok (.aload_n 0, 1) := by decide +kernel
theorem dX0_find_28 : decode cX0_find 28 = .ok (.getfield 30, 3) := by decide +kernel
theorem dX0_find_31 : decode cX0_find 31 = .ok (.iload_n 1, 1) := by decide +kernel
theorem dX0_find_32 : decode cX0_find 32 = .ok (.iconst 0, 1) := by decide +kernel
theorem dX0_find_33 : decode cX0_find 33 = .ok (.iastore, 1) := by decide +kernel
theorem dX0_find_34 : decode cX0_find 34 = .ok (.aload_n 0, 1) := by decide +kernel
theorem dX0_find_35 : decode cX0_find 35 = .ok (.getfield 34, 3) := by decide +kernel
theorem dX0_find_38 : decode cX0_find 38 = .ok (.iload_n 1, 1) := by decide +kernel
theorem dX0_find_39 : decode cX0_find 39 = .ok (.iconst 0, 1) := by decide +kernel
theorem dX0_find_40 : decode cX0_find 40 = .ok (.iastore, 1) := by decide +kernel
theorem dX0_find_41 : decode cX0_find 41 = .ok (.iload_n 1, 1) := by decide +kernel
theorem dX0_find_42 : decode cX0_find 42 = .ok (.iconst 1, 1) := by decide +kernel
theorem dX0_find_43 : decode cX0_find 43 = .ok (.isub, 1) := by decide +kernel
theorem dX0_find_44 : decode cX0_find 44 = .ok (.istore_n 2, 1) := by decide +kernel
theorem dX0_find_45 : decode cX0_find 45 = .ok (.iload_n 2, 1) := by decide +kernel
theorem dX0_find_46 : decode cX0_find 46 = .ok (.ifCond .lt 84, 3) := by decide +kernel
theorem dX0_find_49 : decode cX0_find 49 = .ok (.aload_n 0, 1) := by decide +kernel
theorem dX0_find_50 : decode cX0_find 50 = .ok (.getfield 30, 3) := by decide +kernel
theorem dX0_find_53 : decode cX0_find 53 = .ok (.iload_n 2, 1) := by decide +kernel
theorem dX0_find_54 : decode cX0_find 54 = .ok (.aload_n 0, 1) := by decide +kernel
theorem dX0_find_55 : decode cX0_find 55 = .ok (.getfield 30, 3) := by decide +kernel
theorem dX0_find_58 : decode cX0_find 58 = .ok (.iload_n 2, 1) := by decide +kernel
theorem dX0_find_59 : decode cX0_find 59 = .ok (.iconst 1, 1) := by decide +kernel
theorem dX0_find_60 : decode cX0_find 60 = .ok (.iadd, 1) := by decide +kernel
theorem dX0_find_61 : decode cX0_find 61 = .ok (.iaload, 1) := by decide +kernel
theorem dX0_find_62 : decode cX0_find 62 = .ok (.iastore, 1) := by decide +kernel
theorem dX0_find_63 : decode cX0_find 63 = .ok (.aload_n 0, 1) := by decide +kernel
theorem dX0_find_64 : decode cX0_find 64 = .ok (.getfield 34, 3) := by decide +kernel
theorem dX0_find_67 : decode cX0_find 67 = .ok (.iload_n 2, 1) := by decide +kernel
theorem dX0_find_68 : decode cX0_find 68 = .ok (.aload_n 0, 1) := by decide +kernel
theorem dX0_find_69 : decode cX0_find 69 = .ok (.getfield 34, 3) := by decide +kernel
theorem dX0_find_72 : decode cX0_find 72 = .ok (.iload_n 2, 1) := by decide +kernel
theorem dX0_find_73 : decode cX0_find 73 = .ok (.iconst 1, 1) := by decide +kernel
theorem dX0_find_74 : decode cX0_find 74 = .ok (.iadd, 1) := by decide +kernel
theorem dX0_find_75 : decode cX0_find 75 = .ok (.iaload, 1) := by decide +kernel
theorem dX0_find_76 : decode cX0_find 76 = .ok (.iastore, 1) := by decide +kernel
theorem dX0_find_77 : decode cX0_find 77 = .ok (.aload_n 0, 1) := by decide +kernel
theorem dX0_find_78 : decode cX0_find 78 = .ok (.getfield 37, 3) := by decide +kernel
theorem dX0_find_81 : decode cX0_find 81 = .ok (.iload_n 2, 1) := by decide +kernel
theorem dX0_find_82 : decode cX0_find 82 = .ok (.iconst (-1), 1) := by decide +kernel
theorem dX0_find_83 : decode cX0_find 83 = .ok (.iastore, 1) := by decide +kernel
theorem dX0_find_84 : decode cX0_find 84 = .ok (.aload_n 0, 1) := by decide +kernel
theorem dX0_find_85 : decode cX0_find 85 = .ok (.getfield 40, 3) := by decide +kernel
theorem dX0_find_88 : decode cX0_find 88 = .ok (.iload_n 2, 1) := by decide +kernel
theorem dX0_find_89 : decode cX0_find 89 = .ok (.iconst 0, 1) := by decide +kernel
theorem dX0_find_90 : decode cX0_find 90 = .ok (.iastore, 1) := by decide +kernel
theorem dX0_find_91 : decode cX0_find 91 = .ok (.aload_n 0, 1) := by decide +kernel
theorem dX0_find_92 : decode cX0_find 92 = .ok (.getfield 24, 3) := by decide +kernel
theorem dX0_find_95 : decode cX0_find 95 = .ok (.iload_n 2, 1) := by decide +kernel
theorem dX0_find_96 : decode cX0_find 96 = .ok (.invokevirtual 60, 3) := by decide +kernel
theorem dX0_find_99 : decode cX0_find 99 = .ok (.iconst 0, 1) := by decide +kernel
theorem dX0_find_100 : decode cX0_find 100 = .ok (.istore_n 3, 1) := by decide +kernel
theorem dX0_find_101 : decode cX0_find 101 = .ok (.iload_n 3, 1) := by decide +kernel
theorem dX0_find_102 : decode cX0_find 102 = .ok (.aload_n 0, 1) := by decide +kernel
theorem dX0_find_103 : decode cX0_find 103 = .ok (.getfield 9, 3) := by decide +kernel
theorem dX0_find_106 : decode cX0_find 106 = .ok (.getfield 96, 3) := by decide +kernel
theorem dX0_find_109 : decode cX0_find 109 = .ok (.if_icmp .ge 15, 3) := by decide +kernel
theorem dX0_find_112 : decode cX0_find 112 = .ok (.aload_n 0, 1) := by decide +kernel
theorem dX0_find_113 : decode cX0_find 113 = .ok (.iload_n 2, 1) := by decide +kernel
theorem dX0_find_114 : decode cX0_find 114 = .ok (.iload_n 3, 1) := by decide +kernel
theorem dX0_find_115 : decode cX0_find 115 = .ok (.invokevirtual 99, 3) := by decide +kernel
theorem dX0_find_118 : decode cX0_find 118 = .ok (.iinc 3 1, 3) := by decide +kernel
theorem dX0_find_121 : decode cX0_find 121 = .ok (.goto (-20), 3) := by decide +kernel
theorem dX0_find_124 : decode cX0_find 124 = .ok (.iinc 2 (-1), 3) := by decide +kernel
theorem dX0_find_127 : decode cX0_find 127 = .ok (.goto (-82), 3) := by decide +kernel
theorem dX0_find_130 : decode cX0_find 130 = .ok (.aload_n 0, 1) := by decide +kernel
theorem dX0_find_131 : decode cX0_find 131 = .ok (.iload_n 1, 1) := by decide +kernel
theorem dX0_find_132 : decode cX0_find 132 = .ok (.invokevirtual 103, 3) := by decide +kernel
theorem dX0_find_135 : decode cX0_find 135 = .ok (.return_, 1) := by decide +kernel
theorem dX0_trySheets_0 : decode cX0_trySheets 0 = .ok (.iload_n 1, 1) := by decide +kernel
theorem dX0_trySheets_1 : decode cX0_trySheets 1 = .ok (.aload_n 0, 1) := by decide +kernel
theorem dX0_trySheets_2 : decode cX0_trySheets 2 = .ok (.getfield 9, 3) := by decide +kernel
theorem dX0_trySheets_5 : decode cX0_trySheets 5 = .ok (.iload_n 2, 1) := by decide +kernel
theorem dX0_trySheets_6 : decode cX0_trySheets 6 = .ok (.invokevirtual 64, 3) := by decide +kernel
theorem dX0_trySheets_9 : decode cX0_trySheets 9 = .ok (.iadd, 1) := by decide +kernel
theorem dX0_trySheets_10 : decode cX0_trySheets 10 = .ok (.istore_n 3, 1) := by decide +kernel
theorem dX0_trySheets_11 : decode cX0_trySheets 11 = .ok (.iload_n 1, 1) := by decide +kernel
theorem dX0_trySheets_12 : decode cX0_trySheets 12 = .ok (.ifCond .lt 28, 3) := by decide +kernel
theorem dX0_trySheets_15 : decode cX0_trySheets 15 = .ok (.iload_n 3, 1) := by decide +kernel
theorem dX0_trySheets_16 : decode cX0_trySheets 16 = .ok (.iload_n 1, 1) := by decide +kernel
theorem dX0_trySheets_17 : decode cX0_trySheets 17 = .ok (.if_icmp .le 23, 3) := by decide +kernel
theorem dX0_trySheets_20 : decode cX0_trySheets 20 = .ok (.iload_n 3, 1) := by decide +kernel
theorem dX0_trySheets_21 : decode cX0_trySheets 21 = .ok (.aload_n 0, 1) := by decide +kernel
theorem dX0_trySheets_22 : decode cX0_trySheets 22 = .ok (.getfield 15, 3) := by decide +kernel
theorem dX0_trySheets_25 : decode cX0_trySheets 25 = .ok (.getfield 87, 3) := by decide +kernel
theorem dX0_trySheets_28 : decode cX0_trySheets 28 = .ok (.if_icmp .gt 12, 3) := by decide +kernel
theorem dX0_trySheets_31 : decode cX0_trySheets 31 = .ok (.iload_n 3, 1) := by decide +kernel
theorem dX0_trySheets_32 : decode cX0_trySheets 32 = .ok (.aload_n 0, 1) := by decide +kernel
theorem dX0_trySheets_33 : decode cX0_trySheets 33 = .ok (.getfield 30, 3) := by decide +kernel
theorem dX0_trySheets_36 : decode cX0_trySheets 36 = .ok (.arraylength, 1) := by decide +kernel
theorem dX0_trySheets_37 : decode cX0_trySheets 37 = .ok (.if_icmp .lt 4, 3) := by decide +kernel
theorem dX0_trySheets_40 : decode cX0_trySheets 40 = .ok (.return_, 1) := by decide +kernel
theorem dX0_trySheets_41 : decode cX0_trySheets 41 = .ok (.aload_n 0, 1) := by decide +kernel
theorem dX0_trySheets_42 : decode cX0_trySheets 42 = .ok (.getfield 24, 3) := by decide +kernel
theorem dX0_trySheets_45 : decode cX0_trySheets 45 = .ok (.iload_n 3, 1) := by decide +kernel
theorem dX0_trySheets_46 : decode cX0_trySheets 46 = .ok (.invokevirtual 70, 3) := by decide +kernel
theorem dX0_trySheets_49 : decode cX0_trySheets 49 = .ok (.aload_n 0, 1) := by decide +kernel
theorem dX0_trySheets_50 : decode cX0_trySheets 50 = .ok (.getfield 9, 3) := by decide +kernel
theorem dX0_trySheets_53 : decode cX0_trySheets 53 = .ok (.iload_n 2, 1) := by decide +kernel
theorem dX0_trySheets_54 : decode cX0_trySheets 54 = .ok (.invokevirtual 106, 3) := by decide +kernel
theorem dX0_trySheets_57 : decode cX0_trySheets 57 = .ok (.aload_n 0, 1) := by decide +kernel
theorem dX0_trySheets_58 : decode cX0_trySheets 58 = .ok (.getfield 30, 3) := by decide +kernel
theorem dX0_trySheets_61 : decode cX0_trySheets 61 = .ok (.iload_n 3, 1) := by decide +kernel
theorem dX0_trySheets_62 : decode cX0_trySheets 62 = .ok (.iaload, 1) := by decide +kernel
theorem dX0_trySheets_63 : decode cX0_trySheets 63 = .ok (.iadd, 1) := by decide +kernel
theorem dX0_trySheets_64 : decode cX0_trySheets 64 = .ok (.istore 4, 2) := by decide +kernel
theorem dX0_trySheets_66 : decode cX0_trySheets 66 = .ok (.iconst 1, 1) := by decide +kernel
theorem dX0_trySheets_67 : decode cX0_trySheets 67 = .ok (.aload_n 0, 1) := by decide +kernel
theorem dX0_trySheets_68 : decode cX0_trySheets 68 = .ok (.getfield 34, 3) := by decide +kernel
theorem dX0_trySheets_71 : decode cX0_trySheets 71 = .ok (.iload_n 3, 1) := by decide +kernel
theorem dX0_trySheets_72 : decode cX0_trySheets 72 = .ok (.iaload, 1) := by decide +kernel
theorem dX0_trySheets_73 : decode cX0_trySheets 73 = .ok (.iadd, 1) := by decide +kernel
theorem dX0_trySheets_74 : decode cX0_trySheets 74 = .ok (.istore 5, 2) := by decide +kernel
theorem dX0_trySheets_76 : decode cX0_trySheets 76 = .ok (.iconst 0, 1) := by decide +kernel
theorem dX0_trySheets_77 : decode cX0_trySheets 77 = .ok (.istore 6, 2) := by decide +kernel
theorem dX0_trySheets_79 : decode cX0_trySheets 79 = .ok (.iload 6, 2) := by decide +kernel
theorem dX0_trySheets_81 : decode cX0_trySheets 81 = .ok (.aload_n 0, 1) := by decide +kernel
theorem dX0_trySheets_82 : decode cX0_trySheets 82 = .ok (.getfield 46, 3) := by decide +kernel
theorem dX0_trySheets_85 : decode cX0_trySheets 85 = .ok (.if_icmp .gt 72, 3) := by decide +kernel
theorem dX0_trySheets_88 : decode cX0_trySheets 88 = .ok (.aload_n 0, 1) := by decide +kernel
theorem dX0_trySheets_89 : decode cX0_trySheets 89 = .ok (.iload_n 1, 1) := by decide +kernel
theorem dX0_trySheets_90 : decode cX0_trySheets 90 = .ok (.iload 4, 2) := by decide +kernel
theorem dX0_trySheets_92 : decode cX0_trySheets 92 = .ok (.iload 5, 2) := by decide +kernel
theorem dX0_trySheets_94 : decode cX0_trySheets 94 = .ok (.invokevirtual 109, 3) := by decide +kernel
theorem dX0_trySheets_97 : decode cX0_trySheets 97 = .ok (.ifCond .eq 60, 3) := by decide +kernel
theorem dX0_trySheets_100 : decode cX0_trySheets 100 = .ok (.aload_n 0, 1) := by decide +kernel
theorem dX0_trySheets_101 : decode cX0_trySheets 101 = .ok (.iload_n 2, 1) := by decide +kernel
theorem dX0_trySheets_102 : decode cX0_trySheets 102 = .ok (.iload 6, 2) := by decide +kernel
theorem dX0_trySheets_104 : decode cX0_trySheets 104 = .ok (.invokevirtual 73, 3) := by decide +kernel
theorem dX0_trySheets_107 : decode cX0_trySheets 107 = .ok (.ifCond .eq 35, 3) := by decide +kernel
theorem dX0_trySheets_110 : decode cX0_trySheets 110 = .ok (.aload_n 0, 1) := by decide +kernel
theorem dX0_trySheets_111 : decode cX0_trySheets 111 = .ok (.getfield 30, 3) := by decide +kernel
theorem dX0_trySheets_114 : decode cX0_trySheets 114 = .ok (.iload_n 1, 1) := by decide +kernel
theorem dX0_trySheets_115 : decode cX0_trySheets 115 = .ok (.iload 4, 2) := by decide +kernel
theorem dX0_trySheets_117 : decode cX0_trySheets 117 = .ok (.iastore, 1) := by decide +kernel
theorem dX0_trySheets_118 : decode cX0_trySheets 118 = .ok (.aload_n 0, 1) := by decide +kernel
theorem dX0_trySheets_119 : decode cX0_trySheets 119 = .ok (.getfield 34, 3) := by decide +kernel
theorem dX0_trySheets_122 : decode cX0_trySheets 122 = .ok (.iload_n 1, 1) := by decide +kernel
theorem dX0_trySheets_123 : decode cX0_trySheets 123 = .ok (.iload 5, 2) := by decide +kernel
theorem dX0_trySheets_125 : decode cX0_trySheets 125 = .ok (.iastore, 1) := by decide +kernel
theorem dX0_trySheets_126 : decode cX0_trySheets 126 = .ok (.aload_n 0, 1) := by decide +kernel
theorem dX0_trySheets_127 : decode cX0_trySheets 127 = .ok (.getfield 37, 3) := by decide +kernel
theorem dX0_trySheets_130 : decode cX0_trySheets 130 = .ok (.iload_n 1, 1) := by decide +kernel
theorem dX0_trySheets_131 : decode cX0_trySheets 131 = .ok (.iload_n 2, 1) := by decide +kernel
theorem dX0_trySheets_132 : decode cX0_trySheets 132 = .ok (.iastore, 1) := by decide +kernel
theorem dX0_trySheets_133 : decode cX0_trySheets 133 = .ok (.aload_n 0, 1) := by decide +kernel
theorem dX0_trySheets_134 : decode cX0_trySheets 134 = .ok (.getfield 40, 3) := by decide +kernel
theorem dX0_trySheets_137 : decode cX0_trySheets 137 = .ok (.iload_n 1, 1) := by decide +kernel
theorem dX0_trySheets_138 : decode cX0_trySheets 138 = .ok (.iload 6, 2) := by decide +kernel
theorem dX0_trySheets_140 : decode cX0_trySheets 140 = .ok (.iastore, 1) := by decide +kernel
theorem dX0_trySheets_141 : decode cX0_trySheets 141 = .ok (.return_, 1) := by decide +kernel
theorem dX0_trySheets_142 : decode cX0_trySheets 142 = .ok (.iload 4, 2) := by decide +kernel
theorem dX0_trySheets_144 : decode cX0_trySheets 144 = .ok (.aload_n 0, 1) := by decide +kernel
theorem dX0_trySheets_145 : decode cX0_trySheets 145 = .ok (.getfield 50, 3) := by decide +kernel
theorem dX0_trySheets_148 : decode cX0_trySheets 148 = .ok (.isub, 1) := by decide +kernel
theorem dX0_trySheets_149 : decode cX0_trySheets 149 = .ok (.istore 4, 2) := by decide +kernel
theorem dX0_trySheets_151 : decode cX0_trySheets 151 = .ok (.iinc 6 1, 3) := by decide +kernel
theorem dX0_trySheets_154 : decode cX0_trySheets 154 = .ok (.goto (-75), 3) := by decide +kernel
theorem dX0_trySheets_157 : decode cX0_trySheets 157 = .ok (.return_, 1) := by decide +kernel
theorem dX0_isBetter_0 : decode cX0_isBetter 0 = .ok (.iload_n 1, 1) := by decide +kernel
theorem dX0_isBetter_1 : decode cX0_isBetter 1 = .ok (.ifCond .lt 12, 3) := by decide +kernel
theorem dX0_isBetter_4 : decode cX0_isBetter 4 = .ok (.iload_n 1, 1) := by decide +kernel
theorem dX0_isBetter_5 : decode cX0_isBetter 5 = .ok (.aload_n 0, 1) := by decide +kernel
theorem dX0_isBetter_6 : decode cX0_isBetter 6 = .ok (.getfield 30, 3) := by decide +kernel
theorem dX0_isBetter_9 : decode cX0_isBetter 9 = .ok (.arraylength, 1) := by decide +kernel
theorem dX0_isBetter_10 : decode cX0_isBetter 10 = .ok (.if_icmp .lt 5, 3) := by decide +kernel
theorem dX0_isBetter_13 : decode cX0_isBetter 13 = .ok (.iconst 0, 1) := by decide +kernel
theorem dX0_isBetter_14 : decode cX0_isBetter 14 = .ok (.ireturn, 1) := by decide +kernel
theorem dX0_isBetter_15 : decode cX0_isBetter 15 = .ok (.iload_n 2, 1) := by decide +kernel
theorem dX0_isBetter_16 : decode cX0_isBetter 16 = .ok (.aload_n 0, 1) := by decide +kernel
theorem dX0_isBetter_17 : decode cX0_isBetter 17 = .ok (.getfield 30, 3) := by decide +kernel
theorem dX0_isBetter_20 : decode cX0_isBetter 20 = .ok (.iload_n 1, 1) := by decide +kernel
theorem dX0_isBetter_21 : decode cX0_isBetter 21 = .ok (.iaload, 1) := by decide +kernel
theorem dX0_isBetter_22 : decode cX0_isBetter 22 = .ok (.if_icmp .eq 19, 3) := by decide +kernel
theorem dX0_isBetter_25 : decode cX0_isBetter 25 = .ok (.iload_n 2, 1) := by decide +kernel
theorem dX0_isBetter_26 : decode cX0_isBetter 26 = .ok (.aload_n 0, 1) := by decide +kernel
theorem dX0_isBetter_27 : decode cX0_isBetter 27 = .ok (.getfield 30, 3) := by decide +kernel
theorem dX0_isBetter_30 : decode cX0_isBetter 30 = .ok (.iload_n 1, 1) := by decide +kernel
theorem dX0_isBetter_31 : decode cX0_isBetter 31 = .ok (.iaload, 1) := by decide +kernel
theorem dX0_isBetter_32 : decode cX0_isBetter 32 = .ok (.if_icmp .le 7, 3) := by decide +kernel
theorem dX0_isBetter_35 : decode cX0_isBetter 35 = .ok (.iconst 1, 1) := by decide +kernel
theorem dX0_isBetter_36 : decode cX0_isBetter 36 = .ok (.goto 4, 3) := by decide +kernel
theorem dX0_isBetter_39 : decode cX0_isBetter 39 = .ok (.iconst 0, 1) := by decide +kernel
theorem dX0_isBetter_40 : decode cX0_isBetter 40 = .ok (.ireturn, 1) := by decide +kernel
theorem dX0_isBetter_41 : decode cX0_isBetter 41 = .ok (.iload_n 3, 1) := by decide +kernel
theorem dX0_isBetter_42 : decode cX0_isBetter 42 = .ok (.aload_n 0, 1) := by decide +kernel
theorem dX0_isBetter_43 : decode cX0_isBetter 43 = .ok (.getfield 34, 3) := by decide +kernel
theorem dX0_isBetter_46 : decode cX0_isBetter 46 = .ok (.iload_n 1, 1) := by decide +kernel
theorem dX0_isBetter_47 : decode cX0_isBetter 47 = .ok (.iaload, 1) := by decide +kernel
theorem dX0_isBetter_48 : decode cX0_isBetter 48 = .ok (.if_icmp .eq 19, 3) := by decide +kernel
theorem dX0_isBetter_51 : decode cX0_isBetter 51 = .ok (.iload_n 3, 1) := by decide +kernel
theorem dX0_isBetter_52 : decode cX0_isBetter 52 = .ok (.aload_n 0, 1) := by decide +kernel
theorem dX0_isBetter_53 : decode cX0_isBetter 53 = .ok (.getfield 34, 3) := by decide +kernel
theorem dX0_isBetter_56 : decode cX0_isBetter 56 = .ok (.iload_n 1, 1) := by decide +kernel
theorem dX0_isBetter_57 : decode cX0_isBetter 57 = .ok (.iaload, 1) := by decide +kernel
theorem dX0_isBetter_58 : decode cX0_isBetter 58 = .ok (.if_icmp .ge 7, 3) := by decide +kernel
theorem dX0_isBetter_61 : decode cX0_isBetter 61 = .ok (.iconst 1, 1) := by decide +kernel
theorem dX0_isBetter_62 : decode cX0_isBetter 62 = .ok (.goto 4, 3) := by decide +kernel
theorem dX0_isBetter_65 : decode cX0_isBetter 65 = .ok (.iconst 0, 1) := by decide +kernel
theorem dX0_isBetter_66 : decode cX0_isBetter 66 = .ok (.ireturn, 1) := by decide +kernel
theorem dX0_isBetter_67 : decode cX0_isBetter 67 = .ok (.aload_n 0, 1) := by decide +kernel
theorem dX0_isBetter_68 : decode cX0_isBetter 68 = .ok (.getfield 37, 3) := by decide +kernel
theorem dX0_isBetter_71 : decode cX0_isBetter 71 = .ok (.iload_n 1, 1) := by decide +kernel
theorem dX0_isBetter_72 : decode cX0_isBetter 72 = .ok (.iaload, 1) := by decide +kernel
theorem dX0_isBetter_73 : decode cX0_isBetter 73 = .ok (.iconst (-1), 1) := by decide +kernel
theorem dX0_isBetter_74 : decode cX0_isBetter 74 = .ok (.if_icmp .ne 7, 3) := by decide +kernel
theorem dX0_isBetter_77 : decode cX0_isBetter 77 = .ok (.iconst 1, 1) := by decide +kernel
theorem dX0_isBetter_78 : decode cX0_isBetter 78 = .ok (.goto 4, 3) := by decide +kernel
theorem dX0_isBetter_81 : decode cX0_isBetter 81 = .ok (.iconst 0, 1) := by decide +kernel
theorem dX0_isBetter_82 : decode cX0_isBetter 82 = .ok (.ireturn, 1) := by decide +kernel
theorem dX0_listSheets_0 : decode cX0_listSheets 0 = .ok (.aload_n 0, 1) := by decide +kernel
theorem dX0_listSheets_1 : decode cX0_listSheets 1 = .ok (.iconst 0, 1) := by decide +kernel
theorem dX0_listSheets_2 : decode cX0_listSheets 2 = .ok (.putfield 53, 3) := by decide +kernel
theorem dX0_listSheets_5 : decode cX0_listSheets 5 = .ok (.iconst 0, 1) := by decide +kernel
theorem dX0_listSheets_6 : decode cX0_listSheets 6 = .ok (.istore_n 2, 1) := by decide +kernel
theorem dX0_listSheets_7 : decode cX0_listSheets 7 = .ok (.iconst 0, 1) := by decide +kernel
theorem dX0_listSheets_8 : decode cX0_listSheets 8 = .ok (.istore_n 3, 1) := by decide +kernel
theorem dX0_listSheets_9 : decode cX0_listSheets 9 = .ok (.iload_n 3, 1) := by decide +kernel
theorem dX0_listSheets_10 : decode cX0_listSheets 10 = .ok (.iload_n 1, 1) := by decide +kernel
theorem dX0_listSheets_11 : decode cX0_listSheets 11 = .ok (.if_icmp .ge 75, 3) := by decide +kernel
theorem dX0_listSheets_14 : decode cX0_listSheets 14 = .ok (.iload_n 3, 1) := by decide +kernel
theorem dX0_listSheets_15 : decode cX0_listSheets 15 = .ok (.iload_n 2, 1) := by decide +kernel
theorem dX0_listSheets_16 : decode cX0_listSheets 16 = .ok (.if_icmp .lt 64, 3) := by decide +kernel
theorem dX0_listSheets_19 : decode cX0_listSheets 19 = .ok (.aload_n 0, 1) := by decide +kernel
theorem dX0_listSheets_20 : decode cX0_listSheets 20 = .ok (.getfield 37, 3) := by decide +kernel
theorem dX0_listSheets_23 : decode cX0_listSheets 23 = .ok (.iload_n 3, 1) := by decide +kernel
theorem dX0_listSheets_24 : decode cX0_listSheets 24 = .ok (.iaload, 1) := by decide +kernel
theorem dX0_listSheets_25 : decode cX0_listSheets 25 = .ok (.iconst (-1), 1) := by decide +kernel
theorem dX0_listSheets_26 : decode cX0_listSheets 26 = .ok (.if_icmp .eq 54, 3) := by decide +kernel
theorem dX0_listSheets_29 : decode cX0_listSheets 29 = .ok (.aload_n 0, 1) := by decide +kernel
theorem dX0_listSheets_30 : decode cX0_listSheets 30 = .ok (.getfield 53, 3) := by decide +kernel
theorem dX0_listSheets_33 : decode cX0_listSheets 33 = .ok (.aload_n 0, 1) := by decide +kernel
theorem dX0_listSheets_34 : decode cX0_listSheets 34 = .ok (.getfield 43, 3) := by decide +kernel
theorem dX0_listSheets_37 : decode cX0_listSheets 37 = .ok (.arraylength, 1) := by decide +kernel
theorem dX0_listSheets_38 : decode cX0_listSheets 38 = .ok (.if_icmp .lt 6, 3) := by decide +kernel
theorem dX0_listSheets_41 : decode cX0_listSheets 41 = .ok (.goto 39, 3) := by decide +kernel
theorem dX0_listSheets_44 : decode cX0_listSheets 44 = .ok (.aload_n 0, 1) := by decide +kernel
theorem dX0_listSheets_45 : decode cX0_listSheets 45 = .ok (.getfield 43, 3) := by decide +kernel
theorem dX0_listSheets_48 : decode cX0_listSheets 48 = .ok (.aload_n 0, 1) := by decide +kernel
theorem dX0_listSheets_49 : decode cX0_listSheets 49 = .ok (.getfield 53, 3) := by decide +kernel
theorem dX0_listSheets_52 : decode cX0_listSheets 52 = .ok (.iload_n 3, 1) := by decide +kernel
theorem dX0_listSheets_53 : decode cX0_listSheets 53 = .ok (.iastore, 1) := by decide +kernel
theorem dX0_listSheets_54 : decode cX0_listSheets 54 = .ok (.aload_n 0, 1) := by decide +kernel
theorem dX0_listSheets_55 : decode cX0_listSheets 55 = .ok (.dup, 1) := by decide +kernel
theorem dX0_listSheets_56 : decode cX0_listSheets 56 = .ok (.getfield 53, 3) := by decide +kernel
theorem dX0_listSheets_59 : decode cX0_listSheets 59 = .ok (.iconst 1, 1) := by decide +kernel
theorem dX0_listSheets_60 : decode cX0_listSheets 60 = .ok (.iadd, 1) := by decide +kernel
theorem dX0_listSheets_61 : decode cX0_listSheets 61 = .ok (.putfield 53, 3) := by decide +kernel
theorem dX0_listSheets_64 : decode cX0_listSheets 64 = .ok (.iload_n 3, 1) := by decide +kernel
theorem dX0_listSheets_65 : decode cX0_listSheets 65 = .ok (.aload_n 0, 1) := by decide +kernel
theorem dX0_listSheets_66 : decode cX0_listSheets 66 = .ok (.getfield 9, 3) := by decide +kernel
theorem dX0_listSheets_69 : decode cX0_listSheets 69 = .ok (.aload_n 0, 1) := by decide +kernel
theorem dX0_listSheets_70 : decode cX0_listSheets 70 = .ok (.getfield 37, 3) := by decide +kernel
theorem dX0_listSheets_73 : decode cX0_listSheets 73 = .ok (.iload_n 3, 1) := by decide +kernel
theorem dX0_listSheets_74 : decode cX0_listSheets 74 = .ok (.iaload, 1) := by decide +kernel
theorem dX0_listSheets_75 : decode cX0_listSheets 75 = .ok (.invokevirtual 64, 3) := by decide +kernel
theorem dX0_listSheets_78 : decode cX0_listSheets 78 = .ok (.iadd, 1) := by decide +kernel
theorem dX0_listSheets_79 : decode cX0_listSheets 79 = .ok (.istore_n 2, 1) := by decide +kernel
theorem dX0_listSheets_80 : decode cX0_listSheets 80 = .ok (.iinc 3 1, 3) := by decide +kernel
theorem dX0_listSheets_83 : decode cX0_listSheets 83 = .ok (.goto (-74), 3) := by decide +kernel
theorem dX0_listSheets_86 : decode cX0_listSheets 86 = .ok (.return_, 1) := by decide +kernel
theorem dX0_totalWorth_0 : decode cX0_totalWorth 0 = .ok (.aload_n 0, 1) := by decide +kernel
theorem dX0_totalWorth_1 : decode cX0_totalWorth 1 = .ok (.getfield 30, 3) := by decide +kernel
theorem dX0_totalWorth_4 : decode cX0_totalWorth 4 = .ok (.iconst 0, 1) := by decide +kernel
theorem dX0_totalWorth_5 : decode cX0_totalWorth 5 = .ok (.iaload, 1) := by decide +kernel
theorem dX0_totalWorth_6 : decode cX0_totalWorth 6 = .ok (.ireturn, 1) := by decide +kernel
theorem dX0_tell_0 : decode cX0_tell 0 = .ok (.iload_n 1, 1) := by decide +kernel
theorem dX0_tell_1 : decode cX0_tell 1 = .ok (.ifCond .lt 20, 3) := by decide +kernel
theorem dX0_tell_4 : decode cX0_tell 4 = .ok (.iload_n 1, 1) := by decide +kernel
theorem dX0_tell_5 : decode cX0_tell 5 = .ok (.aload_n 0, 1) := by decide +kernel
theorem dX0_tell_6 : decode cX0_tell 6 = .ok (.getfield 53, 3) := by decide +kernel
theorem dX0_tell_9 : decode cX0_tell 9 = .ok (.if_icmp .ge 12, 3) := by decide +kernel
theorem dX0_tell_12 : decode cX0_tell 12 = .ok (.iload_n 1, 1) := by decide +kernel
theorem dX0_tell_13 : decode cX0_tell 13 = .ok (.aload_n 0, 1) := by decide +kernel
theorem dX0_tell_14 : decode cX0_tell 14 = .ok (.getfield 43, 3) := by decide +kernel
theorem dX0_tell_17 : decode cX0_tell 17 = .ok (.arraylength, 1) := by decide +kernel
theorem dX0_tell_18 : decode cX0_tell 18 = .ok (.if_icmp .lt 5, 3) := by decide +kernel
theorem dX0_tell_21 : decode cX0_tell 21 = .ok (.iconst (-1), 1) := by decide +kernel
theorem dX0_tell_22 : decode cX0_tell 22 = .ok (.ireturn, 1) := by decide +kernel
theorem dX0_tell_23 : decode cX0_tell 23 = .ok (.aload_n 0, 1) := by decide +kernel
theorem dX0_tell_24 : decode cX0_tell 24 = .ok (.getfield 43, 3) := by decide +kernel
theorem dX0_tell_27 : decode cX0_tell 27 = .ok (.iload_n 1, 1) := by decide +kernel
theorem dX0_tell_28 : decode cX0_tell 28 = .ok (.iaload, 1) := by decide +kernel
theorem dX0_tell_29 : decode cX0_tell 29 = .ok (.istore_n 3, 1) := by decide +kernel
theorem dX0_tell_30 : decode cX0_tell 30 = .ok (.iload_n 3, 1) := by decide +kernel
theorem dX0_tell_31 : decode cX0_tell 31 = .ok (.ifCond .lt 12, 3) := by decide +kernel
theorem dX0_tell_34 : decode cX0_tell 34 = .ok (.iload_n 3, 1) := by decide +kernel
theorem dX0_tell_35 : decode cX0_tell 35 = .ok (.aload_n 0, 1) := by decide +kernel
theorem dX0_tell_36 : decode cX0_tell 36 = .ok (.getfield 37, 3) := by decide +kernel
theorem dX0_tell_39 : decode cX0_tell 39 = .ok (.arraylength, 1) := by decide +kernel
theorem dX0_tell_40 : decode cX0_tell 40 = .ok (.if_icmp .lt 5, 3) := by decide +kernel
theorem dX0_tell_43 : decode cX0_tell 43 = .ok (.iconst (-1), 1) := by decide +kernel
theorem dX0_tell_44 : decode cX0_tell 44 = .ok (.ireturn, 1) := by decide +kernel
theorem dX0_tell_45 : decode cX0_tell 45 = .ok (.iload_n 2, 1) := by decide +kernel
theorem dX0_tell_46 : decode cX0_tell 46 = .ok (.tableswitch 42 0 2 #[26, 28, 35], 26) := by decide +kernel
theorem dX0_tell_72 : decode cX0_tell 72 = .ok (.iload_n 3, 1) := by decide +kernel
theorem dX0_tell_73 : decode cX0_tell 73 = .ok (.ireturn, 1) := by decide +kernel
theorem dX0_tell_74 : decode cX0_tell 74 = .ok (.aload_n 0, 1) := by decide +kernel
theorem dX0_tell_75 : decode cX0_tell 75 = .ok (.getfield 37, 3) := by decide +kernel
theorem dX0_tell_78 : decode cX0_tell 78 = .ok (.iload_n 3, 1) := by decide +kernel
theorem dX0_tell_79 : decode cX0_tell 79 = .ok (.iaload, 1) := by decide +kernel
theorem dX0_tell_80 : decode cX0_tell 80 = .ok (.ireturn, 1) := by decide +kernel
theorem dX0_tell_81 : decode cX0_tell 81 = .ok (.aload_n 0, 1) := by decide +kernel
theorem dX0_tell_82 : decode cX0_tell 82 = .ok (.getfield 40, 3) := by decide +kernel
theorem dX0_tell_85 : decode cX0_tell 85 = .ok (.iload_n 3, 1) := by decide +kernel
theorem dX0_tell_86 : decode cX0_tell 86 = .ok (.iaload, 1) := by decide +kernel
theorem dX0_tell_87 : decode cX0_tell 87 = .ok (.ireturn, 1) := by decide +kernel
theorem dX0_tell_88 : decode cX0_tell 88 = .ok (.iconst (-1), 1) := by decide +kernel
theorem dX0_tell_89 : decode cX0_tell 89 = .ok (.ireturn, 1) := by decide +kernel
theorem dX1_init_0 : decode cX1_init 0 = .ok (.aload_n 0, 1) := by decide +kernel
theorem dX1_init_1 : decode cX1_init 1 = .ok (.invokespecial 3, 3) := by decide +kernel
theorem dX1_init_4 : decode cX1_init 4 = .ok (.aload_n 0, 1) := by decide +kernel
theorem dX1_init_5 : decode cX1_init 5 = .ok (.new 9, 3) := by decide +kernel
theorem dX1_init_8 : decode cX1_init 8 = .ok (.dup, 1) := by decide +kernel
theorem dX1_init_9 : decode cX1_init 9 = .ok (.invokespecial 11, 3) := by decide +kernel
theorem dX1_init_12 : decode cX1_init 12 = .ok (.putfield 12, 3) := by decide +kernel
theorem dX1_init_15 : decode cX1_init 15 = .ok (.aload_n 0, 1) := by decide +kernel
theorem dX1_init_16 : decode cX1_init 16 = .ok (.new 18, 3) := by decide +kernel
theorem dX1_init_19 : decode cX1_init 19 = .ok (.dup, 1) := by decide +kernel
theorem dX1_init_20 : decode cX1_init 20 = .ok (.invokespecial 20, 3) := by decide +kernel
theorem dX1_init_23 : decode cX1_init 23 = .ok (.putfield 21, 3) := by decide +kernel
theorem dX1_init_26 : decode cX1_init 26 = .ok (.aload_n 0, 1) := by decide +kernel
theorem dX1_init_27 : decode cX1_init 27 = .ok (.iconst 0, 1) := by decide +kernel
theorem dX1_init_28 : decode cX1_init 28 = .ok (.putfield 25, 3) := by decide +kernel
theorem dX1_init_31 : decode cX1_init 31 = .ok (.return_, 1) := by decide +kernel
theorem dX1_readLines_0 : decode cX1_readLines 0 = .ok (.aload_n 0, 1) := by decide +kernel
theorem dX1_readLines_1 : decode cX1_readLines 1 = .ok (.getfield 12, 3) := by decide +kernel
theorem dX1_readLines_4 : decode cX1_readLines 4 = .ok (.aload_n 1, 1) := by decide +kernel
theorem dX1_readLines_5 : decode cX1_readLines 5 = .ok (.invokevirtual 29, 3) := by decide +kernel
theorem dX1_readLines_8 : decode cX1_readLines 8 = .ok (.aload_n 0, 1) := by decide +kernel
theorem dX1_readLines_9 : decode cX1_readLines 9 = .ok (.getfield 21, 3) := by decide +kernel
theorem dX1_readLines_12 : decode cX1_readLines 12 = .ok (.invokevirtual 33, 3) := by decide +kernel
theorem dX1_readLines_15 : decode cX1_readLines 15 = .ok (.aload_n 0, 1) := by decide +kernel
theorem dX1_readLines_16 : decode cX1_readLines 16 = .ok (.iconst 0, 1) := by decide +kernel
theorem dX1_readLines_17 : decode cX1_readLines 17 = .ok (.putfield 25, 3) := by decide +kernel
theorem dX1_readLines_20 : decode cX1_readLines 20 = .ok (.aload_n 0, 1) := by decide +kernel
theorem dX1_readLines_21 : decode cX1_readLines 21 = .ok (.iconst 0, 1) := by decide +kernel
theorem dX1_readLines_22 : decode cX1_readLines 22 = .ok (.putfield 36, 3) := by decide +kernel
theorem dX1_readLines_25 : decode cX1_readLines 25 = .ok (.aload_n 0, 1) := by decide +kernel
theorem dX1_readLines_26 : decode cX1_readLines 26 = .ok (.iconst (-1), 1) := by decide +kernel
theorem dX1_readLines_27 : decode cX1_readLines 27 = .ok (.putfield 39, 3) := by decide +kernel
theorem dX1_readLines_30 : decode cX1_readLines 30 = .ok (.aload_n 0, 1) := by decide +kernel
theorem dX1_readLines_31 : decode cX1_readLines 31 = .ok (.invokevirtual 42, 3) := by decide +kernel
theorem dX1_readLines_34 : decode cX1_readLines 34 = .ok (.iconst 0, 1) := by decide +kernel
theorem dX1_readLines_35 : decode cX1_readLines 35 = .ok (.istore_n 2, 1) := by decide +kernel
theorem dX1_readLines_36 : decode cX1_readLines 36 = .ok (.iload_n 2, 1) := by decide +kernel
theorem dX1_readLines_37 : decode cX1_readLines 37 = .ok (.bipush 8, 2) := by decide +kernel
theorem dX1_readLines_39 : decode cX1_readLines 39 = .ok (.if_icmp .ge 27, 3) := by decide +kernel
theorem dX1_readLines_42 : decode cX1_readLines 42 = .ok (.aload_n 0, 1) := by decide +kernel
theorem dX1_readLines_43 : decode cX1_readLines 43 = .ok (.getfield 45, 3) := by decide +kernel
theorem dX1_readLines_46 : decode cX1_readLines 46 = .ok (.bipush (-22), 2) := by decide +kernel
theorem dX1_readLines_48 : decode cX1_readLines 48 = .ok (.if_icmp .eq 18, 3) := by decide +kernel
theorem dX1_readLines_51 : decode cX1_readLines 51 = .ok (.aload_n 0, 1) := by decide +kernel
theorem dX1_readLines_52 : decode cX1_readLines 52 = .ok (.invokevirtual 48, 3) := by decide +kernel
theorem dX1_readLines_55 : decode cX1_readLines 55 = .ok (.ifCond .ne 5, 3) := by decide +kernel
theorem dX1_readLines_58 : decode cX1_readLines 58 = .ok (.iconst 0, 1) := by decide +kernel
theorem dX1_readLines_59 : decode cX1_readLines 59 = .ok (.ireturn, 1) := by decide +kernel
theorem dX1_readLines_60 : decode cX1_readLines 60 = .ok (.iinc 2 1, 3) := by decide +kernel
theorem dX1_readLines_63 : decode cX1_readLines 63 = .ok (.goto (-27), 3) := by decide +kernel
theorem dX1_readLines_66 : decode cX1_readLines 66 = .ok (.aload_n 0, 1) := by decide +kernel
theorem dX1_readLines_67 : decode cX1_readLines 67 = .ok (.getfield 45, 3) := by decide +kernel
theorem dX1_readLines_70 : decode cX1_readLines 70 = .ok (.bipush (-22), 2) := by decide +kernel
theorem dX1_readLines_72 : decode cX1_readLines 72 = .ok (.if_icmp .eq 10, 3) := by decide +kernel
theorem dX1_readLines_75 : decode cX1_readLines 75 = .ok (.aload_n 0, 1) := by decide +kernel
theorem dX1_readLines_76 : decode cX1_readLines 76 = .ok (.invokevirtual 52, 3) := by decide +kernel
theorem dX1_readLines_79 : decode cX1_readLines 79 = .ok (.ifCond .eq 7, 3) := by decide +kernel
theorem dX1_readLines_82 : decode cX1_readLines 82 = .ok (.iconst 1, 1) := by decide +kernel
theorem dX1_readLines_83 : decode cX1_readLines 83 = .ok (.goto 4, 3) := by decide +kernel
theorem dX1_readLines_86 : decode cX1_readLines 86 = .ok (.iconst 0, 1) := by decide +kernel
theorem dX1_readLines_87 : decode cX1_readLines 87 = .ok (.ireturn, 1) := by decide +kernel
theorem dX1_readLine_0 : decode cX1_readLine 0 = .ok (.aload_n 0, 1) := by decide +kernel
theorem dX1_readLine_1 : decode cX1_readLine 1 = .ok (.bipush (-17), 2) := by decide +kernel
theorem dX1_readLine_3 : decode cX1_readLine 3 = .ok (.invokevirtual 55, 3) := by decide +kernel
theorem dX1_readLine_6 : decode cX1_readLine 6 = .ok (.ifCond .ne 5, 3) := by decide +kernel
theorem dX1_readLine_9 : decode cX1_readLine 9 = .ok (.iconst 0, 1) := by decide +kernel
theorem dX1_readLine_10 : decode cX1_readLine 10 = .ok (.ireturn, 1) := by decide +kernel
theorem dX1_readLine_11 : decode cX1_readLine 11 = .ok (.aload_n 0, 1) := by decide +kernel
theorem dX1_readLine_12 : decode cX1_readLine 12 = .ok (.getfield 45, 3) := by decide +kernel
theorem dX1_readLine_15 : decode cX1_readLine 15 = .ok (.istore_n 1, 1) := by decide +kernel
theorem dX1_readLine_16 : decode cX1_readLine 16 = .ok (.aload_n 0, 1) := by decide +kernel
theorem dX1_readLine_17 : decode cX1_readLine 17 = .ok (.iconst 1, 1) := by decide +kernel
theorem dX1_readLine_18 : decode cX1_readLine 18 = .ok (.bipush 100, 2) := by decide +kernel
theorem dX1_readLine_20 : decode cX1_readLine 20 = .ok (.invokevirtual 59, 3) := by decide +kernel
theorem dX1_readLine_23 : decode cX1_readLine 23 = .ok (.ifCond .eq 12, 3) := by decide +kernel
theorem dX1_readLine_26 : decode cX1_readLine 26 = .ok (.aload_n 0, 1) := by decide +kernel
theorem dX1_readLine_27 : decode cX1_readLine 27 = .ok (.bipush (-18), 2) := by decide +kernel
theorem dX1_readLine_29 : decode cX1_readLine 29 = .ok (.invokevirtual 55, 3) := by decide +kernel
theorem dX1_readLine_32 : decode cX1_readLine 32 = .ok (.ifCond .ne 5, 3) := by decide +kernel
theorem dX1_readLine_35 : decode cX1_readLine 35 = .ok (.iconst 0, 1) := by decide +kernel
theorem dX1_readLine_36 : decode cX1_readLine 36 = .ok (.ireturn, 1) := by decide +kernel
theorem dX1_readLine_37 : decode cX1_readLine 37 = .ok (.aload_n 0, 1) := by decide +kernel
theorem dX1_readLine_38 : decode cX1_readLine 38 = .ok (.getfield 45, 3) := by decide +kernel
theorem dX1_readLine_41 : decode cX1_readLine 41 = .ok (.istore_n 2, 1) := by decide +kernel
theorem dX1_readLine_42 : decode cX1_readLine 42 = .ok (.aload_n 0, 1) := by decide +kernel
theorem dX1_readLine_43 : decode cX1_readLine 43 = .ok (.iconst 1, 1) := by decide +kernel
theorem dX1_readLine_44 : decode cX1_readLine 44 = .ok (.sipush 9999, 3) := by decide +kernel
theorem dX1_readLine_47 : decode cX1_readLine 47 = .ok (.invokevirtual 59, 3) := by decide +kernel
theorem dX1_readLine_50 : decode cX1_readLine 50 = .ok (.ifCond .ne 5, 3) := by decide +kernel
theorem dX1_readLine_53 : decode cX1_readLine 53 = .ok (.iconst 0, 1) := by decide +kernel
theorem dX1_readLine_54 : decode cX1_readLine 54 = .ok (.ireturn, 1) := by decide +kernel
theorem dX1_readLine_55 : decode cX1_readLine 55 = .ok (.aload_n 0, 1) := by decide +kernel
theorem dX1_readLine_56 : decode cX1_readLine 56 = .ok (.getfield 45, 3) := by decide +kernel
theorem dX1_readLine_59 : decode cX1_readLine 59 = .ok (.bipush (-19), 2) := by decide +kernel
theorem dX1_readLine_61 : decode cX1_readLine 61 = .ok (.if_icmp .ne 17, 3) := by decide +kernel
theorem dX1_readLine_64 : decode cX1_readLine 64 = .ok (.aload_n 0, 1) := by decide +kernel
theorem dX1_readLine_65 : decode cX1_readLine 65 = .ok (.invokevirtual 42, 3) := by decide +kernel
theorem dX1_readLine_68 : decode cX1_readLine 68 = .ok (.aload_n 0, 1) := by decide +kernel
theorem dX1_readLine_69 : decode cX1_readLine 69 = .ok (.iconst 0, 1) := by decide +kernel
theorem dX1_readLine_70 : decode cX1_readLine 70 = .ok (.invokevirtual 63, 3) := by decide +kernel
theorem dX1_readLine_73 : decode cX1_readLine 73 = .ok (.ifCond .ne 5, 3) := by decide +kernel
theorem dX1_readLine_76 : decode cX1_readLine 76 = .ok (.iconst 0, 1) := by decide +kernel
theorem dX1_readLine_77 : decode cX1_readLine 77 = .ok (.ireturn, 1) := by decide +kernel
theorem dX1_readLine_78 : decode cX1_readLine 78 = .ok (.aload_n 0, 1) := by decide +kernel
theorem dX1_readLine_79 : decode cX1_readLine 79 = .ok (.bipush (-16), 2) := by decide +kernel
theorem dX1_readLine_81 : decode cX1_readLine 81 = .ok (.invokevirtual 55, 3) := by decide +kernel
theorem dX1_readLine_84 : decode cX1_readLine 84 = .ok (.ifCond .ne 5, 3) := by decide +kernel
theorem dX1_readLine_87 : decode cX1_readLine 87 = .ok (.iconst 0, 1) := by decide +kernel
theorem dX1_readLine_88 : decode cX1_readLine 88 = .ok (.ireturn, 1) := by decide +kernel
theorem dX1_readLine_89 : decode cX1_readLine 89 = .ok (.aload_n 0, 1) := by decide +kernel
theorem dX1_readLine_90 : decode cX1_readLine 90 = .ok (.getfield 21, 3) := by decide +kernel
theorem dX1_readLine_93 : decode cX1_readLine 93 = .ok (.iload_n 1, 1) := by decide +kernel
theorem dX1_readLine_94 : decode cX1_readLine 94 = .ok (.iload_n 2, 1) := by decide +kernel
theorem dX1_readLine_95 : decode cX1_readLine 95 = .ok (.invokevirtual 66, 3) := by decide +kernel
theorem dX1_readLine_98 : decode cX1_readLine 98 = .ok (.iconst 1, 1) := by decide +kernel
theorem dX1_readLine_99 : decode cX1_readLine 99 = .ok (.ireturn, 1) := by decide +kernel
theorem dX1_readEither_0 : decode cX1_readEither 0 = .ok (.iload_n 1, 1) := by decide +kernel
theorem dX1_readEither_1 : decode cX1_readEither 1 = .ok (.bipush 6, 2) := by decide +kernel
theorem dX1_readEither_3 : decode cX1_readEither 3 = .ok (.if_icmp .lt 8, 3) := by decide +kernel
theorem dX1_readEither_6 : decode cX1_readEither 6 = .ok (.aload_n 0, 1) := by decide +kernel
theorem dX1_readEither_7 : decode cX1_readEither 7 = .ok (.invokevirtual 52, 3) := by decide +kernel
theorem dX1_readEither_10 : decode cX1_readEither 10 = .ok (.ireturn, 1) := by decide +kernel
theorem dX1_readEither_11 : decode cX1_readEither 11 = .ok (.aload_n 0, 1) := by decide +kernel
theorem dX1_readEither_12 : decode cX1_readEither 12 = .ok (.iload_n 1, 1) := by decide +kernel
theorem dX1_readEither_13 : decode cX1_readEither 13 = .ok (.invokevirtual 70, 3) := by decide +kernel
theorem dX1_readEither_16 : decode cX1_readEither 16 = .ok (.ifCond .ne 5, 3) := by decide +kernel
theorem dX1_readEither_19 : decode cX1_readEither 19 = .ok (.iconst 0, 1) := by decide +kernel
theorem dX1_readEither_20 : decode cX1_readEither 20 = .ok (.ireturn, 1) := by decide +kernel
theorem dX1_readEither_21 : decode cX1_readEither 21 = .ok (.iconst 0, 1) := by decide +kernel
theorem dX1_readEither_22 : decode cX1_readEither 22 = .ok (.istore_n 2, 1) := by decide +kernel
theorem dX1_readEither_23 : decode cX1_readEither 23 = .ok (.iload_n 2, 1) := by decide +kernel
theorem dX1_readEither_24 : decode cX1_readEither 24 = .ok (.bipush 60, 2) := by decide +kernel
theorem dX1_readEither_26 : decode cX1_readEither 26 = .ok (.if_icmp .ge 41, 3) := by decide +kernel
theorem dX1_readEither_29 : decode cX1_readEither 29 = .ok (.aload_n 0, 1) := by decide +kernel
theorem dX1_readEither_30 : decode cX1_readEither 30 = .ok (.getfield 45, 3) := by decide +kernel
theorem dX1_readEither_33 : decode cX1_readEither 33 = .ok (.bipush (-8), 2) := by decide +kernel
theorem dX1_readEither_35 : decode cX1_readEither 35 = .ok (.if_icmp .ne 32, 3) := by decide +kernel
theorem dX1_readEither_38 : decode cX1_readEither 38 = .ok (.aload_n 0, 1) := by decide +kernel
theorem dX1_readEither_39 : decode cX1_readEither 39 = .ok (.invokevirtual 42, 3) := by decide +kernel
theorem dX1_readEither_42 : decode cX1_readEither 42 = .ok (.aload_n 0, 1) := by decide +kernel
theorem dX1_readEither_43 : decode cX1_readEither 43 = .ok (.iload_n 1, 1) := by decide +kernel
theorem dX1_readEither_44 : decode cX1_readEither 44 = .ok (.invokevirtual 70, 3) := by decide +kernel
theorem dX1_readEither_47 : decode cX1_readEither 47 = .ok (.ifCond .ne 5, 3) := by decide +kernel
theorem dX1_readEither_50 : decode cX1_readEither 50 = .ok (.iconst 0, 1) := by decide +kernel
theorem dX1_readEither_51 : decode cX1_readEither 51 = .ok (.ireturn, 1) := by decide +kernel
theorem dX1_readEither_52 : decode cX1_readEither 52 = .ok (.aload_n 0, 1) := by decide +kernel
theorem dX1_readEither_53 : decode cX1_readEither 53 = .ok (.getfield 21, 3) := by decide +kernel
theorem dX1_readEither_56 : decode cX1_readEither 56 = .ok (.bipush (-8), 2) := by decide +kernel
theorem dX1_readEither_58 : decode cX1_readEither 58 = .ok (.invokevirtual 73, 3) := by decide +kernel
theorem dX1_readEither_61 : decode cX1_readEither 61 = .ok (.iinc 2 1, 3) := by decide +kernel
theorem dX1_readEither_64 : decode cX1_readEither 64 = .ok (.goto (-41), 3) := by decide +kernel
theorem dX1_readEither_67 : decode cX1_readEither 67 = .ok (.iconst 1, 1) := by decide +kernel
theorem dX1_readEither_68 : decode cX1_readEither 68 = .ok (.ireturn, 1) := by decide +kernel
theorem dX1_readBoth_0 : decode cX1_readBoth 0 = .ok (.aload_n 0, 1) := by decide +kernel
theorem dX1_readBoth_1 : decode cX1_readBoth 1 = .ok (.iload_n 1, 1) := by decide +kernel
theorem dX1_readBoth_2 : decode cX1_readBoth 2 = .ok (.invokevirtual 77, 3) := by decide +kernel
theorem dX1_readBoth_5 : decode cX1_readBoth 5 = .ok (.ifCond .ne 5, 3) := by decide +kernel
theorem dX1_readBoth_8 : decode cX1_readBoth 8 = .ok (.iconst 0, 1) := by decide +kernel
theorem dX1_readBoth_9 : decode cX1_readBoth 9 = .ok (.ireturn, 1) := by decide +kernel
theorem dX1_readBoth_10 : decode cX1_readBoth 10 = .ok (.iconst 0, 1) := by decide +kernel
theorem dX1_readBoth_11 : decode cX1_readBoth 11 = .ok (.istore_n 2, 1) := by decide +kernel
theorem dX1_readBoth_12 : decode cX1_readBoth 12 = .ok (.iload_n 2, 1) := by decide +kernel
theorem dX1_readBoth_13 : decode cX1_readBoth 13 = .ok (.bipush 60, 2) := by decide +kernel
theorem dX1_readBoth_15 : decode cX1_readBoth 15 = .ok (.if_icmp .ge 41, 3) := by decide +kernel
theorem dX1_readBoth_18 : decode cX1_readBoth 18 = .ok (.aload_n 0, 1) := by decide +kernel
theorem dX1_readBoth_19 : decode cX1_readBoth 19 = .ok (.getfield 45, 3) := by decide +kernel
theorem dX1_readBoth_22 : decode cX1_readBoth 22 = .ok (.bipush (-7), 2) := by decide +kernel
theorem dX1_readBoth_24 : decode cX1_readBoth 24 = .ok (.if_icmp .ne 32, 3) := by decide +kernel
theorem dX1_readBoth_27 : decode cX1_readBoth 27 = .ok (.aload_n 0, 1) := by decide +kernel
theorem dX1_readBoth_28 : decode cX1_readBoth 28 = .ok (.invokevirtual 42, 3) := by decide +kernel
theorem dX1_readBoth_31 : decode cX1_readBoth 31 = .ok (.aload_n 0, 1) := by decide +kernel
theorem dX1_readBoth_32 : decode cX1_readBoth 32 = .ok (.iload_n 1, 1) := by decide +kernel
theorem dX1_readBoth_33 : decode cX1_readBoth 33 = .ok (.invokevirtual 77, 3) := by decide +kernel
theorem dX1_readBoth_36 : decode cX1_readBoth 36 = .ok (.ifCond .ne 5, 3) := by decide +kernel
theorem dX1_readBoth_39 : decode cX1_readBoth 39 = .ok (.iconst 0, 1) := by decide +kernel
theorem dX1_readBoth_40 : decode cX1_readBoth 40 = .ok (.ireturn, 1) := by decide +kernel
theorem dX1_readBoth_41 : decode cX1_readBoth 41 = .ok (.aload_n 0, 1) := by decide +kernel
theorem dX1_readBoth_42 : decode cX1_readBoth 42 = .ok (.getfield 21, 3) := by decide +kernel
theorem dX1_readBoth_45 : decode cX1_readBoth 45 = .ok (.bipush (-7), 2) := by decide +kernel
theorem dX1_readBoth_47 : decode cX1_readBoth 47 = .ok (.invokevirtual 73, 3) := by decide +kernel
theorem dX1_readBoth_50 : decode cX1_readBoth 50 = .ok (.iinc 2 1, 3) := by decide +kernel
theorem dX1_readBoth_53 : decode cX1_readBoth 53 = .ok (.goto (-41), 3) := by decide +kernel
theorem dX1_readBoth_56 : decode cX1_readBoth 56 = .ok (.iconst 1, 1) := by decide +kernel
theorem dX1_readBoth_57 : decode cX1_readBoth 57 = .ok (.ireturn, 1) := by decide +kernel
theorem dX1_readOne_0 : decode cX1_readOne 0 = .ok (.iload_n 1, 1) := by decide +kernel
theorem dX1_readOne_1 : decode cX1_readOne 1 = .ok (.bipush 6, 2) := by decide +kernel
theorem dX1_readOne_3 : decode cX1_readOne 3 = .ok (.if_icmp .lt 8, 3) := by decide +kernel
theorem dX1_readOne_6 : decode cX1_readOne 6 = .ok (.aload_n 0, 1) := by decide +kernel
theorem dX1_readOne_7 : decode cX1_readOne 7 = .ok (.invokevirtual 52, 3) := by decide +kernel
theorem dX1_readOne_10 : decode cX1_readOne 10 = .ok (.ireturn, 1) := by decide +kernel
theorem dX1_readOne_11 : decode cX1_readOne 11 = .ok (.aload_n 0, 1) := by decide +kernel
theorem dX1_readOne_12 : decode cX1_readOne 12 = .ok (.getfield 45, 3) := by decide +kernel
theorem dX1_readOne_15 : decode cX1_readOne 15 = .ok (.bipush (-6), 2) := by decide +kernel
theorem dX1_readOne_17 : decode cX1_readOne 17 = .ok (.if_icmp .ne 30, 3) := by decide +kernel
theorem dX1_readOne_20 : decode cX1_readOne 20 = .ok (.aload_n 0, 1) := by decide +kernel
theorem dX1_readOne_21 : decode cX1_readOne 21 = .ok (.invokevirtual 42, 3) := by decide +kernel
theorem dX1_readOne_24 : decode cX1_readOne 24 = .ok (.aload_n 0, 1) := by decide +kernel
theorem dX1_readOne_25 : decode cX1_readOne 25 = .ok (.iload_n 1, 1) := by decide +kernel
theorem dX1_readOne_26 : decode cX1_readOne 26 = .ok (.iconst 1, 1) := by decide +kernel
theorem dX1_readOne_27 : decode cX1_readOne 27 = .ok (.iadd, 1) := by decide +kernel
theorem dX1_readOne_28 : decode cX1_readOne 28 = .ok (.invokevirtual 77, 3) := by decide +kernel
theorem dX1_readOne_31 : decode cX1_readOne 31 = .ok (.ifCond .ne 5, 3) := by decide +kernel
theorem dX1_readOne_34 : decode cX1_readOne 34 = .ok (.iconst 0, 1) := by decide +kernel
theorem dX1_readOne_35 : decode cX1_readOne 35 = .ok (.ireturn, 1) := by decide +kernel
theorem dX1_readOne_36 : decode cX1_readOne 36 = .ok (.aload_n 0, 1) := by decide +kernel
theorem dX1_readOne_37 : decode cX1_readOne 37 = .ok (.getfield 21, 3) := by decide +kernel
theorem dX1_readOne_40 : decode cX1_readOne 40 = .ok (.bipush (-6), 2) := by decide +kernel
theorem dX1_readOne_42 : decode cX1_readOne 42 = .ok (.invokevirtual 73, 3) := by decide +kernel
theorem dX1_readOne_45 : decode cX1_readOne 45 = .ok (.iconst 1, 1) := by decide +kernel
theorem dX1_readOne_46 : decode cX1_readOne 46 = .ok (.ireturn, 1) := by decide +kernel
theorem dX1_readOne_47 : decode cX1_readOne 47 = .ok (.aload_n 0, 1) := by decide +kernel
theorem dX1_readOne_48 : decode cX1_readOne 48 = .ok (.getfield 45, 3) := by decide +kernel
theorem dX1_readOne_51 : decode cX1_readOne 51 = .ok (.bipush (-14), 2) := by decide +kernel
theorem dX1_readOne_53 : decode cX1_readOne 53 = .ok (.if_icmp .ne 32, 3) := by decide +kernel
theorem dX1_readOne_56 : decode cX1_readOne 56 = .ok (.aload_n 0, 1) := by decide +kernel
theorem dX1_readOne_57 : decode cX1_readOne 57 = .ok (.invokevirtual 42, 3) := by decide +kernel
theorem dX1_readOne_60 : decode cX1_readOne 60 = .ok (.aload_n 0, 1) := by decide +kernel
theorem dX1_readOne_61 : decode cX1_readOne 61 = .ok (.iload_n 1, 1) := by decide +kernel
theorem dX1_readOne_62 : decode cX1_readOne 62 = .ok (.iconst 1, 1) := by decide +kernel
theorem dX1_readOne_63 : decode cX1_readOne 63 = .ok (.iadd, 1) := by decide +kernel
theorem dX1_readOne_64 : decode cX1_readOne 64 = .ok (.invokevirtual 63, 3) := by decide +kernel
theorem dX1_readOne_67 : decode cX1_readOne 67 = .ok (.ifCond .eq 16, 3) := by decide +kernel
theorem dX1_readOne_70 : decode cX1_readOne 70 = .ok (.aload_n 0, 1) := by decide +kernel
theorem dX1_readOne_71 : decode cX1_readOne 71 = .ok (.bipush (-15), 2) := by decide +kernel
theorem dX1_readOne_73 : decode cX1_readOne 73 = .ok (.invokevirtual 55, 3) := by decide +kernel
theorem dX1_readOne_76 : decode cX1_readOne 76 = .ok (.ifCond .eq 7, 3) := by decide +kernel
theorem dX1_readOne_79 : decode cX1_readOne 79 = .ok (.iconst 1, 1) := by decide +kernel
theorem dX1_readOne_80 : decode cX1_readOne 80 = .ok (.goto 4, 3) := by decide +kernel
theorem dX1_readOne_83 : decode cX1_readOne 83 = .ok (.iconst 0, 1) := by decide +kernel
theorem dX1_readOne_84 : decode cX1_readOne 84 = .ok (.ireturn, 1) := by decide +kernel
theorem dX1_readOne_85 : decode cX1_readOne 85 = .ok (.aload_n 0, 1) := by decide +kernel
theorem dX1_readOne_86 : decode cX1_readOne 86 = .ok (.invokevirtual 80, 3) := by decide +kernel
theorem dX1_readOne_89 : decode cX1_readOne 89 = .ok (.ifCond .ne 5, 3) := by decide +kernel
theorem dX1_readOne_92 : decode cX1_readOne 92 = .ok (.iconst 0, 1) := by decide +kernel
theorem dX1_readOne_93 : decode cX1_readOne 93 = .ok (.ireturn, 1) := by decide +kernel
theorem dX1_readOne_94 : decode cX1_readOne 94 = .ok (.aload_n 0, 1) := by decide +kernel
theorem dX1_readOne_95 : decode cX1_readOne 95 = .ok (.getfield 45, 3) := by decide +kernel
theorem dX1_readOne_98 : decode cX1_readOne 98 = .ok (.istore_n 2, 1) := by decide +kernel
theorem dX1_readOne_99 : decode cX1_readOne 99 = .ok (.iload_n 2, 1) := by decide +kernel
theorem dX1_readOne_100 : decode cX1_readOne 100 = .ok (.bipush (-9), 2) := by decide +kernel
theorem dX1_readOne_102 : decode cX1_readOne 102 = .ok (.if_icmp .eq 20, 3) := by decide +kernel
theorem dX1_readOne_105 : decode cX1_readOne 105 = .ok (.iload_n 2, 1) := by decide +kernel
theorem dX1_readOne_106 : decode cX1_readOne 106 = .ok (.bipush (-10), 2) := by decide +kernel
theorem dX1_readOne_108 : decode cX1_readOne 108 = .ok (.if_icmp .eq 14, 3) := by decide +kernel
theorem dX1_readOne_111 : decode cX1_readOne 111 = .ok (.iload_n 2, 1) := by decide +kernel
theorem dX1_readOne_112 : decode cX1_readOne 112 = .ok (.bipush (-11), 2) := by decide +kernel
theorem dX1_readOne_114 : decode cX1_readOne 114 = .ok (.if_icmp .eq 8, 3) := by decide +kernel
theorem dX1_readOne_117 : decode cX1_readOne 117 = .ok (.aload_n 0, 1) := by decide +kernel
theorem dX1_readOne_118 : decode cX1_readOne 118 = .ok (.invokevirtual 52, 3) := by decide +kernel
theorem dX1_readOne_121 : decode cX1_readOne 121 = .ok (.ireturn, 1) := by decide +kernel
theorem dX1_readOne_122 : decode cX1_readOne 122 = .ok (.aload_n 0, 1) := by decide +kernel
theorem dX1_readOne_123 : decode cX1_readOne 123 = .ok (.invokevirtual 42, 3) := by decide +kernel
theorem dX1_readOne_126 : decode cX1_readOne 126 = .ok (.aload_n 0, 1) := by decide +kernel
theorem dX1_readOne_127 : decode cX1_readOne 127 = .ok (.invokevirtual 80, 3) := by decide +kernel
theorem dX1_readOne_130 : decode cX1_readOne 130 = .ok (.ifCond .ne 5, 3) := by decide +kernel
theorem dX1_readOne_133 : decode cX1_readOne 133 = .ok (.iconst 0, 1) := by decide +kernel
theorem dX1_readOne_134 : decode cX1_readOne 134 = .ok (.ireturn, 1) := by decide +kernel
theorem dX1_readOne_135 : decode cX1_readOne 135 = .ok (.aload_n 0, 1) := by decide +kernel
theorem dX1_readOne_136 : decode cX1_readOne 136 = .ok (.getfield 21, 3) := by decide +kernel
theorem dX1_readOne_139 : decode cX1_readOne 139 = .ok (.iload_n 2, 1) := by decide +kernel
theorem dX1_readOne_140 : decode cX1_readOne 140 = .ok (.invokevirtual 73, 3) := by decide +kernel
theorem dX1_readOne_143 : decode cX1_readOne 143 = .ok (.iconst 1, 1) := by decide +kernel
theorem dX1_readOne_144 : decode cX1_readOne 144 = .ok (.ireturn, 1) := by decide +kernel
theorem dX1_readSum_0 : decode cX1_readSum 0 = .ok (.iconst (-1), 1) := by decide +kernel
theorem dX1_readSum_1 : decode cX1_readSum 1 = .ok (.istore_n 1, 1) := by decide +kernel
theorem dX1_readSum_2 : decode cX1_readSum 2 = .ok (.iconst 0, 1) := by decide +kernel
theorem dX1_readSum_3 : decode cX1_readSum 3 = .ok (.istore_n 2, 1) := by decide +kernel
theorem dX1_readSum_4 : decode cX1_readSum 4 = .ok (.iload_n 2, 1) := by decide +kernel
theorem dX1_readSum_5 : decode cX1_readSum 5 = .ok (.bipush 60, 2) := by decide +kernel
theorem dX1_readSum_7 : decode cX1_readSum 7 = .ok (.if_icmp .gt 98, 3) := by decide +kernel
theorem dX1_readSum_10 : decode cX1_readSum 10 = .ok (.aload_n 0, 1) := by decide +kernel
theorem dX1_readSum_11 : decode cX1_readSum 11 = .ok (.getfield 36, 3) := by decide +kernel
theorem dX1_readSum_14 : decode cX1_readSum 14 = .ok (.bipush 60, 2) := by decide +kernel
theorem dX1_readSum_16 : decode cX1_readSum 16 = .ok (.if_icmp .ge 12, 3) := by decide +kernel
theorem dX1_readSum_19 : decode cX1_readSum 19 = .ok (.aload_n 0, 1) := by decide +kernel
theorem dX1_readSum_20 : decode cX1_readSum 20 = .ok (.getfield 45, 3) := by decide +kernel
theorem dX1_readSum_23 : decode cX1_readSum 23 = .ok (.bipush (-5), 2) := by decide +kernel
theorem dX1_readSum_25 : decode cX1_readSum 25 = .ok (.if_icmp .ge 8, 3) := by decide +kernel
theorem dX1_readSum_28 : decode cX1_readSum 28 = .ok (.aload_n 0, 1) := by decide +kernel
theorem dX1_readSum_29 : decode cX1_readSum 29 = .ok (.invokevirtual 52, 3) := by decide +kernel
theorem dX1_readSum_32 : decode cX1_readSum 32 = .ok (.ireturn, 1) := by decide +kernel
theorem dX1_readSum_33 : decode cX1_readSum 33 = .ok (.aload_n 0, 1) := by decide +kernel
theorem dX1_readSum_34 : decode cX1_readSum 34 = .ok (.getfield 21, 3) := by decide +kernel
theorem dX1_readSum_37 : decode cX1_readSum 37 = .ok (.aload_n 0, 1) := by decide +kernel
theorem dX1_readSum_38 : decode cX1_readSum 38 = .ok (.getfield 45, 3) := by decide +kernel
theorem dX1_readSum_41 : decode cX1_readSum 41 = .ok (.invokevirtual 73, 3) := by decide +kernel
theorem dX1_readSum_44 : decode cX1_readSum 44 = .ok (.aload_n 0, 1) := by decide +kernel
theorem dX1_readSum_45 : decode cX1_readSum 45 = .ok (.dup, 1) := by decide +kernel
theorem dX1_readSum_46 : decode cX1_readSum 46 = .ok (.getfield 36, 3) := by decide +kernel
theorem dX1_readSum_49 : decode cX1_readSum 49 = .ok (.iconst 1, 1) := by decide +kernel
theorem dX1_readSum_50 : decode cX1_readSum 50 = .ok (.iadd, 1) := by decide +kernel
theorem dX1_readSum_51 : decode cX1_readSum 51 = .ok (.putfield 36, 3) := by decide +kernel
theorem dX1_readSum_54 : decode cX1_readSum 54 = .ok (.aload_n 0, 1) := by decide +kernel
theorem dX1_readSum_55 : decode cX1_readSum 55 = .ok (.invokevirtual 42, 3) := by decide +kernel
theorem dX1_readSum_58 : decode cX1_readSum 58 = .ok (.iload_n 2, 1) := by decide +kernel
theorem dX1_readSum_59 : decode cX1_readSum 59 = .ok (.ifCond .le 11, 3) := by decide +kernel
theorem dX1_readSum_62 : decode cX1_readSum 62 = .ok (.aload_n 0, 1) := by decide +kernel
theorem dX1_readSum_63 : decode cX1_readSum 63 = .ok (.getfield 21, 3) := by decide +kernel
theorem dX1_readSum_66 : decode cX1_readSum 66 = .ok (.iload_n 1, 1) := by decide +kernel
theorem dX1_readSum_67 : decode cX1_readSum 67 = .ok (.invokevirtual 73, 3) := by decide +kernel
theorem dX1_readSum_70 : decode cX1_readSum 70 = .ok (.aload_n 0, 1) := by decide +kernel
theorem dX1_readSum_71 : decode cX1_readSum 71 = .ok (.getfield 45, 3) := by decide +kernel
theorem dX1_readSum_74 : decode cX1_readSum 74 = .ok (.bipush (-12), 2) := by decide +kernel
theorem dX1_readSum_76 : decode cX1_readSum 76 = .ok (.if_icmp .eq 14, 3) := by decide +kernel
theorem dX1_readSum_79 : decode cX1_readSum 79 = .ok (.aload_n 0, 1) := by decide +kernel
theorem dX1_readSum_80 : decode cX1_readSum 80 = .ok (.getfield 45, 3) := by decide +kernel
theorem dX1_readSum_83 : decode cX1_readSum 83 = .ok (.bipush (-13), 2) := by decide +kernel
theorem dX1_readSum_85 : decode cX1_readSum 85 = .ok (.if_icmp .eq 5, 3) := by decide +kernel
theorem dX1_readSum_88 : decode cX1_readSum 88 = .ok (.iconst 1, 1) := by decide +kernel
theorem dX1_readSum_89 : decode cX1_readSum 89 = .ok (.ireturn, 1) := by decide +kernel
theorem dX1_readSum_90 : decode cX1_readSum 90 = .ok (.aload_n 0, 1) := by decide +kernel
theorem dX1_readSum_91 : decode cX1_readSum 91 = .ok (.getfield 45, 3) := by decide +kernel
theorem dX1_readSum_94 : decode cX1_readSum 94 = .ok (.istore_n 1, 1) := by decide +kernel
theorem dX1_readSum_95 : decode cX1_readSum 95 = .ok (.aload_n 0, 1) := by decide +kernel
theorem dX1_readSum_96 : decode cX1_readSum 96 = .ok (.invokevirtual 42, 3) := by decide +kernel
theorem dX1_readSum_99 : decode cX1_readSum 99 = .ok (.iinc 2 1, 3) := by decide +kernel
theorem dX1_readSum_102 : decode cX1_readSum 102 = .ok (.goto (-98), 3) := by decide +kernel
theorem dX1_readSum_105 : decode cX1_readSum 105 = .ok (.aload_n 0, 1) := by decide +kernel
theorem dX1_readSum_106 : decode cX1_readSum 106 = .ok (.invokevirtual 52, 3) := by decide +kernel
theorem dX1_readSum_109 : decode cX1_readSum 109 = .ok (.ireturn, 1) := by decide +kernel
theorem dX1_readToken_0 : decode cX1_readToken 0 = .ok (.aload_n 0, 1) := by decide +kernel
theorem dX1_readToken_1 : decode cX1_readToken 1 = .ok (.getfield 45, 3) := by decide +kernel
theorem dX1_readToken_4 : decode cX1_readToken 4 = .ok (.iload_n 1, 1) := by decide +kernel
theorem dX1_readToken_5 : decode cX1_readToken 5 = .ok (.if_icmp .eq 8, 3) := by decide +kernel
theorem dX1_readToken_8 : decode cX1_readToken 8 = .ok (.aload_n 0, 1) := by decide +kernel
theorem dX1_readToken_9 : decode cX1_readToken 9 = .ok (.invokevirtual 52, 3) := by decide +kernel
theorem dX1_readToken_12 : decode cX1_readToken 12 = .ok (.ireturn, 1) := by decide +kernel
theorem dX1_readToken_13 : decode cX1_readToken 13 = .ok (.aload_n 0, 1) := by decide +kernel
theorem dX1_readToken_14 : decode cX1_readToken 14 = .ok (.invokevirtual 42, 3) := by decide +kernel
theorem dX1_readToken_17 : decode cX1_readToken 17 = .ok (.iconst 1, 1) := by decide +kernel
theorem dX1_readToken_18 : decode cX1_readToken 18 = .ok (.ireturn, 1) := by decide +kernel
theorem dX1_readNumber_0 : decode cX1_readNumber 0 = .ok (.aload_n 0, 1) := by decide +kernel
theorem dX1_readNumber_1 : decode cX1_readNumber 1 = .ok (.getfield 45, 3) := by decide +kernel
theorem dX1_readNumber_4 : decode cX1_readNumber 4 = .ok (.ifCond .ge 8, 3) := by decide +kernel
theorem dX1_readNumber_7 : decode cX1_readNumber 7 = .ok (.aload_n 0, 1) := by decide +kernel
theorem dX1_readNumber_8 : decode cX1_readNumber 8 = .ok (.invokevirtual 52, 3) := by decide +kernel
theorem dX1_readNumber_11 : decode cX1_readNumber 11 = .ok (.ireturn, 1) := by decide +kernel
theorem dX1_readNumber_12 : decode cX1_readNumber 12 = .ok (.aload_n 0, 1) := by decide +kernel
theorem dX1_readNumber_13 : decode cX1_readNumber 13 = .ok (.getfield 45, 3) := by decide +kernel
theorem dX1_readNumber_16 : decode cX1_readNumber 16 = .ok (.iload_n 1, 1) := by decide +kernel
theorem dX1_readNumber_17 : decode cX1_readNumber 17 = .ok (.iload_n 2, 1) := by decide +kernel
theorem dX1_readNumber_18 : decode cX1_readNumber 18 = .ok (.invokestatic 83, 3) := by decide +kernel
theorem dX1_readNumber_21 : decode cX1_readNumber 21 = .ok (.ifCond .ne 10, 3) := by decide +kernel
theorem dX1_readNumber_24 : decode cX1_readNumber 24 = .ok (.aload_n 0, 1) := by decide +kernel
theorem dX1_readNumber_25 : decode cX1_readNumber 25 = .ok (.iconst 3, 1) := by decide +kernel
theorem dX1_readNumber_26 : decode cX1_readNumber 26 = .ok (.putfield 25, 3) := by decide +kernel
theorem dX1_readNumber_29 : decode cX1_readNumber 29 = .ok (.iconst 0, 1) := by decide +kernel
theorem dX1_readNumber_30 : decode cX1_readNumber 30 = .ok (.ireturn, 1) := by decide +kernel
theorem dX1_readNumber_31 : decode cX1_readNumber 31 = .ok (.aload_n 0, 1) := by decide +kernel
theorem dX1_readNumber_32 : decode cX1_readNumber 32 = .ok (.invokevirtual 42, 3) := by decide +kernel
theorem dX1_readNumber_35 : decode cX1_readNumber 35 = .ok (.iconst 1, 1) := by decide +kernel
theorem dX1_readNumber_36 : decode cX1_readNumber 36 = .ok (.ireturn, 1) := by decide +kernel
theorem dX1_refuse_0 : decode cX1_refuse 0 = .ok (.aload_n 0, 1) := by decide +kernel
theorem dX1_refuse_1 : decode cX1_refuse 1 = .ok (.aload_n 0, 1) := by decide +kernel
theorem dX1_refuse_2 : decode cX1_refuse 2 = .ok (.getfield 45, 3) := by decide +kernel
theorem dX1_refuse_5 : decode cX1_refuse 5 = .ok (.bipush (-21), 2) := by decide +kernel
theorem dX1_refuse_7 : decode cX1_refuse 7 = .ok (.if_icmp .ne 7, 3) := by decide +kernel
theorem dX1_refuse_10 : decode cX1_refuse 10 = .ok (.iconst 1, 1) := by decide +kernel
theorem dX1_refuse_11 : decode cX1_refuse 11 = .ok (.goto 4, 3) := by decide +kernel
theorem dX1_refuse_14 : decode cX1_refuse 14 = .ok (.iconst 2, 1) := by decide +kernel
theorem dX1_refuse_15 : decode cX1_refuse 15 = .ok (.putfield 25, 3) := by decide +kernel
theorem dX1_refuse_18 : decode cX1_refuse 18 = .ok (.iconst 0, 1) := by decide +kernel
theorem dX1_refuse_19 : decode cX1_refuse 19 = .ok (.ireturn, 1) := by decide +kernel
theorem dX1_advance_0 : decode cX1_advance 0 = .ok (.aload_n 0, 1) := by decide +kernel
theorem dX1_advance_1 : decode cX1_advance 1 = .ok (.dup, 1) := by decide +kernel
theorem dX1_advance_2 : decode cX1_advance 2 = .ok (.getfield 39, 3) := by decide +kernel
theorem dX1_advance_5 : decode cX1_advance 5 = .ok (.iconst 1, 1) := by decide +kernel
theorem dX1_advance_6 : decode cX1_advance 6 = .ok (.iadd, 1) := by decide +kernel
theorem dX1_advance_7 : decode cX1_advance 7 = .ok (.putfield 39, 3) := by decide +kernel
theorem dX1_advance_10 : decode cX1_advance 10 = .ok (.aload_n 0, 1) := by decide +kernel
theorem dX1_advance_11 : decode cX1_advance 11 = .ok (.getfield 39, 3) := by decide +kernel
theorem dX1_advance_14 : decode cX1_advance 14 = .ok (.ifCond .lt 36, 3) := by decide +kernel
theorem dX1_advance_17 : decode cX1_advance 17 = .ok (.aload_n 0, 1) := by decide +kernel
theorem dX1_advance_18 : decode cX1_advance 18 = .ok (.getfield 39, 3) := by decide +kernel
theorem dX1_advance_21 : decode cX1_advance 21 = .ok (.aload_n 0, 1) := by decide +kernel
theorem dX1_advance_22 : decode cX1_advance 22 = .ok (.getfield 12, 3) := by decide +kernel
theorem dX1_advance_25 : decode cX1_advance 25 = .ok (.getfield 87, 3) := by decide +kernel
theorem dX1_advance_28 : decode cX1_advance 28 = .ok (.if_icmp .ge 22, 3) := by decide +kernel
theorem dX1_advance_31 : decode cX1_advance 31 = .ok (.aload_n 0, 1) := by decide +kernel
theorem dX1_advance_32 : decode cX1_advance 32 = .ok (.getfield 39, 3) := by decide +kernel
theorem dX1_advance_35 : decode cX1_advance 35 = .ok (.aload_n 0, 1) := by decide +kernel
theorem dX1_advance_36 : decode cX1_advance 36 = .ok (.getfield 12, 3) := by decide +kernel
theorem dX1_advance_39 : decode cX1_advance 39 = .ok (.getfield 90, 3) := by decide +kernel
theorem dX1_advance_42 : decode cX1_advance 42 = .ok (.arraylength, 1) := by decide +kernel
theorem dX1_advance_43 : decode cX1_advance 43 = .ok (.if_icmp .ge 7, 3) := by decide +kernel
theorem dX1_advance_46 : decode cX1_advance 46 = .ok (.iconst 1, 1) := by decide +kernel
theorem dX1_advance_47 : decode cX1_advance 47 = .ok (.goto 4, 3) := by decide +kernel
theorem dX1_advance_50 : decode cX1_advance 50 = .ok (.iconst 0, 1) := by decide +kernel
theorem dX1_advance_51 : decode cX1_advance 51 = .ok (.istore_n 1, 1) := by decide +kernel
theorem dX1_advance_52 : decode cX1_advance 52 = .ok (.aload_n 0, 1) := by decide +kernel
theorem dX1_advance_53 : decode cX1_advance 53 = .ok (.iload_n 1, 1) := by decide +kernel
theorem dX1_advance_54 : decode cX1_advance 54 = .ok (.ifCond .eq 18, 3) := by decide +kernel
theorem dX1_advance_57 : decode cX1_advance 57 = .ok (.aload_n 0, 1) := by decide +kernel
theorem dX1_advance_58 : decode cX1_advance 58 = .ok (.getfield 12, 3) := by decide +kernel
theorem dX1_advance_61 : decode cX1_advance 61 = .ok (.getfield 90, 3) := by decide +kernel
theorem dX1_advance_64 : decode cX1_advance 64 = .ok (.aload_n 0, 1) := by decide +kernel
theorem dX1_advance_65 : decode cX1_advance 65 = .ok (.getfield 39, 3) := by decide +kernel
theorem dX1_advance_68 : decode cX1_advance 68 = .ok (.iaload, 1) := by decide +kernel
theorem dX1_advance_69 : decode cX1_advance 69 = .ok (.goto 5, 3) := by decide +kernel
theorem dX1_advance_72 : decode cX1_advance 72 = .ok (.bipush (-22), 2) := by decide +kernel
theorem dX1_advance_74 : decode cX1_advance 74 = .ok (.putfield 45, 3) := by decide +kernel
theorem dX1_advance_77 : decode cX1_advance 77 = .ok (.return_, 1) := by decide +kernel
theorem dX1_placeReached_0 : decode cX1_placeReached 0 = .ok (.aload_n 0, 1) := by decide +kernel
theorem dX1_placeReached_1 : decode cX1_placeReached 1 = .ok (.getfield 39, 3) := by decide +kernel
theorem dX1_placeReached_4 : decode cX1_placeReached 4 = .ok (.ifCond .lt 36, 3) := by decide +kernel
theorem dX1_placeReached_7 : decode cX1_placeReached 7 = .ok (.aload_n 0, 1) := by decide +kernel
theorem dX1_placeReached_8 : decode cX1_placeReached 8 = .ok (.getfield 39, 3) := by decide +kernel
theorem dX1_placeReached_11 : decode cX1_placeReached 11 = .ok (.aload_n 0, 1) := by decide +kernel
theorem dX1_placeReached_12 : decode cX1_placeReached 12 = .ok (.getfield 12, 3) := by decide +kernel
theorem dX1_placeReached_15 : decode cX1_placeReached 15 = .ok (.getfield 87, 3) := by decide +kernel
theorem dX1_placeReached_18 : decode cX1_placeReached 18 = .ok (.if_icmp .ge 22, 3) := by decide +kernel
theorem dX1_placeReached_21 : decode cX1_placeReached 21 = .ok (.aload_n 0, 1) := by decide +kernel
theorem dX1_placeReached_22 : decode cX1_placeReached 22 = .ok (.getfield 39, 3) := by decide +kernel
theorem dX1_placeReached_25 : decode cX1_placeReached 25 = .ok (.aload_n 0, 1) := by decide +kernel
theorem dX1_placeReached_26 : decode cX1_placeReached 26 = .ok (.getfield 12, 3) := by decide +kernel
theorem dX1_placeReached_29 : decode cX1_placeReached 29 = .ok (.getfield 94, 3) := by decide +kernel
theorem dX1_placeReached_32 : decode cX1_placeReached 32 = .ok (.arraylength, 1) := by decide +kernel
theorem dX1_placeReached_33 : decode cX1_placeReached 33 = .ok (.if_icmp .ge 7, 3) := by decide +kernel
theorem dX1_placeReached_36 : decode cX1_placeReached 36 = .ok (.iconst 1, 1) := by decide +kernel
theorem dX1_placeReached_37 : decode cX1_placeReached 37 = .ok (.goto 4, 3) := by decide +kernel
theorem dX1_placeReached_40 : decode cX1_placeReached 40 = .ok (.iconst 0, 1) := by decide +kernel
theorem dX1_placeReached_41 : decode cX1_placeReached 41 = .ok (.istore_n 1, 1) := by decide +kernel
theorem dX1_placeReached_42 : decode cX1_placeReached 42 = .ok (.iload_n 1, 1) := by decide +kernel
theorem dX1_placeReached_43 : decode cX1_placeReached 43 = .ok (.ifCond .eq 18, 3) := by decide +kernel
theorem dX1_placeReached_46 : decode cX1_placeReached 46 = .ok (.aload_n 0, 1) := by decide +kernel
theorem dX1_placeReached_47 : decode cX1_placeReached 47 = .ok (.getfield 12, 3) := by decide +kernel
theorem dX1_placeReached_50 : decode cX1_placeReached 50 = .ok (.getfield 94, 3) := by decide +kernel
theorem dX1_placeReached_53 : decode cX1_placeReached 53 = .ok (.aload_n 0, 1) := by decide +kernel
theorem dX1_placeReached_54 : decode cX1_placeReached 54 = .ok (.getfield 39, 3) := by decide +kernel
theorem dX1_placeReached_57 : decode cX1_placeReached 57 = .ok (.iaload, 1) := by decide +kernel
theorem dX1_placeReached_58 : decode cX1_placeReached 58 = .ok (.goto 4, 3) := by decide +kernel
theorem dX1_placeReached_61 : decode cX1_placeReached 61 = .ok (.iconst (-1), 1) := by decide +kernel
theorem dX1_placeReached_62 : decode cX1_placeReached 62 = .ok (.ireturn, 1) := by decide +kernel
theorem dX2_init_0 : decode cX2_init 0 = .ok (.aload_n 0, 1) := by decide +kernel
theorem dX2_init_1 : decode cX2_init 1 = .ok (.invokespecial 7, 3) := by decide +kernel
theorem dX2_init_4 : decode cX2_init 4 = .ok (.aload_n 0, 1) := by decide +kernel
theorem dX2_init_5 : decode cX2_init 5 = .ok (.bipush 8, 2) := by decide +kernel
theorem dX2_init_7 : decode cX2_init 7 = .ok (.newarray .int, 2) := by decide +kernel
theorem dX2_init_9 : decode cX2_init 9 = .ok (.putfield 13, 3) := by decide +kernel
theorem dX2_init_12 : decode cX2_init 12 = .ok (.aload_n 0, 1) := by decide +kernel
theorem dX2_init_13 : decode cX2_init 13 = .ok (.bipush 8, 2) := by decide +kernel
theorem dX2_init_15 : decode cX2_init 15 = .ok (.newarray .int, 2) := by decide +kernel
theorem dX2_init_17 : decode cX2_init 17 = .ok (.putfield 17, 3) := by decide +kernel
theorem dX2_init_20 : decode cX2_init 20 = .ok (.aload_n 0, 1) := by decide +kernel
theorem dX2_init_21 : decode cX2_init 21 = .ok (.bipush 8, 2) := by decide +kernel
theorem dX2_init_23 : decode cX2_init 23 = .ok (.newarray .int, 2) := by decide +kernel
theorem dX2_init_25 : decode cX2_init 25 = .ok (.putfield 20, 3) := by decide +kernel
theorem dX2_init_28 : decode cX2_init 28 = .ok (.aload_n 0, 1) := by decide +kernel
theorem dX2_init_29 : decode cX2_init 29 = .ok (.sipush 320, 3) := by decide +kernel
theorem dX2_init_32 : decode cX2_init 32 = .ok (.newarray .int, 2) := by decide +kernel
theorem dX2_init_34 : decode cX2_init 34 = .ok (.putfield 23, 3) := by decide +kernel
theorem dX2_init_37 : decode cX2_init 37 = .ok (.aload_n 0, 1) := by decide +kernel
theorem dX2_init_38 : decode cX2_init 38 = .ok (.bipush 32, 2) := by decide +kernel
theorem dX2_init_40 : decode cX2_init 40 = .ok (.newarray .int, 2) := by decide +kernel
theorem dX2_init_42 : decode cX2_init 42 = .ok (.putfield 26, 3) := by decide +kernel
theorem dX2_init_45 : decode cX2_init 45 = .ok (.aload_n 0, 1) := by decide +kernel
theorem dX2_init_46 : decode cX2_init 46 = .ok (.iconst 0, 1) := by decide +kernel
theorem dX2_init_47 : decode cX2_init 47 = .ok (.putfield 29, 3) := by decide +kernel
theorem dX2_init_50 : decode cX2_init 50 = .ok (.aload_n 0, 1) := by decide +kernel
theorem dX2_init_51 : decode cX2_init 51 = .ok (.iconst 0, 1) := by decide +kernel
theorem dX2_init_52 : decode cX2_init 52 = .ok (.putfield 33, 3) := by decide +kernel
theorem dX2_init_55 : decode cX2_init 55 = .ok (.aload_n 0, 1) := by decide +kernel
theorem dX2_init_56 : decode cX2_init 56 = .ok (.iconst 0, 1) := by decide +kernel
theorem dX2_init_57 : decode cX2_init 57 = .ok (.putfield 36, 3) := by decide +kernel
theorem dX2_init_60 : decode cX2_init 60 = .ok (.return_, 1) := by decide +kernel
theorem dX2_clear_0 : decode cX2_clear 0 = .ok (.aload_n 0, 1) := by decide +kernel
theorem dX2_clear_1 : decode cX2_clear 1 = .ok (.iconst 0, 1) := by decide +kernel
theorem dX2_clear_2 : decode cX2_clear 2 = .ok (.putfield 29, 3) := by decide +kernel
theorem dX2_clear_5 : decode cX2_clear 5 = .ok (.aload_n 0, 1) := by decide +kernel
theorem dX2_clear_6 : decode cX2_clear 6 = .ok (.iconst 0, 1) := by decide +kernel
theorem dX2_clear_7 : decode cX2_clear 7 = .ok (.putfield 33, 3) := by decide +kernel
theorem dX2_clear_10 : decode cX2_clear 10 = .ok (.return_, 1) := by decide +kernel
theorem dX2_emit_0 : decode cX2_emit 0 = .ok (.aload_n 0, 1) := by decide +kernel
theorem dX2_emit_1 : decode cX2_emit 1 = .ok (.getfield 33, 3) := by decide +kernel
theorem dX2_emit_4 : decode cX2_emit 4 = .ok (.aload_n 0, 1) := by decide +kernel
theorem dX2_emit_5 : decode cX2_emit 5 = .ok (.getfield 23, 3) := by decide +kernel
theorem dX2_emit_8 : decode cX2_emit 8 = .ok (.arraylength, 1) := by decide +kernel
theorem dX2_emit_9 : decode cX2_emit 9 = .ok (.if_icmp .ge 23, 3) := by decide +kernel
theorem dX2_emit_12 : decode cX2_emit 12 = .ok (.aload_n 0, 1) := by decide +kernel
theorem dX2_emit_13 : decode cX2_emit 13 = .ok (.getfield 23, 3) := by decide +kernel
theorem dX2_emit_16 : decode cX2_emit 16 = .ok (.aload_n 0, 1) := by decide +kernel
theorem dX2_emit_17 : decode cX2_emit 17 = .ok (.getfield 33, 3) := by decide +kernel
theorem dX2_emit_20 : decode cX2_emit 20 = .ok (.iload_n 1, 1) := by decide +kernel
theorem dX2_emit_21 : decode cX2_emit 21 = .ok (.iastore, 1) := by decide +kernel
theorem dX2_emit_22 : decode cX2_emit 22 = .ok (.aload_n 0, 1) := by decide +kernel
theorem dX2_emit_23 : decode cX2_emit 23 = .ok (.dup, 1) := by decide +kernel
theorem dX2_emit_24 : decode cX2_emit 24 = .ok (.getfield 33, 3) := by decide +kernel
theorem dX2_emit_27 : decode cX2_emit 27 = .ok (.iconst 1, 1) := by decide +kernel
theorem dX2_emit_28 : decode cX2_emit 28 = .ok (.iadd, 1) := by decide +kernel
theorem dX2_emit_29 : decode cX2_emit 29 = .ok (.putfield 33, 3) := by decide +kernel
theorem dX2_emit_32 : decode cX2_emit 32 = .ok (.return_, 1) := by decide +kernel
theorem dX2_addLine_0 : decode cX2_addLine 0 = .ok (.aload_n 0, 1) := by decide +kernel
theorem dX2_addLine_1 : decode cX2_addLine 1 = .ok (.getfield 29, 3) := by decide +kernel
theorem dX2_addLine_4 : decode cX2_addLine 4 = .ok (.bipush 8, 2) := by decide +kernel
theorem dX2_addLine_6 : decode cX2_addLine 6 = .ok (.if_icmp .ge 46, 3) := by decide +kernel
theorem dX2_addLine_9 : decode cX2_addLine 9 = .ok (.aload_n 0, 1) := by decide +kernel
theorem dX2_addLine_10 : decode cX2_addLine 10 = .ok (.getfield 13, 3) := by decide +kernel
theorem dX2_addLine_13 : decode cX2_addLine 13 = .ok (.aload_n 0, 1) := by decide +kernel
theorem dX2_addLine_14 : decode cX2_addLine 14 = .ok (.getfield 29, 3) := by decide +kernel
theorem dX2_addLine_17 : decode cX2_addLine 17 = .ok (.iload_n 1, 1) := by decide +kernel
theorem dX2_addLine_18 : decode cX2_addLine 18 = .ok (.iastore, 1) := by decide +kernel
theorem dX2_addLine_19 : decode cX2_addLine 19 = .ok (.aload_n 0, 1) := by decide +kernel
theorem dX2_addLine_20 : decode cX2_addLine 20 = .ok (.getfield 17, 3) := by decide +kernel
theorem dX2_addLine_23 : decode cX2_addLine 23 = .ok (.aload_n 0, 1) := by decide +kernel
theorem dX2_addLine_24 : decode cX2_addLine 24 = .ok (.getfield 29, 3) := by decide +kernel
theorem dX2_addLine_27 : decode cX2_addLine 27 = .ok (.iload_n 2, 1) := by decide +kernel
theorem dX2_addLine_28 : decode cX2_addLine 28 = .ok (.iastore, 1) := by decide +kernel
theorem dX2_addLine_29 : decode cX2_addLine 29 = .ok (.aload_n 0, 1) := by decide +kernel
theorem dX2_addLine_30 : decode cX2_addLine 30 = .ok (.getfield 20, 3) := by decide +kernel
theorem dX2_addLine_33 : decode cX2_addLine 33 = .ok (.aload_n 0, 1) := by decide +kernel
theorem dX2_addLine_34 : decode cX2_addLine 34 = .ok (.getfield 29, 3) := by decide +kernel
theorem dX2_addLine_37 : decode cX2_addLine 37 = .ok (.aload_n 0, 1) := by decide +kernel
theorem dX2_addLine_38 : decode cX2_addLine 38 = .ok (.getfield 33, 3) := by decide +kernel
theorem dX2_addLine_41 : decode cX2_addLine 41 = .ok (.iastore, 1) := by decide +kernel
theorem dX2_addLine_42 : decode cX2_addLine 42 = .ok (.aload_n 0, 1) := by decide +kernel
theorem dX2_addLine_43 : decode cX2_addLine 43 = .ok (.dup, 1) := by decide +kernel
theorem dX2_addLine_44 : decode cX2_addLine 44 = .ok (.getfield 29, 3) := by decide +kernel
theorem dX2_addLine_47 : decode cX2_addLine 47 = .ok (.iconst 1, 1) := by decide +kernel
theorem dX2_addLine_48 : decode cX2_addLine 48 = .ok (.iadd, 1) := by decide +kernel
theorem dX2_addLine_49 : decode cX2_addLine 49 = .ok (.putfield 29, 3) := by decide +kernel
theorem dX2_addLine_52 : decode cX2_addLine 52 = .ok (.return_, 1) := by decide +kernel
theorem dX2_copyFrom_0 : decode cX2_copyFrom 0 = .ok (.aload_n 0, 1) := by decide +kernel
theorem dX2_copyFrom_1 : decode cX2_copyFrom 1 = .ok (.aload_n 1, 1) := by decide +kernel
theorem dX2_copyFrom_2 : decode cX2_copyFrom 2 = .ok (.getfield 29, 3) := by decide +kernel
theorem dX2_copyFrom_5 : decode cX2_copyFrom 5 = .ok (.putfield 29, 3) := by decide +kernel
theorem dX2_copyFrom_8 : decode cX2_copyFrom 8 = .ok (.aload_n 0, 1) := by decide +kernel
theorem dX2_copyFrom_9 : decode cX2_copyFrom 9 = .ok (.aload_n 1, 1) := by decide +kernel
theorem dX2_copyFrom_10 : decode cX2_copyFrom 10 = .ok (.getfield 33, 3) := by decide +kernel
theorem dX2_copyFrom_13 : decode cX2_copyFrom 13 = .ok (.putfield 33, 3) := by decide +kernel
theorem dX2_copyFrom_16 : decode cX2_copyFrom 16 = .ok (.iconst 0, 1) := by decide +kernel
theorem dX2_copyFrom_17 : decode cX2_copyFrom 17 = .ok (.istore_n 2, 1) := by decide +kernel
theorem dX2_copyFrom_18 : decode cX2_copyFrom 18 = .ok (.iload_n 2, 1) := by decide +kernel
theorem dX2_copyFrom_19 : decode cX2_copyFrom 19 = .ok (.bipush 8, 2) := by decide +kernel
theorem dX2_copyFrom_21 : decode cX2_copyFrom 21 = .ok (.if_icmp .ge 45, 3) := by decide +kernel
theorem dX2_copyFrom_24 : decode cX2_copyFrom 24 = .ok (.aload_n 0, 1) := by decide +kernel
theorem dX2_copyFrom_25 : decode cX2_copyFrom 25 = .ok (.getfield 13, 3) := by decide +kernel
theorem dX2_copyFrom_28 : decode cX2_copyFrom 28 = .ok (.iload_n 2, 1) := by decide +kernel
theorem dX2_copyFrom_29 : decode cX2_copyFrom 29 = .ok (.aload_n 1, 1) := by decide +kernel
theorem dX2_copyFrom_30 : decode cX2_copyFrom 30 = .ok (.getfield 13, 3) := by decide +kernel
theorem dX2_copyFrom_33 : decode cX2_copyFrom 33 = .ok (.iload_n 2, 1) := by decide +kernel
theorem dX2_copyFrom_34 : decode cX2_copyFrom 34 = .ok (.iaload, 1) := by decide +kernel
theorem dX2_copyFrom_35 : decode cX2_copyFrom 35 = .ok (.iastore, 1) := by decide +kernel
theorem dX2_copyFrom_36 : decode cX2_copyFrom 36 = .ok (.aload_n 0, 1) := by decide +kernel
theorem dX2_copyFrom_37 : decode cX2_copyFrom 37 = .ok (.getfield 17, 3) := by decide +kernel
theorem dX2_copyFrom_40 : decode cX2_copyFrom 40 = .ok (.iload_n 2, 1) := by decide +kernel
theorem dX2_copyFrom_41 : decode cX2_copyFrom 41 = .ok (.aload_n 1, 1) := by decide +kernel
theorem dX2_copyFrom_42 : decode cX2_copyFrom 42 = .ok (.getfield 17, 3) := by decide +kernel
theorem dX2_copyFrom_45 : decode cX2_copyFrom 45 = .ok (.iload_n 2, 1) := by decide +kernel
theorem dX2_copyFrom_46 : decode cX2_copyFrom 46 = .ok (.iaload, 1) := by decide +kernel
theorem dX2_copyFrom_47 : decode cX2_copyFrom 47 = .ok (.iastore, 1) := by decide +kernel
theorem dX2_copyFrom_48 : decode cX2_copyFrom 48 = .ok (.aload_n 0, 1) := by decide +kernel
theorem dX2_copyFrom_49 : decode cX2_copyFrom 49 = .ok (.getfield 20, 3) := by decide +kernel
theorem dX2_copyFrom_52 : decode cX2_copyFrom 52 = .ok (.iload_n 2, 1) := by decide +kernel
theorem dX2_copyFrom_53 : decode cX2_copyFrom 53 = .ok (.aload_n 1, 1) := by decide +kernel
theorem dX2_copyFrom_54 : decode cX2_copyFrom 54 = .ok (.getfield 20, 3) := by decide +kernel
theorem dX2_copyFrom_57 : decode cX2_copyFrom 57 = .ok (.iload_n 2, 1) := by decide +kernel
theorem dX2_copyFrom_58 : decode cX2_copyFrom 58 = .ok (.iaload, 1) := by decide +kernel
theorem dX2_copyFrom_59 : decode cX2_copyFrom 59 = .ok (.iastore, 1) := by decide +kernel
theorem dX2_copyFrom_60 : decode cX2_copyFrom 60 = .ok (.iinc 2 1, 3) := by decide +kernel
theorem dX2_copyFrom_63 : decode cX2_copyFrom 63 = .ok (.goto (-45), 3) := by decide +kernel
theorem dX2_copyFrom_66 : decode cX2_copyFrom 66 = .ok (.iconst 0, 1) := by decide +kernel
theorem dX2_copyFrom_67 : decode cX2_copyFrom 67 = .ok (.istore_n 2, 1) := by decide +kernel
theorem dX2_copyFrom_68 : decode cX2_copyFrom 68 = .ok (.iload_n 2, 1) := by decide +kernel
theorem dX2_copyFrom_69 : decode cX2_copyFrom 69 = .ok (.aload_n 0, 1) := by decide +kernel
theorem dX2_copyFrom_70 : decode cX2_copyFrom 70 = .ok (.getfield 33, 3) := by decide +kernel
theorem dX2_copyFrom_73 : decode cX2_copyFrom 73 = .ok (.if_icmp .ge 30, 3) := by decide +kernel
theorem dX2_copyFrom_76 : decode cX2_copyFrom 76 = .ok (.iload_n 2, 1) := by decide +kernel
theorem dX2_copyFrom_77 : decode cX2_copyFrom 77 = .ok (.aload_n 0, 1) := by decide +kernel
theorem dX2_copyFrom_78 : decode cX2_copyFrom 78 = .ok (.getfield 23, 3) := by decide +kernel
theorem dX2_copyFrom_81 : decode cX2_copyFrom 81 = .ok (.arraylength, 1) := by decide +kernel
theorem dX2_copyFrom_82 : decode cX2_copyFrom 82 = .ok (.if_icmp .ge 21, 3) := by decide +kernel
theorem dX2_copyFrom_85 : decode cX2_copyFrom 85 = .ok (.aload_n 0, 1) := by decide +kernel
theorem dX2_copyFrom_86 : decode cX2_copyFrom 86 = .ok (.getfield 23, 3) := by decide +kernel
theorem dX2_copyFrom_89 : decode cX2_copyFrom 89 = .ok (.iload_n 2, 1) := by decide +kernel
theorem dX2_copyFrom_90 : decode cX2_copyFrom 90 = .ok (.aload_n 1, 1) := by decide +kernel
theorem dX2_copyFrom_91 : decode cX2_copyFrom 91 = .ok (.getfield 23, 3) := by decide +kernel
theorem dX2_copyFrom_94 : decode cX2_copyFrom 94 = .ok (.iload_n 2, 1) := by decide +kernel
theorem dX2_copyFrom_95 : decode cX2_copyFrom 95 = .ok (.iaload, 1) := by decide +kernel
theorem dX2_copyFrom_96 : decode cX2_copyFrom 96 = .ok (.iastore, 1) := by decide +kernel
theorem dX2_copyFrom_97 : decode cX2_copyFrom 97 = .ok (.iinc 2 1, 3) := by decide +kernel
theorem dX2_copyFrom_100 : decode cX2_copyFrom 100 = .ok (.goto (-32), 3) := by decide +kernel
theorem dX2_copyFrom_103 : decode cX2_copyFrom 103 = .ok (.return_, 1) := by decide +kernel
theorem dX2_widthOf_0 : decode cX2_widthOf 0 = .ok (.iload_n 1, 1) := by decide +kernel
theorem dX2_widthOf_1 : decode cX2_widthOf 1 = .ok (.ifCond .lt 18, 3) := by decide +kernel
theorem dX2_widthOf_4 : decode cX2_widthOf 4 = .ok (.iload_n 1, 1) := by decide +kernel
theorem dX2_widthOf_5 : decode cX2_widthOf 5 = .ok (.bipush 8, 2) := by decide +kernel
theorem dX2_widthOf_7 : decode cX2_widthOf 7 = .ok (.if_icmp .ge 12, 3) := by decide +kernel
theorem dX2_widthOf_10 : decode cX2_widthOf 10 = .ok (.aload_n 0, 1) := by decide +kernel
theorem dX2_widthOf_11 : decode cX2_widthOf 11 = .ok (.getfield 13, 3) := by decide +kernel
theorem dX2_widthOf_14 : decode cX2_widthOf 14 = .ok (.iload_n 1, 1) := by decide +kernel
theorem dX2_widthOf_15 : decode cX2_widthOf 15 = .ok (.iaload, 1) := by decide +kernel
theorem dX2_widthOf_16 : decode cX2_widthOf 16 = .ok (.goto 4, 3) := by decide +kernel
theorem dX2_widthOf_19 : decode cX2_widthOf 19 = .ok (.iconst 0, 1) := by decide +kernel
theorem dX2_widthOf_20 : decode cX2_widthOf 20 = .ok (.ireturn, 1) := by decide +kernel
theorem dX2_worthOf_0 : decode cX2_worthOf 0 = .ok (.iload_n 1, 1) := by decide +kernel
theorem dX2_worthOf_1 : decode cX2_worthOf 1 = .ok (.ifCond .lt 18, 3) := by decide +kernel
theorem dX2_worthOf_4 : decode cX2_worthOf 4 = .ok (.iload_n 1, 1) := by decide +kernel
theorem dX2_worthOf_5 : decode cX2_worthOf 5 = .ok (.bipush 8, 2) := by decide +kernel
theorem dX2_worthOf_7 : decode cX2_worthOf 7 = .ok (.if_icmp .ge 12, 3) := by decide +kernel
theorem dX2_worthOf_10 : decode cX2_worthOf 10 = .ok (.aload_n 0, 1) := by decide +kernel
theorem dX2_worthOf_11 : decode cX2_worthOf 11 = .ok (.getfield 17, 3) := by decide +kernel
theorem dX2_worthOf_14 : decode cX2_worthOf 14 = .ok (.iload_n 1, 1) := by decide +kernel
theorem dX2_worthOf_15 : decode cX2_worthOf 15 = .ok (.iaload, 1) := by decide +kernel
theorem dX2_worthOf_16 : decode cX2_worthOf 16 = .ok (.goto 4, 3) := by decide +kernel
theorem dX2_worthOf_19 : decode cX2_worthOf 19 = .ok (.iconst 0, 1) := by decide +kernel
theorem dX2_worthOf_20 : decode cX2_worthOf 20 = .ok (.ireturn, 1) := by decide +kernel
theorem dX2_codeEndOf_0 : decode cX2_codeEndOf 0 = .ok (.iload_n 1, 1) := by decide +kernel
theorem dX2_codeEndOf_1 : decode cX2_codeEndOf 1 = .ok (.ifCond .lt 18, 3) := by decide +kernel
theorem dX2_codeEndOf_4 : decode cX2_codeEndOf 4 = .ok (.iload_n 1, 1) := by decide +kernel
theorem dX2_codeEndOf_5 : decode cX2_codeEndOf 5 = .ok (.bipush 8, 2) := by decide +kernel
theorem dX2_codeEndOf_7 : decode cX2_codeEndOf 7 = .ok (.if_icmp .ge 12, 3) := by decide +kernel
theorem dX2_codeEndOf_10 : decode cX2_codeEndOf 10 = .ok (.aload_n 0, 1) := by decide +kernel
theorem dX2_codeEndOf_11 : decode cX2_codeEndOf 11 = .ok (.getfield 20, 3) := by decide +kernel
theorem dX2_codeEndOf_14 : decode cX2_codeEndOf 14 = .ok (.iload_n 1, 1) := by decide +kernel
theorem dX2_codeEndOf_15 : decode cX2_codeEndOf 15 = .ok (.iaload, 1) := by decide +kernel
theorem dX2_codeEndOf_16 : decode cX2_codeEndOf 16 = .ok (.goto 4, 3) := by decide +kernel
theorem dX2_codeEndOf_19 : decode cX2_codeEndOf 19 = .ok (.iconst 0, 1) := by decide +kernel
theorem dX2_codeEndOf_20 : decode cX2_codeEndOf 20 = .ok (.ireturn, 1) := by decide +kernel
theorem dX2_holds_0 : decode cX2_holds 0 = .ok (.aload_n 0, 1) := by decide +kernel
theorem dX2_holds_1 : decode cX2_holds 1 = .ok (.iconst 0, 1) := by decide +kernel
theorem dX2_holds_2 : decode cX2_holds 2 = .ok (.putfield 36, 3) := by decide +kernel
theorem dX2_holds_5 : decode cX2_holds 5 = .ok (.aload_n 0, 1) := by decide +kernel
theorem dX2_holds_6 : decode cX2_holds 6 = .ok (.iload_n 1, 1) := by decide +kernel
theorem dX2_holds_7 : decode cX2_holds 7 = .ok (.invokevirtual 39, 3) := by decide +kernel
theorem dX2_holds_10 : decode cX2_holds 10 = .ok (.aload_n 0, 1) := by decide +kernel
theorem dX2_holds_11 : decode cX2_holds 11 = .ok (.getfield 23, 3) := by decide +kernel
theorem dX2_holds_14 : decode cX2_holds 14 = .ok (.arraylength, 1) := by decide +kernel
theorem dX2_holds_15 : decode cX2_holds 15 = .ok (.invokestatic 43, 3) := by decide +kernel
theorem dX2_holds_18 : decode cX2_holds 18 = .ok (.istore_n 3, 1) := by decide +kernel
theorem dX2_holds_19 : decode cX2_holds 19 = .ok (.iconst 0, 1) := by decide +kernel
theorem dX2_holds_20 : decode cX2_holds 20 = .ok (.aload_n 0, 1) := by decide +kernel
theorem dX2_holds_21 : decode cX2_holds 21 = .ok (.iload_n 1, 1) := by decide +kernel
theorem dX2_holds_22 : decode cX2_holds 22 = .ok (.iconst 1, 1) := by decide +kernel
theorem dX2_holds_23 : decode cX2_holds 23 = .ok (.isub, 1) := by decide +kernel
theorem dX2_holds_24 : decode cX2_holds 24 = .ok (.invokevirtual 39, 3) := by decide +kernel
theorem dX2_holds_27 : decode cX2_holds 27 = .ok (.invokestatic 49, 3) := by decide +kernel
theorem dX2_holds_30 : decode cX2_holds 30 = .ok (.istore 4, 2) := by decide +kernel
theorem dX2_holds_32 : decode cX2_holds 32 = .ok (.iload 4, 2) := by decide +kernel
theorem dX2_holds_34 : decode cX2_holds 34 = .ok (.istore 5, 2) := by decide +kernel
theorem dX2_holds_36 : decode cX2_holds 36 = .ok (.iload 5, 2) := by decide +kernel
theorem dX2_holds_38 : decode cX2_holds 38 = .ok (.iload_n 3, 1) := by decide +kernel
theorem dX2_holds_39 : decode cX2_holds 39 = .ok (.if_icmp .ge 21, 3) := by decide +kernel
theorem dX2_holds_42 : decode cX2_holds 42 = .ok (.aload_n 0, 1) := by decide +kernel
theorem dX2_holds_43 : decode cX2_holds 43 = .ok (.aload_n 0, 1) := by decide +kernel
theorem dX2_holds_44 : decode cX2_holds 44 = .ok (.getfield 23, 3) := by decide +kernel
theorem dX2_holds_47 : decode cX2_holds 47 = .ok (.iload 5, 2) := by decide +kernel
theorem dX2_holds_49 : decode cX2_holds 49 = .ok (.iaload, 1) := by decide +kernel
theorem dX2_holds_50 : decode cX2_holds 50 = .ok (.aload_n 2, 1) := by decide +kernel
theorem dX2_holds_51 : decode cX2_holds 51 = .ok (.invokevirtual 52, 3) := by decide +kernel
theorem dX2_holds_54 : decode cX2_holds 54 = .ok (.iinc 5 1, 3) := by decide +kernel
theorem dX2_holds_57 : decode cX2_holds 57 = .ok (.goto (-21), 3) := by decide +kernel
theorem dX2_holds_60 : decode cX2_holds 60 = .ok (.iload 4, 2) := by decide +kernel
theorem dX2_holds_62 : decode cX2_holds 62 = .ok (.iload_n 3, 1) := by decide +kernel
theorem dX2_holds_63 : decode cX2_holds 63 = .ok (.if_icmp .ge 10, 3) := by decide +kernel
theorem dX2_holds_66 : decode cX2_holds 66 = .ok (.aload_n 0, 1) := by decide +kernel
theorem dX2_holds_67 : decode cX2_holds 67 = .ok (.invokevirtual 56, 3) := by decide +kernel
theorem dX2_holds_70 : decode cX2_holds 70 = .ok (.ifCond .eq 7, 3) := by decide +kernel
theorem dX2_holds_73 : decode cX2_holds 73 = .ok (.iconst 1, 1) := by decide +kernel
theorem dX2_holds_74 : decode cX2_holds 74 = .ok (.goto 4, 3) := by decide +kernel
theorem dX2_holds_77 : decode cX2_holds 77 = .ok (.iconst 0, 1) := by decide +kernel
theorem dX2_holds_78 : decode cX2_holds 78 = .ok (.ireturn, 1) := by decide +kernel
theorem dX2_doStep_0 : decode cX2_doStep 0 = .ok (.iload_n 1, 1) := by decide +kernel
theorem dX2_doStep_1 : decode cX2_doStep 1 = .ok (.ifCond .lt 11, 3) := by decide +kernel
theorem dX2_doStep_4 : decode cX2_doStep 4 = .ok (.aload_n 0, 1) := by decide +kernel
theorem dX2_doStep_5 : decode cX2_doStep 5 = .ok (.iload_n 1, 1) := by decide +kernel
theorem dX2_doStep_6 : decode cX2_doStep 6 = .ok (.invokevirtual 60, 3) := by decide +kernel
theorem dX2_doStep_9 : decode cX2_doStep 9 = .ok (.goto 68, 3) := by decide +kernel
theorem dX2_doStep_12 : decode cX2_doStep 12 = .ok (.iload_n 1, 1) := by decide +kernel
theorem dX2_doStep_13 : decode cX2_doStep 13 = .ok (.bipush (-5), 2) := by decide +kernel
theorem dX2_doStep_15 : decode cX2_doStep 15 = .ok (.if_icmp .lt 15, 3) := by decide +kernel
theorem dX2_doStep_18 : decode cX2_doStep 18 = .ok (.aload_n 0, 1) := by decide +kernel
theorem dX2_doStep_19 : decode cX2_doStep 19 = .ok (.aload_n 2, 1) := by decide +kernel
theorem dX2_doStep_20 : decode cX2_doStep 20 = .ok (.iload_n 1, 1) := by decide +kernel
theorem dX2_doStep_21 : decode cX2_doStep 21 = .ok (.invokevirtual 64, 3) := by decide +kernel
theorem dX2_doStep_24 : decode cX2_doStep 24 = .ok (.invokevirtual 60, 3) := by decide +kernel
theorem dX2_doStep_27 : decode cX2_doStep 27 = .ok (.goto 50, 3) := by decide +kernel
theorem dX2_doStep_30 : decode cX2_doStep 30 = .ok (.iload_n 1, 1) := by decide +kernel
theorem dX2_doStep_31 : decode cX2_doStep 31 = .ok (.bipush (-6), 2) := by decide +kernel
theorem dX2_doStep_33 : decode cX2_doStep 33 = .ok (.if_icmp .ne 22, 3) := by decide +kernel
theorem dX2_doStep_36 : decode cX2_doStep 36 = .ok (.aload_n 0, 1) := by decide +kernel
theorem dX2_doStep_37 : decode cX2_doStep 37 = .ok (.aload_n 0, 1) := by decide +kernel
theorem dX2_doStep_38 : decode cX2_doStep 38 = .ok (.invokevirtual 56, 3) := by decide +kernel
theorem dX2_doStep_41 : decode cX2_doStep 41 = .ok (.ifCond .ne 7, 3) := by decide +kernel
theorem dX2_doStep_44 : decode cX2_doStep 44 = .ok (.iconst 1, 1) := by decide +kernel
theorem dX2_doStep_45 : decode cX2_doStep 45 = .ok (.goto 4, 3) := by decide +kernel
theorem dX2_doStep_48 : decode cX2_doStep 48 = .ok (.iconst 0, 1) := by decide +kernel
theorem dX2_doStep_49 : decode cX2_doStep 49 = .ok (.invokevirtual 60, 3) := by decide +kernel
theorem dX2_doStep_52 : decode cX2_doStep 52 = .ok (.goto 25, 3) := by decide +kernel
theorem dX2_doStep_55 : decode cX2_doStep 55 = .ok (.aload_n 0, 1) := by decide +kernel
theorem dX2_doStep_56 : decode cX2_doStep 56 = .ok (.invokevirtual 56, 3) := by decide +kernel
theorem dX2_doStep_59 : decode cX2_doStep 59 = .ok (.istore_n 3, 1) := by decide +kernel
theorem dX2_doStep_60 : decode cX2_doStep 60 = .ok (.aload_n 0, 1) := by decide +kernel
theorem dX2_doStep_61 : decode cX2_doStep 61 = .ok (.invokevirtual 56, 3) := by decide +kernel
theorem dX2_doStep_64 : decode cX2_doStep 64 = .ok (.istore 4, 2) := by decide +kernel
theorem dX2_doStep_66 : decode cX2_doStep 66 = .ok (.aload_n 0, 1) := by decide +kernel
theorem dX2_doStep_67 : decode cX2_doStep 67 = .ok (.iload_n 1, 1) := by decide +kernel
theorem dX2_doStep_68 : decode cX2_doStep 68 = .ok (.iload 4, 2) := by decide +kernel
theorem dX2_doStep_70 : decode cX2_doStep 70 = .ok (.iload_n 3, 1) := by decide +kernel
theorem dX2_doStep_71 : decode cX2_doStep 71 = .ok (.invokestatic 69, 3) := by decide +kernel
theorem dX2_doStep_74 : decode cX2_doStep 74 = .ok (.invokevirtual 60, 3) := by decide +kernel
theorem dX2_doStep_77 : decode cX2_doStep 77 = .ok (.return_, 1) := by decide +kernel
theorem dX2_joined_0 : decode cX2_joined 0 = .ok (.iload_n 0, 1) := by decide +kernel
theorem dX2_joined_1 : decode cX2_joined 1 = .ok (.tableswitch 92 (-13) (-7) #[88, 84, 73, 62, 51, 47, 43], 43) := by decide +kernel
theorem dX2_joined_44 : decode cX2_joined 44 = .ok (.iload_n 1, 1) := by decide +kernel
theorem dX2_joined_45 : decode cX2_joined 45 = .ok (.iload_n 2, 1) := by decide +kernel
theorem dX2_joined_46 : decode cX2_joined 46 = .ok (.iand, 1) := by decide +kernel
theorem dX2_joined_47 : decode cX2_joined 47 = .ok (.ireturn, 1) := by decide +kernel
theorem dX2_joined_48 : decode cX2_joined 48 = .ok (.iload_n 1, 1) := by decide +kernel
theorem dX2_joined_49 : decode cX2_joined 49 = .ok (.iload_n 2, 1) := by decide +kernel
theorem dX2_joined_50 : decode cX2_joined 50 = .ok (.ior, 1) := by decide +kernel
theorem dX2_joined_51 : decode cX2_joined 51 = .ok (.ireturn, 1) := by decide +kernel
theorem dX2_joined_52 : decode cX2_joined 52 = .ok (.iload_n 1, 1) := by decide +kernel
theorem dX2_joined_53 : decode cX2_joined 53 = .ok (.iload_n 2, 1) := by decide +kernel
theorem dX2_joined_54 : decode cX2_joined 54 = .ok (.if_icmp .ge 7, 3) := by decide +kernel
theorem dX2_joined_57 : decode cX2_joined 57 = .ok (.iconst 1, 1) := by decide +kernel
theorem dX2_joined_58 : decode cX2_joined 58 = .ok (.goto 4, 3) := by decide +kernel
theorem dX2_joined_61 : decode cX2_joined 61 = .ok (.iconst 0, 1) := by decide +kernel
theorem dX2_joined_62 : decode cX2_joined 62 = .ok (.ireturn, 1) := by decide +kernel
theorem dX2_joined_63 : decode cX2_joined 63 = .ok (.iload_n 1, 1) := by decide +kernel
theorem dX2_joined_64 : decode cX2_joined 64 = .ok (.iload_n 2, 1) := by decide +kernel
theorem dX2_joined_65 : decode cX2_joined 65 = .ok (.if_icmp .le 7, 3) := by decide +kernel
theorem dX2_joined_68 : decode cX2_joined 68 = .ok (.iconst 1, 1) := by decide +kernel
theorem dX2_joined_69 : decode cX2_joined 69 = .ok (.goto 4, 3) := by decide +kernel
theorem dX2_joined_72 : decode cX2_joined 72 = .ok (.iconst 0, 1) := by decide +kernel
theorem dX2_joined_73 : decode cX2_joined 73 = .ok (.ireturn, 1) := by decide +kernel
theorem dX2_joined_74 : decode cX2_joined 74 = .ok (.iload_n 1, 1) := by decide +kernel
theorem dX2_joined_75 : decode cX2_joined 75 = .ok (.iload_n 2, 1) := by decide +kernel
theorem dX2_joined_76 : decode cX2_joined 76 = .ok (.if_icmp .ne 7, 3) := by decide +kernel
theorem dX2_joined_79 : decode cX2_joined 79 = .ok (.iconst 1, 1) := by decide +kernel
theorem dX2_joined_80 : decode cX2_joined 80 = .ok (.goto 4, 3) := by decide +kernel
theorem dX2_joined_83 : decode cX2_joined 83 = .ok (.iconst 0, 1) := by decide +kernel
theorem dX2_joined_84 : decode cX2_joined 84 = .ok (.ireturn, 1) := by decide +kernel
theorem dX2_joined_85 : decode cX2_joined 85 = .ok (.iload_n 1, 1) := by decide +kernel
theorem dX2_joined_86 : decode cX2_joined 86 = .ok (.iload_n 2, 1) := by decide +kernel
theorem dX2_joined_87 : decode cX2_joined 87 = .ok (.iadd, 1) := by decide +kernel
theorem dX2_joined_88 : decode cX2_joined 88 = .ok (.ireturn, 1) := by decide +kernel
theorem dX2_joined_89 : decode cX2_joined 89 = .ok (.iload_n 1, 1) := by decide +kernel
theorem dX2_joined_90 : decode cX2_joined 90 = .ok (.iload_n 2, 1) := by decide +kernel
theorem dX2_joined_91 : decode cX2_joined 91 = .ok (.isub, 1) := by decide +kernel
theorem dX2_joined_92 : decode cX2_joined 92 = .ok (.ireturn, 1) := by decide +kernel
theorem dX2_joined_93 : decode cX2_joined 93 = .ok (.iconst 0, 1) := by decide +kernel
theorem dX2_joined_94 : decode cX2_joined 94 = .ok (.ireturn, 1) := by decide +kernel
theorem dX2_push_0 : decode cX2_push 0 = .ok (.aload_n 0, 1) := by decide +kernel
theorem dX2_push_1 : decode cX2_push 1 = .ok (.getfield 36, 3) := by decide +kernel
theorem dX2_push_4 : decode cX2_push 4 = .ok (.ifCond .lt 35, 3) := by decide +kernel
theorem dX2_push_7 : decode cX2_push 7 = .ok (.aload_n 0, 1) := by decide +kernel
theorem dX2_push_8 : decode cX2_push 8 = .ok (.getfield 36, 3) := by decide +kernel
theorem dX2_push_11 : decode cX2_push 11 = .ok (.aload_n 0, 1) := by decide +kernel
theorem dX2_push_12 : decode cX2_push 12 = .ok (.getfield 26, 3) := by decide +kernel
theorem dX2_push_15 : decode cX2_push 15 = .ok (.arraylength, 1) := by decide +kernel
theorem dX2_push_16 : decode cX2_push 16 = .ok (.if_icmp .ge 23, 3) := by decide +kernel
theorem dX2_push_19 : decode cX2_push 19 = .ok (.aload_n 0, 1) := by decide +kernel
theorem dX2_push_20 : decode cX2_push 20 = .ok (.getfield 26, 3) := by decide +kernel
theorem dX2_push_23 : decode cX2_push 23 = .ok (.aload_n 0, 1) := by decide +kernel
theorem dX2_push_24 : decode cX2_push 24 = .ok (.getfield 36, 3) := by decide +kernel
theorem dX2_push_27 : decode cX2_push 27 = .ok (.iload_n 1, 1) := by decide +kernel
theorem dX2_push_28 : decode cX2_push 28 = .ok (.iastore, 1) := by decide +kernel
theorem dX2_push_29 : decode cX2_push 29 = .ok (.aload_n 0, 1) := by decide +kernel
theorem dX2_push_30 : decode cX2_push 30 = .ok (.dup, 1) := by decide +kernel
theorem dX2_push_31 : decode cX2_push 31 = .ok (.getfield 36, 3) := by decide +kernel
theorem dX2_push_34 : decode cX2_push 34 = .ok (.iconst 1, 1) := by decide +kernel
theorem dX2_push_35 : decode cX2_push 35 = .ok (.iadd, 1) := by decide +kernel
theorem dX2_push_36 : decode cX2_push 36 = .ok (.putfield 36, 3) := by decide +kernel
theorem dX2_push_39 : decode cX2_push 39 = .ok (.return_, 1) := by decide +kernel
theorem dX2_pop_0 : decode cX2_pop 0 = .ok (.aload_n 0, 1) := by decide +kernel
theorem dX2_pop_1 : decode cX2_pop 1 = .ok (.getfield 36, 3) := by decide +kernel
theorem dX2_pop_4 : decode cX2_pop 4 = .ok (.ifCond .le 15, 3) := by decide +kernel
theorem dX2_pop_7 : decode cX2_pop 7 = .ok (.aload_n 0, 1) := by decide +kernel
theorem dX2_pop_8 : decode cX2_pop 8 = .ok (.getfield 36, 3) := by decide +kernel
theorem dX2_pop_11 : decode cX2_pop 11 = .ok (.aload_n 0, 1) := by decide +kernel
theorem dX2_pop_12 : decode cX2_pop 12 = .ok (.getfield 26, 3) := by decide +kernel
theorem dX2_pop_15 : decode cX2_pop 15 = .ok (.arraylength, 1) := by decide +kernel
theorem dX2_pop_16 : decode cX2_pop 16 = .ok (.if_icmp .le 5, 3) := by decide +kernel
theorem dX2_pop_19 : decode cX2_pop 19 = .ok (.iconst 0, 1) := by decide +kernel
theorem dX2_pop_20 : decode cX2_pop 20 = .ok (.ireturn, 1) := by decide +kernel
end
section
theorem dX2_pop_21 : decode cX2_pop 21 = .ok (.aload_n 0, 1) := by decide +kernel
theorem dX2_pop_22 : decode cX2_pop 22 = .ok (.dup, 1) := by decide +kernel
theorem dX2_pop_23 : decode cX2_pop 23 = .ok (.getfield 36, 3) := by decide +kernel
theorem dX2_pop_26 : decode cX2_pop 26 = .ok (.iconst 1, 1) := by decide +kernel
theorem dX2_pop_27 : decode cX2_pop 27 = .ok (.isub, 1) := by decide +kernel
theorem dX2_pop_28 : decode cX2_pop 28 = .ok (.putfield 36, 3) := by decide +kernel
theorem dX2_pop_31 : decode cX2_pop 31 = .ok (.aload_n 0, 1) := by decide +kernel
theorem dX2_pop_32 : decode cX2_pop 32 = .ok (.getfield 26, 3) := by decide +kernel
theorem dX2_pop_35 : decode cX2_pop 35 = .ok (.aload_n 0, 1) := by decide +kernel
theorem dX2_pop_36 : decode cX2_pop 36 = .ok (.getfield 36, 3) := by decide +kernel
theorem dX2_pop_39 : decode cX2_pop 39 = .ok (.iaload, 1) := by decide +kernel
theorem dX2_pop_40 : decode cX2_pop 40 = .ok (.ireturn, 1) := by decide +kernel
theorem dX3_init_0 : decode cX3_init 0 = .ok (.aload_n 0, 1) := by decide +kernel
theorem dX3_init_1 : decode cX3_init 1 = .ok (.invokespecial 3, 3) := by decide +kernel
theorem dX3_init_4 : decode cX3_init 4 = .ok (.aload_n 0, 1) := by decide +kernel
theorem dX3_init_5 : decode cX3_init 5 = .ok (.sipush 301, 3) := by decide +kernel
theorem dX3_init_8 : decode cX3_init 8 = .ok (.newarray .int, 2) := by decide +kernel
theorem dX3_init_10 : decode cX3_init 10 = .ok (.putfield 11, 3) := by decide +kernel
theorem dX3_init_13 : decode cX3_init 13 = .ok (.aload_n 0, 1) := by decide +kernel
theorem dX3_init_14 : decode cX3_init 14 = .ok (.sipush 301, 3) := by decide +kernel
theorem dX3_init_17 : decode cX3_init 17 = .ok (.newarray .int, 2) := by decide +kernel
theorem dX3_init_19 : decode cX3_init 19 = .ok (.putfield 15, 3) := by decide +kernel
theorem dX3_init_22 : decode cX3_init 22 = .ok (.aload_n 0, 1) := by decide +kernel
theorem dX3_init_23 : decode cX3_init 23 = .ok (.sipush 301, 3) := by decide +kernel
theorem dX3_init_26 : decode cX3_init 26 = .ok (.newarray .int, 2) := by decide +kernel
theorem dX3_init_28 : decode cX3_init 28 = .ok (.putfield 18, 3) := by decide +kernel
theorem dX3_init_31 : decode cX3_init 31 = .ok (.aload_n 0, 1) := by decide +kernel
theorem dX3_init_32 : decode cX3_init 32 = .ok (.sipush 301, 3) := by decide +kernel
theorem dX3_init_35 : decode cX3_init 35 = .ok (.newarray .int, 2) := by decide +kernel
theorem dX3_init_37 : decode cX3_init 37 = .ok (.putfield 21, 3) := by decide +kernel
theorem dX3_init_40 : decode cX3_init 40 = .ok (.aload_n 0, 1) := by decide +kernel
theorem dX3_init_41 : decode cX3_init 41 = .ok (.sipush 301, 3) := by decide +kernel
theorem dX3_init_44 : decode cX3_init 44 = .ok (.newarray .int, 2) := by decide +kernel
theorem dX3_init_46 : decode cX3_init 46 = .ok (.putfield 24, 3) := by decide +kernel
theorem dX3_init_49 : decode cX3_init 49 = .ok (.aload_n 0, 1) := by decide +kernel
theorem dX3_init_50 : decode cX3_init 50 = .ok (.iconst 0, 1) := by decide +kernel
theorem dX3_init_51 : decode cX3_init 51 = .ok (.putfield 27, 3) := by decide +kernel
theorem dX3_init_54 : decode cX3_init 54 = .ok (.return_, 1) := by decide +kernel
theorem dX3_firstFault_0 : decode cX3_firstFault 0 = .ok (.iconst 0, 1) := by decide +kernel
theorem dX3_firstFault_1 : decode cX3_firstFault 1 = .ok (.istore_n 1, 1) := by decide +kernel
theorem dX3_firstFault_2 : decode cX3_firstFault 2 = .ok (.iload_n 1, 1) := by decide +kernel
theorem dX3_firstFault_3 : decode cX3_firstFault 3 = .ok (.aload_n 0, 1) := by decide +kernel
theorem dX3_firstFault_4 : decode cX3_firstFault 4 = .ok (.getfield 31, 3) := by decide +kernel
theorem dX3_firstFault_7 : decode cX3_firstFault 7 = .ok (.if_icmp .ge 29, 3) := by decide +kernel
theorem dX3_firstFault_10 : decode cX3_firstFault 10 = .ok (.iload_n 1, 1) := by decide +kernel
theorem dX3_firstFault_11 : decode cX3_firstFault 11 = .ok (.sipush 300, 3) := by decide +kernel
theorem dX3_firstFault_14 : decode cX3_firstFault 14 = .ok (.if_icmp .ge 14, 3) := by decide +kernel
theorem dX3_firstFault_17 : decode cX3_firstFault 17 = .ok (.aload_n 0, 1) := by decide +kernel
theorem dX3_firstFault_18 : decode cX3_firstFault 18 = .ok (.iload_n 1, 1) := by decide +kernel
theorem dX3_firstFault_19 : decode cX3_firstFault 19 = .ok (.invokevirtual 36, 3) := by decide +kernel
theorem dX3_firstFault_22 : decode cX3_firstFault 22 = .ok (.invokestatic 40, 3) := by decide +kernel
theorem dX3_firstFault_25 : decode cX3_firstFault 25 = .ok (.ifCond .ne 5, 3) := by decide +kernel
theorem dX3_firstFault_28 : decode cX3_firstFault 28 = .ok (.iload_n 1, 1) := by decide +kernel
theorem dX3_firstFault_29 : decode cX3_firstFault 29 = .ok (.ireturn, 1) := by decide +kernel
theorem dX3_firstFault_30 : decode cX3_firstFault 30 = .ok (.iinc 1 1, 3) := by decide +kernel
theorem dX3_firstFault_33 : decode cX3_firstFault 33 = .ok (.goto (-31), 3) := by decide +kernel
theorem dX3_firstFault_36 : decode cX3_firstFault 36 = .ok (.iconst (-1), 1) := by decide +kernel
theorem dX3_firstFault_37 : decode cX3_firstFault 37 = .ok (.ireturn, 1) := by decide +kernel
theorem dX3_isMark_0 : decode cX3_isMark 0 = .ok (.iload_n 0, 1) := by decide +kernel
theorem dX3_isMark_1 : decode cX3_isMark 1 = .ok (.bipush 46, 2) := by decide +kernel
theorem dX3_isMark_3 : decode cX3_isMark 3 = .ok (.if_icmp .eq 27, 3) := by decide +kernel
theorem dX3_isMark_6 : decode cX3_isMark 6 = .ok (.iload_n 0, 1) := by decide +kernel
theorem dX3_isMark_7 : decode cX3_isMark 7 = .ok (.bipush 107, 2) := by decide +kernel
theorem dX3_isMark_9 : decode cX3_isMark 9 = .ok (.if_icmp .eq 21, 3) := by decide +kernel
theorem dX3_isMark_12 : decode cX3_isMark 12 = .ok (.iload_n 0, 1) := by decide +kernel
theorem dX3_isMark_13 : decode cX3_isMark 13 = .ok (.bipush 115, 2) := by decide +kernel
theorem dX3_isMark_15 : decode cX3_isMark 15 = .ok (.if_icmp .eq 15, 3) := by decide +kernel
theorem dX3_isMark_18 : decode cX3_isMark 18 = .ok (.iload_n 0, 1) := by decide +kernel
theorem dX3_isMark_19 : decode cX3_isMark 19 = .ok (.bipush 111, 2) := by decide +kernel
theorem dX3_isMark_21 : decode cX3_isMark 21 = .ok (.if_icmp .eq 9, 3) := by decide +kernel
theorem dX3_isMark_24 : decode cX3_isMark 24 = .ok (.iload_n 0, 1) := by decide +kernel
theorem dX3_isMark_25 : decode cX3_isMark 25 = .ok (.bipush 112, 2) := by decide +kernel
theorem dX3_isMark_27 : decode cX3_isMark 27 = .ok (.if_icmp .ne 7, 3) := by decide +kernel
theorem dX3_isMark_30 : decode cX3_isMark 30 = .ok (.iconst 1, 1) := by decide +kernel
theorem dX3_isMark_31 : decode cX3_isMark 31 = .ok (.goto 4, 3) := by decide +kernel
theorem dX3_isMark_34 : decode cX3_isMark 34 = .ok (.iconst 0, 1) := by decide +kernel
theorem dX3_isMark_35 : decode cX3_isMark 35 = .ok (.ireturn, 1) := by decide +kernel
theorem dX3_take_0 : decode cX3_take 0 = .ok (.aload_n 0, 1) := by decide +kernel
theorem dX3_take_1 : decode cX3_take 1 = .ok (.aload_n 1, 1) := by decide +kernel
theorem dX3_take_2 : decode cX3_take 2 = .ok (.getfield 31, 3) := by decide +kernel
theorem dX3_take_5 : decode cX3_take 5 = .ok (.sipush 300, 3) := by decide +kernel
theorem dX3_take_8 : decode cX3_take 8 = .ok (.invokestatic 44, 3) := by decide +kernel
theorem dX3_take_11 : decode cX3_take 11 = .ok (.putfield 27, 3) := by decide +kernel
theorem dX3_take_14 : decode cX3_take 14 = .ok (.iconst 0, 1) := by decide +kernel
theorem dX3_take_15 : decode cX3_take 15 = .ok (.istore_n 2, 1) := by decide +kernel
theorem dX3_take_16 : decode cX3_take 16 = .ok (.iload_n 2, 1) := by decide +kernel
theorem dX3_take_17 : decode cX3_take 17 = .ok (.aload_n 0, 1) := by decide +kernel
theorem dX3_take_18 : decode cX3_take 18 = .ok (.getfield 27, 3) := by decide +kernel
theorem dX3_take_21 : decode cX3_take 21 = .ok (.if_icmp .ge 145, 3) := by decide +kernel
theorem dX3_take_24 : decode cX3_take 24 = .ok (.aload_n 1, 1) := by decide +kernel
theorem dX3_take_25 : decode cX3_take 25 = .ok (.iload_n 2, 1) := by decide +kernel
theorem dX3_take_26 : decode cX3_take 26 = .ok (.invokevirtual 36, 3) := by decide +kernel
theorem dX3_take_29 : decode cX3_take 29 = .ok (.istore_n 3, 1) := by decide +kernel
theorem dX3_take_30 : decode cX3_take 30 = .ok (.aload_n 0, 1) := by decide +kernel
theorem dX3_take_31 : decode cX3_take 31 = .ok (.getfield 11, 3) := by decide +kernel
theorem dX3_take_34 : decode cX3_take 34 = .ok (.iload_n 2, 1) := by decide +kernel
theorem dX3_take_35 : decode cX3_take 35 = .ok (.iconst 1, 1) := by decide +kernel
theorem dX3_take_36 : decode cX3_take 36 = .ok (.iadd, 1) := by decide +kernel
theorem dX3_take_37 : decode cX3_take 37 = .ok (.aload_n 0, 1) := by decide +kernel
theorem dX3_take_38 : decode cX3_take 38 = .ok (.getfield 11, 3) := by decide +kernel
theorem dX3_take_41 : decode cX3_take 41 = .ok (.iload_n 2, 1) := by decide +kernel
theorem dX3_take_42 : decode cX3_take 42 = .ok (.iaload, 1) := by decide +kernel
theorem dX3_take_43 : decode cX3_take 43 = .ok (.iload_n 3, 1) := by decide +kernel
theorem dX3_take_44 : decode cX3_take 44 = .ok (.bipush 107, 2) := by decide +kernel
theorem dX3_take_46 : decode cX3_take 46 = .ok (.if_icmp .ne 7, 3) := by decide +kernel
theorem dX3_take_49 : decode cX3_take 49 = .ok (.iconst 1, 1) := by decide +kernel
theorem dX3_take_50 : decode cX3_take 50 = .ok (.goto 4, 3) := by decide +kernel
theorem dX3_take_53 : decode cX3_take 53 = .ok (.iconst 0, 1) := by decide +kernel
theorem dX3_take_54 : decode cX3_take 54 = .ok (.iadd, 1) := by decide +kernel
theorem dX3_take_55 : decode cX3_take 55 = .ok (.iastore, 1) := by decide +kernel
theorem dX3_take_56 : decode cX3_take 56 = .ok (.aload_n 0, 1) := by decide +kernel
theorem dX3_take_57 : decode cX3_take 57 = .ok (.getfield 15, 3) := by decide +kernel
theorem dX3_take_60 : decode cX3_take 60 = .ok (.iload_n 2, 1) := by decide +kernel
theorem dX3_take_61 : decode cX3_take 61 = .ok (.iconst 1, 1) := by decide +kernel
theorem dX3_take_62 : decode cX3_take 62 = .ok (.iadd, 1) := by decide +kernel
theorem dX3_take_63 : decode cX3_take 63 = .ok (.aload_n 0, 1) := by decide +kernel
theorem dX3_take_64 : decode cX3_take 64 = .ok (.getfield 15, 3) := by decide +kernel
theorem dX3_take_67 : decode cX3_take 67 = .ok (.iload_n 2, 1) := by decide +kernel
theorem dX3_take_68 : decode cX3_take 68 = .ok (.iaload, 1) := by decide +kernel
theorem dX3_take_69 : decode cX3_take 69 = .ok (.iload_n 3, 1) := by decide +kernel
theorem dX3_take_70 : decode cX3_take 70 = .ok (.bipush 115, 2) := by decide +kernel
theorem dX3_take_72 : decode cX3_take 72 = .ok (.if_icmp .ne 7, 3) := by decide +kernel
theorem dX3_take_75 : decode cX3_take 75 = .ok (.iconst 1, 1) := by decide +kernel
theorem dX3_take_76 : decode cX3_take 76 = .ok (.goto 4, 3) := by decide +kernel
theorem dX3_take_79 : decode cX3_take 79 = .ok (.iconst 0, 1) := by decide +kernel
theorem dX3_take_80 : decode cX3_take 80 = .ok (.iadd, 1) := by decide +kernel
theorem dX3_take_81 : decode cX3_take 81 = .ok (.iastore, 1) := by decide +kernel
theorem dX3_take_82 : decode cX3_take 82 = .ok (.aload_n 0, 1) := by decide +kernel
theorem dX3_take_83 : decode cX3_take 83 = .ok (.getfield 18, 3) := by decide +kernel
theorem dX3_take_86 : decode cX3_take 86 = .ok (.iload_n 2, 1) := by decide +kernel
theorem dX3_take_87 : decode cX3_take 87 = .ok (.iconst 1, 1) := by decide +kernel
theorem dX3_take_88 : decode cX3_take 88 = .ok (.iadd, 1) := by decide +kernel
theorem dX3_take_89 : decode cX3_take 89 = .ok (.aload_n 0, 1) := by decide +kernel
theorem dX3_take_90 : decode cX3_take 90 = .ok (.getfield 18, 3) := by decide +kernel
theorem dX3_take_93 : decode cX3_take 93 = .ok (.iload_n 2, 1) := by decide +kernel
theorem dX3_take_94 : decode cX3_take 94 = .ok (.iaload, 1) := by decide +kernel
theorem dX3_take_95 : decode cX3_take 95 = .ok (.iload_n 3, 1) := by decide +kernel
theorem dX3_take_96 : decode cX3_take 96 = .ok (.bipush 111, 2) := by decide +kernel
theorem dX3_take_98 : decode cX3_take 98 = .ok (.if_icmp .ne 7, 3) := by decide +kernel
theorem dX3_take_101 : decode cX3_take 101 = .ok (.iconst 1, 1) := by decide +kernel
theorem dX3_take_102 : decode cX3_take 102 = .ok (.goto 4, 3) := by decide +kernel
theorem dX3_take_105 : decode cX3_take 105 = .ok (.iconst 0, 1) := by decide +kernel
theorem dX3_take_106 : decode cX3_take 106 = .ok (.iadd, 1) := by decide +kernel
theorem dX3_take_107 : decode cX3_take 107 = .ok (.iastore, 1) := by decide +kernel
theorem dX3_take_108 : decode cX3_take 108 = .ok (.aload_n 0, 1) := by decide +kernel
theorem dX3_take_109 : decode cX3_take 109 = .ok (.getfield 21, 3) := by decide +kernel
theorem dX3_take_112 : decode cX3_take 112 = .ok (.iload_n 2, 1) := by decide +kernel
theorem dX3_take_113 : decode cX3_take 113 = .ok (.iconst 1, 1) := by decide +kernel
theorem dX3_take_114 : decode cX3_take 114 = .ok (.iadd, 1) := by decide +kernel
theorem dX3_take_115 : decode cX3_take 115 = .ok (.aload_n 0, 1) := by decide +kernel
theorem dX3_take_116 : decode cX3_take 116 = .ok (.getfield 21, 3) := by decide +kernel
theorem dX3_take_119 : decode cX3_take 119 = .ok (.iload_n 2, 1) := by decide +kernel
theorem dX3_take_120 : decode cX3_take 120 = .ok (.iaload, 1) := by decide +kernel
theorem dX3_take_121 : decode cX3_take 121 = .ok (.iload_n 3, 1) := by decide +kernel
theorem dX3_take_122 : decode cX3_take 122 = .ok (.bipush 112, 2) := by decide +kernel
theorem dX3_take_124 : decode cX3_take 124 = .ok (.if_icmp .ne 7, 3) := by decide +kernel
theorem dX3_take_127 : decode cX3_take 127 = .ok (.iconst 1, 1) := by decide +kernel
theorem dX3_take_128 : decode cX3_take 128 = .ok (.goto 4, 3) := by decide +kernel
theorem dX3_take_131 : decode cX3_take 131 = .ok (.iconst 0, 1) := by decide +kernel
theorem dX3_take_132 : decode cX3_take 132 = .ok (.iadd, 1) := by decide +kernel
theorem dX3_take_133 : decode cX3_take 133 = .ok (.iastore, 1) := by decide +kernel
theorem dX3_take_134 : decode cX3_take 134 = .ok (.aload_n 0, 1) := by decide +kernel
theorem dX3_take_135 : decode cX3_take 135 = .ok (.getfield 24, 3) := by decide +kernel
theorem dX3_take_138 : decode cX3_take 138 = .ok (.iload_n 2, 1) := by decide +kernel
theorem dX3_take_139 : decode cX3_take 139 = .ok (.iconst 1, 1) := by decide +kernel
theorem dX3_take_140 : decode cX3_take 140 = .ok (.iadd, 1) := by decide +kernel
theorem dX3_take_141 : decode cX3_take 141 = .ok (.iload_n 3, 1) := by decide +kernel
theorem dX3_take_142 : decode cX3_take 142 = .ok (.bipush 46, 2) := by decide +kernel
theorem dX3_take_144 : decode cX3_take 144 = .ok (.if_icmp .ne 14, 3) := by decide +kernel
theorem dX3_take_147 : decode cX3_take 147 = .ok (.aload_n 0, 1) := by decide +kernel
theorem dX3_take_148 : decode cX3_take 148 = .ok (.getfield 24, 3) := by decide +kernel
theorem dX3_take_151 : decode cX3_take 151 = .ok (.iload_n 2, 1) := by decide +kernel
theorem dX3_take_152 : decode cX3_take 152 = .ok (.iaload, 1) := by decide +kernel
theorem dX3_take_153 : decode cX3_take 153 = .ok (.iconst 1, 1) := by decide +kernel
theorem dX3_take_154 : decode cX3_take 154 = .ok (.iadd, 1) := by decide +kernel
theorem dX3_take_155 : decode cX3_take 155 = .ok (.goto 4, 3) := by decide +kernel
theorem dX3_take_158 : decode cX3_take 158 = .ok (.iconst 0, 1) := by decide +kernel
theorem dX3_take_159 : decode cX3_take 159 = .ok (.iastore, 1) := by decide +kernel
theorem dX3_take_160 : decode cX3_take 160 = .ok (.iinc 2 1, 3) := by decide +kernel
theorem dX3_take_163 : decode cX3_take 163 = .ok (.goto (-147), 3) := by decide +kernel
theorem dX3_take_166 : decode cX3_take 166 = .ok (.return_, 1) := by decide +kernel
theorem dX3_listRuns_0 : decode cX3_listRuns 0 = .ok (.iconst 0, 1) := by decide +kernel
theorem dX3_listRuns_1 : decode cX3_listRuns 1 = .ok (.istore_n 3, 1) := by decide +kernel
theorem dX3_listRuns_2 : decode cX3_listRuns 2 = .ok (.iconst 1, 1) := by decide +kernel
theorem dX3_listRuns_3 : decode cX3_listRuns 3 = .ok (.istore 4, 2) := by decide +kernel
theorem dX3_listRuns_5 : decode cX3_listRuns 5 = .ok (.iload_n 1, 1) := by decide +kernel
theorem dX3_listRuns_6 : decode cX3_listRuns 6 = .ok (.ifCond .lt 51, 3) := by decide +kernel
theorem dX3_listRuns_9 : decode cX3_listRuns 9 = .ok (.iload_n 1, 1) := by decide +kernel
theorem dX3_listRuns_10 : decode cX3_listRuns 10 = .ok (.iload 4, 2) := by decide +kernel
theorem dX3_listRuns_12 : decode cX3_listRuns 12 = .ok (.iadd, 1) := by decide +kernel
theorem dX3_listRuns_13 : decode cX3_listRuns 13 = .ok (.aload_n 0, 1) := by decide +kernel
theorem dX3_listRuns_14 : decode cX3_listRuns 14 = .ok (.getfield 27, 3) := by decide +kernel
theorem dX3_listRuns_17 : decode cX3_listRuns 17 = .ok (.if_icmp .gt 40, 3) := by decide +kernel
theorem dX3_listRuns_20 : decode cX3_listRuns 20 = .ok (.iload 4, 2) := by decide +kernel
theorem dX3_listRuns_22 : decode cX3_listRuns 22 = .ok (.aload_n 2, 1) := by decide +kernel
theorem dX3_listRuns_23 : decode cX3_listRuns 23 = .ok (.arraylength, 1) := by decide +kernel
theorem dX3_listRuns_24 : decode cX3_listRuns 24 = .ok (.if_icmp .ge 33, 3) := by decide +kernel
theorem dX3_listRuns_27 : decode cX3_listRuns 27 = .ok (.iload_n 3, 1) := by decide +kernel
theorem dX3_listRuns_28 : decode cX3_listRuns 28 = .ok (.iload 4, 2) := by decide +kernel
theorem dX3_listRuns_30 : decode cX3_listRuns 30 = .ok (.aload_n 0, 1) := by decide +kernel
theorem dX3_listRuns_31 : decode cX3_listRuns 31 = .ok (.getfield 24, 3) := by decide +kernel
theorem dX3_listRuns_34 : decode cX3_listRuns 34 = .ok (.iload_n 1, 1) := by decide +kernel
theorem dX3_listRuns_35 : decode cX3_listRuns 35 = .ok (.iload 4, 2) := by decide +kernel
theorem dX3_listRuns_37 : decode cX3_listRuns 37 = .ok (.iadd, 1) := by decide +kernel
theorem dX3_listRuns_38 : decode cX3_listRuns 38 = .ok (.iaload, 1) := by decide +kernel
theorem dX3_listRuns_39 : decode cX3_listRuns 39 = .ok (.invokestatic 44, 3) := by decide +kernel
theorem dX3_listRuns_42 : decode cX3_listRuns 42 = .ok (.invokestatic 50, 3) := by decide +kernel
theorem dX3_listRuns_45 : decode cX3_listRuns 45 = .ok (.istore_n 3, 1) := by decide +kernel
theorem dX3_listRuns_46 : decode cX3_listRuns 46 = .ok (.aload_n 2, 1) := by decide +kernel
theorem dX3_listRuns_47 : decode cX3_listRuns 47 = .ok (.iload 4, 2) := by decide +kernel
theorem dX3_listRuns_49 : decode cX3_listRuns 49 = .ok (.iload_n 3, 1) := by decide +kernel
theorem dX3_listRuns_50 : decode cX3_listRuns 50 = .ok (.iastore, 1) := by decide +kernel
theorem dX3_listRuns_51 : decode cX3_listRuns 51 = .ok (.iinc 4 1, 3) := by decide +kernel
theorem dX3_listRuns_54 : decode cX3_listRuns 54 = .ok (.goto (-49), 3) := by decide +kernel
theorem dX3_listRuns_57 : decode cX3_listRuns 57 = .ok (.return_, 1) := by decide +kernel
theorem dX3_between_0 : decode cX3_between 0 = .ok (.iload_n 1, 1) := by decide +kernel
theorem dX3_between_1 : decode cX3_between 1 = .ok (.ifCond .lt 14, 3) := by decide +kernel
theorem dX3_between_4 : decode cX3_between 4 = .ok (.iload_n 1, 1) := by decide +kernel
theorem dX3_between_5 : decode cX3_between 5 = .ok (.iload_n 2, 1) := by decide +kernel
theorem dX3_between_6 : decode cX3_between 6 = .ok (.if_icmp .gt 9, 3) := by decide +kernel
theorem dX3_between_9 : decode cX3_between 9 = .ok (.iload_n 2, 1) := by decide +kernel
theorem dX3_between_10 : decode cX3_between 10 = .ok (.aload_n 0, 1) := by decide +kernel
theorem dX3_between_11 : decode cX3_between 11 = .ok (.arraylength, 1) := by decide +kernel
theorem dX3_between_12 : decode cX3_between 12 = .ok (.if_icmp .lt 5, 3) := by decide +kernel
theorem dX3_between_15 : decode cX3_between 15 = .ok (.iconst 0, 1) := by decide +kernel
theorem dX3_between_16 : decode cX3_between 16 = .ok (.ireturn, 1) := by decide +kernel
theorem dX3_between_17 : decode cX3_between 17 = .ok (.aload_n 0, 1) := by decide +kernel
theorem dX3_between_18 : decode cX3_between 18 = .ok (.iload_n 2, 1) := by decide +kernel
theorem dX3_between_19 : decode cX3_between 19 = .ok (.iaload, 1) := by decide +kernel
theorem dX3_between_20 : decode cX3_between 20 = .ok (.aload_n 0, 1) := by decide +kernel
theorem dX3_between_21 : decode cX3_between 21 = .ok (.iload_n 1, 1) := by decide +kernel
theorem dX3_between_22 : decode cX3_between 22 = .ok (.iaload, 1) := by decide +kernel
theorem dX3_between_23 : decode cX3_between 23 = .ok (.isub, 1) := by decide +kernel
theorem dX3_between_24 : decode cX3_between 24 = .ok (.ireturn, 1) := by decide +kernel
theorem dX4_init_0 : decode cX4_init 0 = .ok (.aload_n 0, 1) := by decide +kernel
theorem dX4_init_1 : decode cX4_init 1 = .ok (.invokespecial 3, 3) := by decide +kernel
theorem dX4_init_4 : decode cX4_init 4 = .ok (.aload_n 0, 1) := by decide +kernel
theorem dX4_init_5 : decode cX4_init 5 = .ok (.bipush 24, 2) := by decide +kernel
theorem dX4_init_7 : decode cX4_init 7 = .ok (.newarray .int, 2) := by decide +kernel
theorem dX4_init_9 : decode cX4_init 9 = .ok (.putfield 11, 3) := by decide +kernel
theorem dX4_init_12 : decode cX4_init 12 = .ok (.aload_n 0, 1) := by decide +kernel
theorem dX4_init_13 : decode cX4_init 13 = .ok (.iconst 0, 1) := by decide +kernel
theorem dX4_init_14 : decode cX4_init 14 = .ok (.putfield 15, 3) := by decide +kernel
theorem dX4_init_17 : decode cX4_init 17 = .ok (.aload_n 0, 1) := by decide +kernel
theorem dX4_init_18 : decode cX4_init 18 = .ok (.iconst (-1), 1) := by decide +kernel
theorem dX4_init_19 : decode cX4_init 19 = .ok (.putfield 19, 3) := by decide +kernel
theorem dX4_init_22 : decode cX4_init 22 = .ok (.return_, 1) := by decide +kernel
theorem dX4_putRow_0 : decode cX4_putRow 0 = .ok (.iload_n 1, 1) := by decide +kernel
theorem dX4_putRow_1 : decode cX4_putRow 1 = .ok (.ifCond .lt 22, 3) := by decide +kernel
theorem dX4_putRow_4 : decode cX4_putRow 4 = .ok (.iload_n 1, 1) := by decide +kernel
theorem dX4_putRow_5 : decode cX4_putRow 5 = .ok (.aload_n 0, 1) := by decide +kernel
theorem dX4_putRow_6 : decode cX4_putRow 6 = .ok (.getfield 11, 3) := by decide +kernel
theorem dX4_putRow_9 : decode cX4_putRow 9 = .ok (.arraylength, 1) := by decide +kernel
theorem dX4_putRow_10 : decode cX4_putRow 10 = .ok (.if_icmp .ge 13, 3) := by decide +kernel
theorem dX4_putRow_13 : decode cX4_putRow 13 = .ok (.iload_n 2, 1) := by decide +kernel
theorem dX4_putRow_14 : decode cX4_putRow 14 = .ok (.iconst 0, 1) := by decide +kernel
theorem dX4_putRow_15 : decode cX4_putRow 15 = .ok (.ldc 23, 2) := by decide +kernel
theorem dX4_putRow_17 : decode cX4_putRow 17 = .ok (.invokestatic 24, 3) := by decide +kernel
theorem dX4_putRow_20 : decode cX4_putRow 20 = .ok (.ifCond .ne 5, 3) := by decide +kernel
theorem dX4_putRow_23 : decode cX4_putRow 23 = .ok (.iconst 0, 1) := by decide +kernel
theorem dX4_putRow_24 : decode cX4_putRow 24 = .ok (.ireturn, 1) := by decide +kernel
theorem dX4_putRow_25 : decode cX4_putRow 25 = .ok (.aload_n 0, 1) := by decide +kernel
theorem dX4_putRow_26 : decode cX4_putRow 26 = .ok (.getfield 11, 3) := by decide +kernel
theorem dX4_putRow_29 : decode cX4_putRow 29 = .ok (.iload_n 1, 1) := by decide +kernel
theorem dX4_putRow_30 : decode cX4_putRow 30 = .ok (.iload_n 2, 1) := by decide +kernel
theorem dX4_putRow_31 : decode cX4_putRow 31 = .ok (.iastore, 1) := by decide +kernel
theorem dX4_putRow_32 : decode cX4_putRow 32 = .ok (.aload_n 0, 1) := by decide +kernel
theorem dX4_putRow_33 : decode cX4_putRow 33 = .ok (.iconst 1, 1) := by decide +kernel
theorem dX4_putRow_34 : decode cX4_putRow 34 = .ok (.putfield 15, 3) := by decide +kernel
theorem dX4_putRow_37 : decode cX4_putRow 37 = .ok (.iconst 1, 1) := by decide +kernel
theorem dX4_putRow_38 : decode cX4_putRow 38 = .ok (.ireturn, 1) := by decide +kernel
theorem dX4_findCentre_0 : decode cX4_findCentre 0 = .ok (.aload_n 0, 1) := by decide +kernel
theorem dX4_findCentre_1 : decode cX4_findCentre 1 = .ok (.getfield 15, 3) := by decide +kernel
theorem dX4_findCentre_4 : decode cX4_findCentre 4 = .ok (.ifCond .ne 4, 3) := by decide +kernel
theorem dX4_findCentre_7 : decode cX4_findCentre 7 = .ok (.return_, 1) := by decide +kernel
theorem dX4_findCentre_8 : decode cX4_findCentre 8 = .ok (.aload_n 0, 1) := by decide +kernel
theorem dX4_findCentre_9 : decode cX4_findCentre 9 = .ok (.iconst 0, 1) := by decide +kernel
theorem dX4_findCentre_10 : decode cX4_findCentre 10 = .ok (.putfield 15, 3) := by decide +kernel
theorem dX4_findCentre_13 : decode cX4_findCentre 13 = .ok (.aload_n 0, 1) := by decide +kernel
theorem dX4_findCentre_14 : decode cX4_findCentre 14 = .ok (.iconst (-1), 1) := by decide +kernel
theorem dX4_findCentre_15 : decode cX4_findCentre 15 = .ok (.putfield 19, 3) := by decide +kernel
theorem dX4_findCentre_18 : decode cX4_findCentre 18 = .ok (.iconst 0, 1) := by decide +kernel
theorem dX4_findCentre_19 : decode cX4_findCentre 19 = .ok (.istore_n 1, 1) := by decide +kernel
theorem dX4_findCentre_20 : decode cX4_findCentre 20 = .ok (.iload_n 1, 1) := by decide +kernel
theorem dX4_findCentre_21 : decode cX4_findCentre 21 = .ok (.bipush 24, 2) := by decide +kernel
theorem dX4_findCentre_23 : decode cX4_findCentre 23 = .ok (.if_icmp .ge 29, 3) := by decide +kernel
theorem dX4_findCentre_26 : decode cX4_findCentre 26 = .ok (.iconst 0, 1) := by decide +kernel
theorem dX4_findCentre_27 : decode cX4_findCentre 27 = .ok (.istore_n 2, 1) := by decide +kernel
theorem dX4_findCentre_28 : decode cX4_findCentre 28 = .ok (.iload_n 2, 1) := by decide +kernel
theorem dX4_findCentre_29 : decode cX4_findCentre 29 = .ok (.bipush 24, 2) := by decide +kernel
theorem dX4_findCentre_31 : decode cX4_findCentre 31 = .ok (.if_icmp .ge 15, 3) := by decide +kernel
theorem dX4_findCentre_34 : decode cX4_findCentre 34 = .ok (.aload_n 0, 1) := by decide +kernel
theorem dX4_findCentre_35 : decode cX4_findCentre 35 = .ok (.iload_n 1, 1) := by decide +kernel
theorem dX4_findCentre_36 : decode cX4_findCentre 36 = .ok (.iload_n 2, 1) := by decide +kernel
theorem dX4_findCentre_37 : decode cX4_findCentre 37 = .ok (.invokevirtual 28, 3) := by decide +kernel
theorem dX4_findCentre_40 : decode cX4_findCentre 40 = .ok (.iinc 2 1, 3) := by decide +kernel
theorem dX4_findCentre_43 : decode cX4_findCentre 43 = .ok (.goto (-15), 3) := by decide +kernel
theorem dX4_findCentre_46 : decode cX4_findCentre 46 = .ok (.iinc 1 1, 3) := by decide +kernel
theorem dX4_findCentre_49 : decode cX4_findCentre 49 = .ok (.goto (-29), 3) := by decide +kernel
theorem dX4_findCentre_52 : decode cX4_findCentre 52 = .ok (.return_, 1) := by decide +kernel
theorem dX4_growAt_0 : decode cX4_growAt 0 = .ok (.aload_n 0, 1) := by decide +kernel
theorem dX4_growAt_1 : decode cX4_growAt 1 = .ok (.getfield 19, 3) := by decide +kernel
theorem dX4_growAt_4 : decode cX4_growAt 4 = .ok (.iconst 1, 1) := by decide +kernel
theorem dX4_growAt_5 : decode cX4_growAt 5 = .ok (.iadd, 1) := by decide +kernel
theorem dX4_growAt_6 : decode cX4_growAt 6 = .ok (.istore_n 3, 1) := by decide +kernel
theorem dX4_growAt_7 : decode cX4_growAt 7 = .ok (.iload_n 3, 1) := by decide +kernel
theorem dX4_growAt_8 : decode cX4_growAt 8 = .ok (.bipush 11, 2) := by decide +kernel
theorem dX4_growAt_10 : decode cX4_growAt 10 = .ok (.if_icmp .gt 34, 3) := by decide +kernel
theorem dX4_growAt_13 : decode cX4_growAt 13 = .ok (.aload_n 0, 1) := by decide +kernel
theorem dX4_growAt_14 : decode cX4_growAt 14 = .ok (.iload_n 1, 1) := by decide +kernel
theorem dX4_growAt_15 : decode cX4_growAt 15 = .ok (.iload_n 2, 1) := by decide +kernel
theorem dX4_growAt_16 : decode cX4_growAt 16 = .ok (.iload_n 3, 1) := by decide +kernel
theorem dX4_growAt_17 : decode cX4_growAt 17 = .ok (.invokevirtual 32, 3) := by decide +kernel
theorem dX4_growAt_20 : decode cX4_growAt 20 = .ok (.ifCond .eq 24, 3) := by decide +kernel
theorem dX4_growAt_23 : decode cX4_growAt 23 = .ok (.aload_n 0, 1) := by decide +kernel
theorem dX4_growAt_24 : decode cX4_growAt 24 = .ok (.iload_n 3, 1) := by decide +kernel
theorem dX4_growAt_25 : decode cX4_growAt 25 = .ok (.putfield 19, 3) := by decide +kernel
theorem dX4_growAt_28 : decode cX4_growAt 28 = .ok (.aload_n 0, 1) := by decide +kernel
theorem dX4_growAt_29 : decode cX4_growAt 29 = .ok (.iload_n 1, 1) := by decide +kernel
theorem dX4_growAt_30 : decode cX4_growAt 30 = .ok (.putfield 35, 3) := by decide +kernel
theorem dX4_growAt_33 : decode cX4_growAt 33 = .ok (.aload_n 0, 1) := by decide +kernel
theorem dX4_growAt_34 : decode cX4_growAt 34 = .ok (.iload_n 2, 1) := by decide +kernel
theorem dX4_growAt_35 : decode cX4_growAt 35 = .ok (.putfield 38, 3) := by decide +kernel
theorem dX4_growAt_38 : decode cX4_growAt 38 = .ok (.iinc 3 1, 3) := by decide +kernel
theorem dX4_growAt_41 : decode cX4_growAt 41 = .ok (.goto (-34), 3) := by decide +kernel
theorem dX4_growAt_44 : decode cX4_growAt 44 = .ok (.return_, 1) := by decide +kernel
theorem dX4_discFits_0 : decode cX4_discFits 0 = .ok (.iload_n 1, 1) := by decide +kernel
theorem dX4_discFits_1 : decode cX4_discFits 1 = .ok (.iload_n 3, 1) := by decide +kernel
theorem dX4_discFits_2 : decode cX4_discFits 2 = .ok (.isub, 1) := by decide +kernel
theorem dX4_discFits_3 : decode cX4_discFits 3 = .ok (.ifCond .lt 25, 3) := by decide +kernel
theorem dX4_discFits_6 : decode cX4_discFits 6 = .ok (.iload_n 1, 1) := by decide +kernel
theorem dX4_discFits_7 : decode cX4_discFits 7 = .ok (.iload_n 3, 1) := by decide +kernel
theorem dX4_discFits_8 : decode cX4_discFits 8 = .ok (.iadd, 1) := by decide +kernel
theorem dX4_discFits_9 : decode cX4_discFits 9 = .ok (.bipush 24, 2) := by decide +kernel
theorem dX4_discFits_11 : decode cX4_discFits 11 = .ok (.if_icmp .ge 17, 3) := by decide +kernel
theorem dX4_discFits_14 : decode cX4_discFits 14 = .ok (.iload_n 2, 1) := by decide +kernel
theorem dX4_discFits_15 : decode cX4_discFits 15 = .ok (.iload_n 3, 1) := by decide +kernel
theorem dX4_discFits_16 : decode cX4_discFits 16 = .ok (.isub, 1) := by decide +kernel
theorem dX4_discFits_17 : decode cX4_discFits 17 = .ok (.ifCond .lt 11, 3) := by decide +kernel
theorem dX4_discFits_20 : decode cX4_discFits 20 = .ok (.iload_n 2, 1) := by decide +kernel
theorem dX4_discFits_21 : decode cX4_discFits 21 = .ok (.iload_n 3, 1) := by decide +kernel
theorem dX4_discFits_22 : decode cX4_discFits 22 = .ok (.iadd, 1) := by decide +kernel
theorem dX4_discFits_23 : decode cX4_discFits 23 = .ok (.bipush 24, 2) := by decide +kernel
theorem dX4_discFits_25 : decode cX4_discFits 25 = .ok (.if_icmp .lt 5, 3) := by decide +kernel
theorem dX4_discFits_28 : decode cX4_discFits 28 = .ok (.iconst 0, 1) := by decide +kernel
theorem dX4_discFits_29 : decode cX4_discFits 29 = .ok (.ireturn, 1) := by decide +kernel
theorem dX4_discFits_30 : decode cX4_discFits 30 = .ok (.iload_n 3, 1) := by decide +kernel
theorem dX4_discFits_31 : decode cX4_discFits 31 = .ok (.istore 4, 2) := by decide +kernel
theorem dX4_discFits_33 : decode cX4_discFits 33 = .ok (.iconst 0, 1) := by decide +kernel
theorem dX4_discFits_34 : decode cX4_discFits 34 = .ok (.istore 5, 2) := by decide +kernel
theorem dX4_discFits_36 : decode cX4_discFits 36 = .ok (.iload 5, 2) := by decide +kernel
theorem dX4_discFits_38 : decode cX4_discFits 38 = .ok (.iload_n 3, 1) := by decide +kernel
theorem dX4_discFits_39 : decode cX4_discFits 39 = .ok (.if_icmp .gt 82, 3) := by decide +kernel
theorem dX4_discFits_42 : decode cX4_discFits 42 = .ok (.iload 4, 2) := by decide +kernel
theorem dX4_discFits_44 : decode cX4_discFits 44 = .ok (.ifCond .le 26, 3) := by decide +kernel
theorem dX4_discFits_47 : decode cX4_discFits 47 = .ok (.iload 4, 2) := by decide +kernel
theorem dX4_discFits_49 : decode cX4_discFits 49 = .ok (.iload 4, 2) := by decide +kernel
theorem dX4_discFits_51 : decode cX4_discFits 51 = .ok (.imul, 1) := by decide +kernel
theorem dX4_discFits_52 : decode cX4_discFits 52 = .ok (.iload 5, 2) := by decide +kernel
theorem dX4_discFits_54 : decode cX4_discFits 54 = .ok (.iload 5, 2) := by decide +kernel
theorem dX4_discFits_56 : decode cX4_discFits 56 = .ok (.imul, 1) := by decide +kernel
theorem dX4_discFits_57 : decode cX4_discFits 57 = .ok (.iadd, 1) := by decide +kernel
theorem dX4_discFits_58 : decode cX4_discFits 58 = .ok (.iload_n 3, 1) := by decide +kernel
theorem dX4_discFits_59 : decode cX4_discFits 59 = .ok (.iload_n 3, 1) := by decide +kernel
theorem dX4_discFits_60 : decode cX4_discFits 60 = .ok (.imul, 1) := by decide +kernel
theorem dX4_discFits_61 : decode cX4_discFits 61 = .ok (.if_icmp .le 9, 3) := by decide +kernel
theorem dX4_discFits_64 : decode cX4_discFits 64 = .ok (.iinc 4 (-1), 3) := by decide +kernel
theorem dX4_discFits_67 : decode cX4_discFits 67 = .ok (.goto (-25), 3) := by decide +kernel
theorem dX4_discFits_70 : decode cX4_discFits 70 = .ok (.iconst 1, 1) := by decide +kernel
theorem dX4_discFits_71 : decode cX4_discFits 71 = .ok (.iconst 2, 1) := by decide +kernel
theorem dX4_discFits_72 : decode cX4_discFits 72 = .ok (.iload 4, 2) := by decide +kernel
theorem dX4_discFits_74 : decode cX4_discFits 74 = .ok (.imul, 1) := by decide +kernel
theorem dX4_discFits_75 : decode cX4_discFits 75 = .ok (.iconst 1, 1) := by decide +kernel
theorem dX4_discFits_76 : decode cX4_discFits 76 = .ok (.iadd, 1) := by decide +kernel
theorem dX4_discFits_77 : decode cX4_discFits 77 = .ok (.ishl, 1) := by decide +kernel
theorem dX4_discFits_78 : decode cX4_discFits 78 = .ok (.iconst 1, 1) := by decide +kernel
theorem dX4_discFits_79 : decode cX4_discFits 79 = .ok (.isub, 1) := by decide +kernel
theorem dX4_discFits_80 : decode cX4_discFits 80 = .ok (.iload_n 2, 1) := by decide +kernel
theorem dX4_discFits_81 : decode cX4_discFits 81 = .ok (.iload 4, 2) := by decide +kernel
theorem dX4_discFits_83 : decode cX4_discFits 83 = .ok (.isub, 1) := by decide +kernel
theorem dX4_discFits_84 : decode cX4_discFits 84 = .ok (.ishl, 1) := by decide +kernel
theorem dX4_discFits_85 : decode cX4_discFits 85 = .ok (.istore 6, 2) := by decide +kernel
theorem dX4_discFits_87 : decode cX4_discFits 87 = .ok (.aload_n 0, 1) := by decide +kernel
theorem dX4_discFits_88 : decode cX4_discFits 88 = .ok (.iload_n 1, 1) := by decide +kernel
theorem dX4_discFits_89 : decode cX4_discFits 89 = .ok (.iload 5, 2) := by decide +kernel
theorem dX4_discFits_91 : decode cX4_discFits 91 = .ok (.isub, 1) := by decide +kernel
theorem dX4_discFits_92 : decode cX4_discFits 92 = .ok (.iload 6, 2) := by decide +kernel
theorem dX4_discFits_94 : decode cX4_discFits 94 = .ok (.invokevirtual 41, 3) := by decide +kernel
theorem dX4_discFits_97 : decode cX4_discFits 97 = .ok (.ifCond .eq 16, 3) := by decide +kernel
theorem dX4_discFits_100 : decode cX4_discFits 100 = .ok (.aload_n 0, 1) := by decide +kernel
theorem dX4_discFits_101 : decode cX4_discFits 101 = .ok (.iload_n 1, 1) := by decide +kernel
theorem dX4_discFits_102 : decode cX4_discFits 102 = .ok (.iload 5, 2) := by decide +kernel
theorem dX4_discFits_104 : decode cX4_discFits 104 = .ok (.iadd, 1) := by decide +kernel
theorem dX4_discFits_105 : decode cX4_discFits 105 = .ok (.iload 6, 2) := by decide +kernel
theorem dX4_discFits_107 : decode cX4_discFits 107 = .ok (.invokevirtual 41, 3) := by decide +kernel
theorem dX4_discFits_110 : decode cX4_discFits 110 = .ok (.ifCond .ne 5, 3) := by decide +kernel
theorem dX4_discFits_113 : decode cX4_discFits 113 = .ok (.iconst 0, 1) := by decide +kernel
theorem dX4_discFits_114 : decode cX4_discFits 114 = .ok (.ireturn, 1) := by decide +kernel
theorem dX4_discFits_115 : decode cX4_discFits 115 = .ok (.iinc 5 1, 3) := by decide +kernel
theorem dX4_discFits_118 : decode cX4_discFits 118 = .ok (.goto (-82), 3) := by decide +kernel
theorem dX4_discFits_121 : decode cX4_discFits 121 = .ok (.iconst 1, 1) := by decide +kernel
theorem dX4_discFits_122 : decode cX4_discFits 122 = .ok (.ireturn, 1) := by decide +kernel
theorem dX4_hasCells_0 : decode cX4_hasCells 0 = .ok (.iload_n 1, 1) := by decide +kernel
theorem dX4_hasCells_1 : decode cX4_hasCells 1 = .ok (.ifCond .lt 28, 3) := by decide +kernel
theorem dX4_hasCells_4 : decode cX4_hasCells 4 = .ok (.iload_n 1, 1) := by decide +kernel
theorem dX4_hasCells_5 : decode cX4_hasCells 5 = .ok (.aload_n 0, 1) := by decide +kernel
theorem dX4_hasCells_6 : decode cX4_hasCells 6 = .ok (.getfield 11, 3) := by decide +kernel
theorem dX4_hasCells_9 : decode cX4_hasCells 9 = .ok (.arraylength, 1) := by decide +kernel
theorem dX4_hasCells_10 : decode cX4_hasCells 10 = .ok (.if_icmp .ge 19, 3) := by decide +kernel
theorem dX4_hasCells_13 : decode cX4_hasCells 13 = .ok (.aload_n 0, 1) := by decide +kernel
theorem dX4_hasCells_14 : decode cX4_hasCells 14 = .ok (.getfield 11, 3) := by decide +kernel
theorem dX4_hasCells_17 : decode cX4_hasCells 17 = .ok (.iload_n 1, 1) := by decide +kernel
theorem dX4_hasCells_18 : decode cX4_hasCells 18 = .ok (.iaload, 1) := by decide +kernel
theorem dX4_hasCells_19 : decode cX4_hasCells 19 = .ok (.iload_n 2, 1) := by decide +kernel
theorem dX4_hasCells_20 : decode cX4_hasCells 20 = .ok (.iand, 1) := by decide +kernel
theorem dX4_hasCells_21 : decode cX4_hasCells 21 = .ok (.iload_n 2, 1) := by decide +kernel
theorem dX4_hasCells_22 : decode cX4_hasCells 22 = .ok (.if_icmp .ne 7, 3) := by decide +kernel
theorem dX4_hasCells_25 : decode cX4_hasCells 25 = .ok (.iconst 1, 1) := by decide +kernel
theorem dX4_hasCells_26 : decode cX4_hasCells 26 = .ok (.goto 4, 3) := by decide +kernel
theorem dX4_hasCells_29 : decode cX4_hasCells 29 = .ok (.iconst 0, 1) := by decide +kernel
theorem dX4_hasCells_30 : decode cX4_hasCells 30 = .ok (.ireturn, 1) := by decide +kernel
theorem dX4_peeled_0 : decode cX4_peeled 0 = .ok (.bipush 10, 2) := by decide +kernel
theorem dX4_peeled_2 : decode cX4_peeled 2 = .ok (.aload_n 0, 1) := by decide +kernel
theorem dX4_peeled_3 : decode cX4_peeled 3 = .ok (.getfield 19, 3) := by decide +kernel
theorem dX4_peeled_6 : decode cX4_peeled 6 = .ok (.imul, 1) := by decide +kernel
theorem dX4_peeled_7 : decode cX4_peeled 7 = .ok (.iconst 5, 1) := by decide +kernel
theorem dX4_peeled_8 : decode cX4_peeled 8 = .ok (.iadd, 1) := by decide +kernel
theorem dX4_peeled_9 : decode cX4_peeled 9 = .ok (.istore_n 3, 1) := by decide +kernel
theorem dX4_peeled_10 : decode cX4_peeled 10 = .ok (.bipush 7, 2) := by decide +kernel
theorem dX4_peeled_12 : decode cX4_peeled 12 = .ok (.iload_n 2, 1) := by decide +kernel
theorem dX4_peeled_13 : decode cX4_peeled 13 = .ok (.imul, 1) := by decide +kernel
theorem dX4_peeled_14 : decode cX4_peeled 14 = .ok (.istore 4, 2) := by decide +kernel
theorem dX4_peeled_16 : decode cX4_peeled 16 = .ok (.iload_n 1, 1) := by decide +kernel
theorem dX4_peeled_17 : decode cX4_peeled 17 = .ok (.iload_n 3, 1) := by decide +kernel
theorem dX4_peeled_18 : decode cX4_peeled 18 = .ok (.if_icmp .ge 8, 3) := by decide +kernel
theorem dX4_peeled_21 : decode cX4_peeled 21 = .ok (.iload 4, 2) := by decide +kernel
theorem dX4_peeled_23 : decode cX4_peeled 23 = .ok (.ifCond .gt 5, 3) := by decide +kernel
theorem dX4_peeled_26 : decode cX4_peeled 26 = .ok (.iconst 0, 1) := by decide +kernel
theorem dX4_peeled_27 : decode cX4_peeled 27 = .ok (.ireturn, 1) := by decide +kernel
theorem dX4_peeled_28 : decode cX4_peeled 28 = .ok (.iload_n 3, 1) := by decide +kernel
theorem dX4_peeled_29 : decode cX4_peeled 29 = .ok (.iload_n 3, 1) := by decide +kernel
theorem dX4_peeled_30 : decode cX4_peeled 30 = .ok (.imul, 1) := by decide +kernel
theorem dX4_peeled_31 : decode cX4_peeled 31 = .ok (.iload_n 1, 1) := by decide +kernel
theorem dX4_peeled_32 : decode cX4_peeled 32 = .ok (.iload_n 1, 1) := by decide +kernel
theorem dX4_peeled_33 : decode cX4_peeled 33 = .ok (.imul, 1) := by decide +kernel
theorem dX4_peeled_34 : decode cX4_peeled 34 = .ok (.isub, 1) := by decide +kernel
theorem dX4_peeled_35 : decode cX4_peeled 35 = .ok (.bipush 22, 2) := by decide +kernel
theorem dX4_peeled_37 : decode cX4_peeled 37 = .ok (.imul, 1) := by decide +kernel
theorem dX4_peeled_38 : decode cX4_peeled 38 = .ok (.iload 4, 2) := by decide +kernel
theorem dX4_peeled_40 : decode cX4_peeled 40 = .ok (.idiv, 1) := by decide +kernel
theorem dX4_peeled_41 : decode cX4_peeled 41 = .ok (.ireturn, 1) := by decide +kernel
theorem dX5_init_0 : decode cX5_init 0 = .ok (.aload_n 0, 1) := by decide +kernel
theorem dX5_init_1 : decode cX5_init 1 = .ok (.invokespecial 3, 3) := by decide +kernel
theorem dX5_init_4 : decode cX5_init 4 = .ok (.aload_n 0, 1) := by decide +kernel
theorem dX5_init_5 : decode cX5_init 5 = .ok (.aload_n 1, 1) := by decide +kernel
theorem dX5_init_6 : decode cX5_init 6 = .ok (.putfield 9, 3) := by decide +kernel
theorem dX5_init_9 : decode cX5_init 9 = .ok (.aload_n 0, 1) := by decide +kernel
theorem dX5_init_10 : decode cX5_init 10 = .ok (.bipush 101, 2) := by decide +kernel
theorem dX5_init_12 : decode cX5_init 12 = .ok (.newarray .int, 2) := by decide +kernel
theorem dX5_init_14 : decode cX5_init 14 = .ok (.putfield 17, 3) := by decide +kernel
theorem dX5_init_17 : decode cX5_init 17 = .ok (.return_, 1) := by decide +kernel
theorem dX5_beginAt_0 : decode cX5_beginAt 0 = .ok (.aload_n 0, 1) := by decide +kernel
theorem dX5_beginAt_1 : decode cX5_beginAt 1 = .ok (.iload_n 1, 1) := by decide +kernel
theorem dX5_beginAt_2 : decode cX5_beginAt 2 = .ok (.putfield 21, 3) := by decide +kernel
theorem dX5_beginAt_5 : decode cX5_beginAt 5 = .ok (.aload_n 0, 1) := by decide +kernel
theorem dX5_beginAt_6 : decode cX5_beginAt 6 = .ok (.getfield 9, 3) := by decide +kernel
theorem dX5_beginAt_9 : decode cX5_beginAt 9 = .ok (.iload_n 1, 1) := by decide +kernel
theorem dX5_beginAt_10 : decode cX5_beginAt 10 = .ok (.aload_n 0, 1) := by decide +kernel
theorem dX5_beginAt_11 : decode cX5_beginAt 11 = .ok (.getfield 17, 3) := by decide +kernel
theorem dX5_beginAt_14 : decode cX5_beginAt 14 = .ok (.invokevirtual 25, 3) := by decide +kernel
theorem dX5_beginAt_17 : decode cX5_beginAt 17 = .ok (.return_, 1) := by decide +kernel
theorem dX5_endBefore_0 : decode cX5_endBefore 0 = .ok (.aload_n 0, 1) := by decide +kernel
theorem dX5_endBefore_1 : decode cX5_endBefore 1 = .ok (.aload_n 0, 1) := by decide +kernel
theorem dX5_endBefore_2 : decode cX5_endBefore 2 = .ok (.getfield 9, 3) := by decide +kernel
theorem dX5_endBefore_5 : decode cX5_endBefore 5 = .ok (.getfield 31, 3) := by decide +kernel
theorem dX5_endBefore_8 : decode cX5_endBefore 8 = .ok (.aload_n 0, 1) := by decide +kernel
theorem dX5_endBefore_9 : decode cX5_endBefore 9 = .ok (.getfield 21, 3) := by decide +kernel
theorem dX5_endBefore_12 : decode cX5_endBefore 12 = .ok (.iload_n 1, 1) := by decide +kernel
theorem dX5_endBefore_13 : decode cX5_endBefore 13 = .ok (.invokestatic 34, 3) := by decide +kernel
theorem dX5_endBefore_16 : decode cX5_endBefore 16 = .ok (.putfield 38, 3) := by decide +kernel
theorem dX5_endBefore_19 : decode cX5_endBefore 19 = .ok (.aload_n 0, 1) := by decide +kernel
theorem dX5_endBefore_20 : decode cX5_endBefore 20 = .ok (.aload_n 0, 1) := by decide +kernel
theorem dX5_endBefore_21 : decode cX5_endBefore 21 = .ok (.getfield 9, 3) := by decide +kernel
theorem dX5_endBefore_24 : decode cX5_endBefore 24 = .ok (.getfield 41, 3) := by decide +kernel
theorem dX5_endBefore_27 : decode cX5_endBefore 27 = .ok (.aload_n 0, 1) := by decide +kernel
theorem dX5_endBefore_28 : decode cX5_endBefore 28 = .ok (.getfield 21, 3) := by decide +kernel
theorem dX5_endBefore_31 : decode cX5_endBefore 31 = .ok (.iload_n 1, 1) := by decide +kernel
theorem dX5_endBefore_32 : decode cX5_endBefore 32 = .ok (.invokestatic 34, 3) := by decide +kernel
theorem dX5_endBefore_35 : decode cX5_endBefore 35 = .ok (.putfield 44, 3) := by decide +kernel
theorem dX5_endBefore_38 : decode cX5_endBefore 38 = .ok (.aload_n 0, 1) := by decide +kernel
theorem dX5_endBefore_39 : decode cX5_endBefore 39 = .ok (.aload_n 0, 1) := by decide +kernel
theorem dX5_endBefore_40 : decode cX5_endBefore 40 = .ok (.getfield 9, 3) := by decide +kernel
theorem dX5_endBefore_43 : decode cX5_endBefore 43 = .ok (.getfield 47, 3) := by decide +kernel
theorem dX5_endBefore_46 : decode cX5_endBefore 46 = .ok (.aload_n 0, 1) := by decide +kernel
theorem dX5_endBefore_47 : decode cX5_endBefore 47 = .ok (.getfield 21, 3) := by decide +kernel
theorem dX5_endBefore_50 : decode cX5_endBefore 50 = .ok (.iload_n 1, 1) := by decide +kernel
theorem dX5_endBefore_51 : decode cX5_endBefore 51 = .ok (.invokestatic 34, 3) := by decide +kernel
theorem dX5_endBefore_54 : decode cX5_endBefore 54 = .ok (.putfield 50, 3) := by decide +kernel
theorem dX5_endBefore_57 : decode cX5_endBefore 57 = .ok (.aload_n 0, 1) := by decide +kernel
theorem dX5_endBefore_58 : decode cX5_endBefore 58 = .ok (.aload_n 0, 1) := by decide +kernel
theorem dX5_endBefore_59 : decode cX5_endBefore 59 = .ok (.getfield 9, 3) := by decide +kernel
theorem dX5_endBefore_62 : decode cX5_endBefore 62 = .ok (.getfield 53, 3) := by decide +kernel
theorem dX5_endBefore_65 : decode cX5_endBefore 65 = .ok (.aload_n 0, 1) := by decide +kernel
theorem dX5_endBefore_66 : decode cX5_endBefore 66 = .ok (.getfield 21, 3) := by decide +kernel
theorem dX5_endBefore_69 : decode cX5_endBefore 69 = .ok (.iload_n 1, 1) := by decide +kernel
theorem dX5_endBefore_70 : decode cX5_endBefore 70 = .ok (.invokestatic 34, 3) := by decide +kernel
theorem dX5_endBefore_73 : decode cX5_endBefore 73 = .ok (.putfield 56, 3) := by decide +kernel
theorem dX5_endBefore_76 : decode cX5_endBefore 76 = .ok (.iload_n 1, 1) := by decide +kernel
theorem dX5_endBefore_77 : decode cX5_endBefore 77 = .ok (.aload_n 0, 1) := by decide +kernel
theorem dX5_endBefore_78 : decode cX5_endBefore 78 = .ok (.getfield 21, 3) := by decide +kernel
theorem dX5_endBefore_81 : decode cX5_endBefore 81 = .ok (.isub, 1) := by decide +kernel
theorem dX5_endBefore_82 : decode cX5_endBefore 82 = .ok (.istore_n 2, 1) := by decide +kernel
theorem dX5_endBefore_83 : decode cX5_endBefore 83 = .ok (.aload_n 0, 1) := by decide +kernel
theorem dX5_endBefore_84 : decode cX5_endBefore 84 = .ok (.iload_n 2, 1) := by decide +kernel
theorem dX5_endBefore_85 : decode cX5_endBefore 85 = .ok (.ifCond .lt 21, 3) := by decide +kernel
theorem dX5_endBefore_88 : decode cX5_endBefore 88 = .ok (.iload_n 2, 1) := by decide +kernel
theorem dX5_endBefore_89 : decode cX5_endBefore 89 = .ok (.aload_n 0, 1) := by decide +kernel
theorem dX5_endBefore_90 : decode cX5_endBefore 90 = .ok (.getfield 17, 3) := by decide +kernel
theorem dX5_endBefore_93 : decode cX5_endBefore 93 = .ok (.arraylength, 1) := by decide +kernel
theorem dX5_endBefore_94 : decode cX5_endBefore 94 = .ok (.if_icmp .ge 12, 3) := by decide +kernel
theorem dX5_endBefore_97 : decode cX5_endBefore 97 = .ok (.aload_n 0, 1) := by decide +kernel
theorem dX5_endBefore_98 : decode cX5_endBefore 98 = .ok (.getfield 17, 3) := by decide +kernel
theorem dX5_endBefore_101 : decode cX5_endBefore 101 = .ok (.iload_n 2, 1) := by decide +kernel
theorem dX5_endBefore_102 : decode cX5_endBefore 102 = .ok (.iaload, 1) := by decide +kernel
theorem dX5_endBefore_103 : decode cX5_endBefore 103 = .ok (.goto 4, 3) := by decide +kernel
theorem dX5_endBefore_106 : decode cX5_endBefore 106 = .ok (.iconst 0, 1) := by decide +kernel
theorem dX5_endBefore_107 : decode cX5_endBefore 107 = .ok (.putfield 59, 3) := by decide +kernel
theorem dX5_endBefore_110 : decode cX5_endBefore 110 = .ok (.return_, 1) := by decide +kernel
theorem dX5_countOf_0 : decode cX5_countOf 0 = .ok (.iload_n 1, 1) := by decide +kernel
theorem dX5_countOf_1 : decode cX5_countOf 1 = .ok (.tableswitch 70 (-5) (-1) #[65, 55, 45, 40, 35], 35) := by decide +kernel
theorem dX5_countOf_36 : decode cX5_countOf 36 = .ok (.aload_n 0, 1) := by decide +kernel
theorem dX5_countOf_37 : decode cX5_countOf 37 = .ok (.getfield 38, 3) := by decide +kernel
theorem dX5_countOf_40 : decode cX5_countOf 40 = .ok (.ireturn, 1) := by decide +kernel
theorem dX5_countOf_41 : decode cX5_countOf 41 = .ok (.aload_n 0, 1) := by decide +kernel
theorem dX5_countOf_42 : decode cX5_countOf 42 = .ok (.getfield 44, 3) := by decide +kernel
theorem dX5_countOf_45 : decode cX5_countOf 45 = .ok (.ireturn, 1) := by decide +kernel
theorem dX5_countOf_46 : decode cX5_countOf 46 = .ok (.aload_n 0, 1) := by decide +kernel
theorem dX5_countOf_47 : decode cX5_countOf 47 = .ok (.getfield 50, 3) := by decide +kernel
theorem dX5_countOf_50 : decode cX5_countOf 50 = .ok (.aload_n 0, 1) := by decide +kernel
theorem dX5_countOf_51 : decode cX5_countOf 51 = .ok (.getfield 62, 3) := by decide +kernel
theorem dX5_countOf_54 : decode cX5_countOf 54 = .ok (.isub, 1) := by decide +kernel
theorem dX5_countOf_55 : decode cX5_countOf 55 = .ok (.ireturn, 1) := by decide +kernel
theorem dX5_countOf_56 : decode cX5_countOf 56 = .ok (.aload_n 0, 1) := by decide +kernel
theorem dX5_countOf_57 : decode cX5_countOf 57 = .ok (.getfield 56, 3) := by decide +kernel
theorem dX5_countOf_60 : decode cX5_countOf 60 = .ok (.aload_n 0, 1) := by decide +kernel
theorem dX5_countOf_61 : decode cX5_countOf 61 = .ok (.getfield 62, 3) := by decide +kernel
theorem dX5_countOf_64 : decode cX5_countOf 64 = .ok (.iadd, 1) := by decide +kernel
theorem dX5_countOf_65 : decode cX5_countOf 65 = .ok (.ireturn, 1) := by decide +kernel
theorem dX5_countOf_66 : decode cX5_countOf 66 = .ok (.aload_n 0, 1) := by decide +kernel
theorem dX5_countOf_67 : decode cX5_countOf 67 = .ok (.getfield 59, 3) := by decide +kernel
theorem dX5_countOf_70 : decode cX5_countOf 70 = .ok (.ireturn, 1) := by decide +kernel
theorem dX5_countOf_71 : decode cX5_countOf 71 = .ok (.iconst 0, 1) := by decide +kernel
theorem dX5_countOf_72 : decode cX5_countOf 72 = .ok (.ireturn, 1) := by decide +kernel
theorem dX6_init_0 : decode cX6_init 0 = .ok (.aload_n 0, 1) := by decide +kernel
theorem dX6_init_1 : decode cX6_init 1 = .ok (.invokespecial 5, 3) := by decide +kernel
theorem dX6_init_4 : decode cX6_init 4 = .ok (.aload_n 0, 1) := by decide +kernel
theorem dX6_init_5 : decode cX6_init 5 = .ok (.bipush 10, 2) := by decide +kernel
theorem dX6_init_7 : decode cX6_init 7 = .ok (.newarray .int, 2) := by decide +kernel
theorem dX6_init_9 : decode cX6_init 9 = .ok (.putfield 11, 3) := by decide +kernel
theorem dX6_init_12 : decode cX6_init 12 = .ok (.aload_n 0, 1) := by decide +kernel
theorem dX6_init_13 : decode cX6_init 13 = .ok (.bipush 10, 2) := by decide +kernel
theorem dX6_init_15 : decode cX6_init 15 = .ok (.newarray .int, 2) := by decide +kernel
theorem dX6_init_17 : decode cX6_init 17 = .ok (.putfield 15, 3) := by decide +kernel
theorem dX6_init_20 : decode cX6_init 20 = .ok (.aload_n 0, 1) := by decide +kernel
theorem dX6_init_21 : decode cX6_init 21 = .ok (.sipush 1024, 3) := by decide +kernel
theorem dX6_init_24 : decode cX6_init 24 = .ok (.newarray .int, 2) := by decide +kernel
theorem dX6_init_26 : decode cX6_init 26 = .ok (.putfield 18, 3) := by decide +kernel
theorem dX6_init_29 : decode cX6_init 29 = .ok (.aload_n 0, 1) := by decide +kernel
theorem dX6_init_30 : decode cX6_init 30 = .ok (.sipush 1024, 3) := by decide +kernel
theorem dX6_init_33 : decode cX6_init 33 = .ok (.newarray .int, 2) := by decide +kernel
theorem dX6_init_35 : decode cX6_init 35 = .ok (.putfield 21, 3) := by decide +kernel
theorem dX6_init_38 : decode cX6_init 38 = .ok (.aload_n 0, 1) := by decide +kernel
theorem dX6_init_39 : decode cX6_init 39 = .ok (.sipush 1024, 3) := by decide +kernel
theorem dX6_init_42 : decode cX6_init 42 = .ok (.newarray .int, 2) := by decide +kernel
theorem dX6_init_44 : decode cX6_init 44 = .ok (.putfield 24, 3) := by decide +kernel
theorem dX6_init_47 : decode cX6_init 47 = .ok (.aload_n 0, 1) := by decide +kernel
theorem dX6_init_48 : decode cX6_init 48 = .ok (.sipush 1024, 3) := by decide +kernel
theorem dX6_init_51 : decode cX6_init 51 = .ok (.newarray .int, 2) := by decide +kernel
theorem dX6_init_53 : decode cX6_init 53 = .ok (.putfield 27, 3) := by decide +kernel
theorem dX6_init_56 : decode cX6_init 56 = .ok (.aload_n 0, 1) := by decide +kernel
theorem dX6_init_57 : decode cX6_init 57 = .ok (.bipush 10, 2) := by decide +kernel
theorem dX6_init_59 : decode cX6_init 59 = .ok (.newarray .int, 2) := by decide +kernel
theorem dX6_init_61 : decode cX6_init 61 = .ok (.putfield 30, 3) := by decide +kernel
theorem dX6_init_64 : decode cX6_init 64 = .ok (.aload_n 0, 1) := by decide +kernel
theorem dX6_init_65 : decode cX6_init 65 = .ok (.bipush 10, 2) := by decide +kernel
theorem dX6_init_67 : decode cX6_init 67 = .ok (.newarray .int, 2) := by decide +kernel
theorem dX6_init_69 : decode cX6_init 69 = .ok (.putfield 33, 3) := by decide +kernel
theorem dX6_init_72 : decode cX6_init 72 = .ok (.aload_n 0, 1) := by decide +kernel
theorem dX6_init_73 : decode cX6_init 73 = .ok (.iconst 0, 1) := by decide +kernel
theorem dX6_init_74 : decode cX6_init 74 = .ok (.putfield 36, 3) := by decide +kernel
theorem dX6_init_77 : decode cX6_init 77 = .ok (.aload_n 0, 1) := by decide +kernel
theorem dX6_init_78 : decode cX6_init 78 = .ok (.iconst 1, 1) := by decide +kernel
theorem dX6_init_79 : decode cX6_init 79 = .ok (.putfield 40, 3) := by decide +kernel
theorem dX6_init_82 : decode cX6_init 82 = .ok (.aload_n 0, 1) := by decide +kernel
theorem dX6_init_83 : decode cX6_init 83 = .ok (.bipush 10, 2) := by decide +kernel
theorem dX6_init_85 : decode cX6_init 85 = .ok (.putfield 43, 3) := by decide +kernel
theorem dX6_init_88 : decode cX6_init 88 = .ok (.aload_n 0, 1) := by decide +kernel
theorem dX6_init_89 : decode cX6_init 89 = .ok (.iconst 1, 1) := by decide +kernel
theorem dX6_init_90 : decode cX6_init 90 = .ok (.putfield 46, 3) := by decide +kernel
theorem dX6_init_93 : decode cX6_init 93 = .ok (.aload_n 0, 1) := by decide +kernel
theorem dX6_init_94 : decode cX6_init 94 = .ok (.bipush 60, 2) := by decide +kernel
theorem dX6_init_96 : decode cX6_init 96 = .ok (.putfield 49, 3) := by decide +kernel
theorem dX6_init_99 : decode cX6_init 99 = .ok (.aload_n 0, 1) := by decide +kernel
theorem dX6_init_100 : decode cX6_init 100 = .ok (.iconst 0, 1) := by decide +kernel
theorem dX6_init_101 : decode cX6_init 101 = .ok (.putfield 52, 3) := by decide +kernel
theorem dX6_init_104 : decode cX6_init 104 = .ok (.aload_n 0, 1) := by decide +kernel
theorem dX6_init_105 : decode cX6_init 105 = .ok (.iconst 0, 1) := by decide +kernel
theorem dX6_init_106 : decode cX6_init 106 = .ok (.putfield 55, 3) := by decide +kernel
theorem dX6_init_109 : decode cX6_init 109 = .ok (.aload_n 0, 1) := by decide +kernel
theorem dX6_init_110 : decode cX6_init 110 = .ok (.iconst 1, 1) := by decide +kernel
theorem dX6_init_111 : decode cX6_init 111 = .ok (.putfield 58, 3) := by decide +kernel
theorem dX6_init_114 : decode cX6_init 114 = .ok (.return_, 1) := by decide +kernel
theorem dX6_set_0 : decode cX6_set 0 = .ok (.aload_n 0, 1) := by decide +kernel
theorem dX6_set_1 : decode cX6_set 1 = .ok (.iload_n 1, 1) := by decide +kernel
theorem dX6_set_2 : decode cX6_set 2 = .ok (.putfield 40, 3) := by decide +kernel
theorem dX6_set_5 : decode cX6_set 5 = .ok (.aload_n 0, 1) := by decide +kernel
theorem dX6_set_6 : decode cX6_set 6 = .ok (.iload_n 2, 1) := by decide +kernel
theorem dX6_set_7 : decode cX6_set 7 = .ok (.putfield 43, 3) := by decide +kernel
theorem dX6_set_10 : decode cX6_set 10 = .ok (.aload_n 0, 1) := by decide +kernel
theorem dX6_set_11 : decode cX6_set 11 = .ok (.iload_n 3, 1) := by decide +kernel
theorem dX6_set_12 : decode cX6_set 12 = .ok (.putfield 46, 3) := by decide +kernel
theorem dX6_set_15 : decode cX6_set 15 = .ok (.aload_n 0, 1) := by decide +kernel
theorem dX6_set_16 : decode cX6_set 16 = .ok (.iload 4, 2) := by decide +kernel
theorem dX6_set_18 : decode cX6_set 18 = .ok (.putfield 49, 3) := by decide +kernel
theorem dX6_set_21 : decode cX6_set 21 = .ok (.aload_n 0, 1) := by decide +kernel
theorem dX6_set_22 : decode cX6_set 22 = .ok (.iconst 1, 1) := by decide +kernel
theorem dX6_set_23 : decode cX6_set 23 = .ok (.putfield 58, 3) := by decide +kernel
theorem dX6_set_26 : decode cX6_set 26 = .ok (.return_, 1) := by decide +kernel
theorem dX6_addBoard_0 : decode cX6_addBoard 0 = .ok (.aload_n 0, 1) := by decide +kernel
theorem dX6_addBoard_1 : decode cX6_addBoard 1 = .ok (.getfield 36, 3) := by decide +kernel
theorem dX6_addBoard_4 : decode cX6_addBoard 4 = .ok (.ifCond .lt 12, 3) := by decide +kernel
theorem dX6_addBoard_7 : decode cX6_addBoard 7 = .ok (.aload_n 0, 1) := by decide +kernel
theorem dX6_addBoard_8 : decode cX6_addBoard 8 = .ok (.getfield 36, 3) := by decide +kernel
theorem dX6_addBoard_11 : decode cX6_addBoard 11 = .ok (.bipush 10, 2) := by decide +kernel
theorem dX6_addBoard_13 : decode cX6_addBoard 13 = .ok (.if_icmp .lt 5, 3) := by decide +kernel
theorem dX6_addBoard_16 : decode cX6_addBoard 16 = .ok (.iconst (-1), 1) := by decide +kernel
theorem dX6_addBoard_17 : decode cX6_addBoard 17 = .ok (.ireturn, 1) := by decide +kernel
theorem dX6_addBoard_18 : decode cX6_addBoard 18 = .ok (.aload_n 0, 1) := by decide +kernel
theorem dX6_addBoard_19 : decode cX6_addBoard 19 = .ok (.getfield 11, 3) := by decide +kernel
theorem dX6_addBoard_22 : decode cX6_addBoard 22 = .ok (.aload_n 0, 1) := by decide +kernel
theorem dX6_addBoard_23 : decode cX6_addBoard 23 = .ok (.getfield 36, 3) := by decide +kernel
theorem dX6_addBoard_26 : decode cX6_addBoard 26 = .ok (.iload_n 1, 1) := by decide +kernel
theorem dX6_addBoard_27 : decode cX6_addBoard 27 = .ok (.iastore, 1) := by decide +kernel
theorem dX6_addBoard_28 : decode cX6_addBoard 28 = .ok (.aload_n 0, 1) := by decide +kernel
theorem dX6_addBoard_29 : decode cX6_addBoard 29 = .ok (.getfield 15, 3) := by decide +kernel
theorem dX6_addBoard_32 : decode cX6_addBoard 32 = .ok (.aload_n 0, 1) := by decide +kernel
theorem dX6_addBoard_33 : decode cX6_addBoard 33 = .ok (.getfield 36, 3) := by decide +kernel
theorem dX6_addBoard_36 : decode cX6_addBoard 36 = .ok (.iload_n 2, 1) := by decide +kernel
theorem dX6_addBoard_37 : decode cX6_addBoard 37 = .ok (.iastore, 1) := by decide +kernel
theorem dX6_addBoard_38 : decode cX6_addBoard 38 = .ok (.aload_n 0, 1) := by decide +kernel
theorem dX6_addBoard_39 : decode cX6_addBoard 39 = .ok (.dup, 1) := by decide +kernel
theorem dX6_addBoard_40 : decode cX6_addBoard 40 = .ok (.getfield 36, 3) := by decide +kernel
theorem dX6_addBoard_43 : decode cX6_addBoard 43 = .ok (.iconst 1, 1) := by decide +kernel
theorem dX6_addBoard_44 : decode cX6_addBoard 44 = .ok (.iadd, 1) := by decide +kernel
theorem dX6_addBoard_45 : decode cX6_addBoard 45 = .ok (.putfield 36, 3) := by decide +kernel
theorem dX6_addBoard_48 : decode cX6_addBoard 48 = .ok (.aload_n 0, 1) := by decide +kernel
theorem dX6_addBoard_49 : decode cX6_addBoard 49 = .ok (.iconst 1, 1) := by decide +kernel
theorem dX6_addBoard_50 : decode cX6_addBoard 50 = .ok (.putfield 58, 3) := by decide +kernel
theorem dX6_addBoard_53 : decode cX6_addBoard 53 = .ok (.aload_n 0, 1) := by decide +kernel
theorem dX6_addBoard_54 : decode cX6_addBoard 54 = .ok (.getfield 36, 3) := by decide +kernel
theorem dX6_addBoard_57 : decode cX6_addBoard 57 = .ok (.iconst 1, 1) := by decide +kernel
theorem dX6_addBoard_58 : decode cX6_addBoard 58 = .ok (.isub, 1) := by decide +kernel
theorem dX6_addBoard_59 : decode cX6_addBoard 59 = .ok (.ireturn, 1) := by decide +kernel
theorem dX6_removeBoard_0 : decode cX6_removeBoard 0 = .ok (.aload_n 0, 1) := by decide +kernel
theorem dX6_removeBoard_1 : decode cX6_removeBoard 1 = .ok (.getfield 36, 3) := by decide +kernel
theorem dX6_removeBoard_4 : decode cX6_removeBoard 4 = .ok (.ifCond .gt 5, 3) := by decide +kernel
theorem dX6_removeBoard_7 : decode cX6_removeBoard 7 = .ok (.iconst 0, 1) := by decide +kernel
theorem dX6_removeBoard_8 : decode cX6_removeBoard 8 = .ok (.ireturn, 1) := by decide +kernel
theorem dX6_removeBoard_9 : decode cX6_removeBoard 9 = .ok (.aload_n 0, 1) := by decide +kernel
theorem dX6_removeBoard_10 : decode cX6_removeBoard 10 = .ok (.dup, 1) := by decide +kernel
theorem dX6_removeBoard_11 : decode cX6_removeBoard 11 = .ok (.getfield 36, 3) := by decide +kernel
theorem dX6_removeBoard_14 : decode cX6_removeBoard 14 = .ok (.iconst 1, 1) := by decide +kernel
theorem dX6_removeBoard_15 : decode cX6_removeBoard 15 = .ok (.isub, 1) := by decide +kernel
theorem dX6_removeBoard_16 : decode cX6_removeBoard 16 = .ok (.putfield 36, 3) := by decide +kernel
theorem dX6_removeBoard_19 : decode cX6_removeBoard 19 = .ok (.aload_n 0, 1) := by decide +kernel
theorem dX6_removeBoard_20 : decode cX6_removeBoard 20 = .ok (.iconst 1, 1) := by decide +kernel
theorem dX6_removeBoard_21 : decode cX6_removeBoard 21 = .ok (.putfield 58, 3) := by decide +kernel
theorem dX6_removeBoard_24 : decode cX6_removeBoard 24 = .ok (.iconst 1, 1) := by decide +kernel
theorem dX6_removeBoard_25 : decode cX6_removeBoard 25 = .ok (.ireturn, 1) := by decide +kernel
theorem dX6_find_0 : decode cX6_find 0 = .ok (.aload_n 0, 1) := by decide +kernel
theorem dX6_find_1 : decode cX6_find 1 = .ok (.getfield 58, 3) := by decide +kernel
theorem dX6_find_4 : decode cX6_find 4 = .ok (.ifCond .ne 4, 3) := by decide +kernel
theorem dX6_find_7 : decode cX6_find 7 = .ok (.return_, 1) := by decide +kernel
theorem dX6_find_8 : decode cX6_find 8 = .ok (.aload_n 0, 1) := by decide +kernel
theorem dX6_find_9 : decode cX6_find 9 = .ok (.iconst 0, 1) := by decide +kernel
theorem dX6_find_10 : decode cX6_find 10 = .ok (.putfield 58, 3) := by decide +kernel
theorem dX6_find_13 : decode cX6_find 13 = .ok (.iconst 1, 1) := by decide +kernel
theorem dX6_find_14 : decode cX6_find 14 = .ok (.aload_n 0, 1) := by decide +kernel
theorem dX6_find_15 : decode cX6_find 15 = .ok (.getfield 36, 3) := by decide +kernel
theorem dX6_find_18 : decode cX6_find 18 = .ok (.ishl, 1) := by decide +kernel
theorem dX6_find_19 : decode cX6_find 19 = .ok (.sipush 1024, 3) := by decide +kernel
theorem dX6_find_22 : decode cX6_find 22 = .ok (.invokestatic 62, 3) := by decide +kernel
theorem dX6_find_25 : decode cX6_find 25 = .ok (.istore_n 1, 1) := by decide +kernel
theorem dX6_find_26 : decode cX6_find 26 = .ok (.iconst 0, 1) := by decide +kernel
theorem dX6_find_27 : decode cX6_find 27 = .ok (.istore_n 2, 1) := by decide +kernel
theorem dX6_find_28 : decode cX6_find 28 = .ok (.iload_n 2, 1) := by decide +kernel
theorem dX6_find_29 : decode cX6_find 29 = .ok (.aload_n 0, 1) := by decide +kernel
theorem dX6_find_30 : decode cX6_find 30 = .ok (.getfield 36, 3) := by decide +kernel
theorem dX6_find_33 : decode cX6_find 33 = .ok (.if_icmp .ge 14, 3) := by decide +kernel
theorem dX6_find_36 : decode cX6_find 36 = .ok (.aload_n 0, 1) := by decide +kernel
theorem dX6_find_37 : decode cX6_find 37 = .ok (.iload_n 2, 1) := by decide +kernel
theorem dX6_find_38 : decode cX6_find 38 = .ok (.invokevirtual 68, 3) := by decide +kernel
theorem dX6_find_41 : decode cX6_find 41 = .ok (.iinc 2 1, 3) := by decide +kernel
theorem dX6_find_44 : decode cX6_find 44 = .ok (.goto (-16), 3) := by decide +kernel
theorem dX6_find_47 : decode cX6_find 47 = .ok (.aload_n 0, 1) := by decide +kernel
theorem dX6_find_48 : decode cX6_find 48 = .ok (.getfield 27, 3) := by decide +kernel
theorem dX6_find_51 : decode cX6_find 51 = .ok (.iconst 0, 1) := by decide +kernel
theorem dX6_find_52 : decode cX6_find 52 = .ok (.iconst 0, 1) := by decide +kernel
theorem dX6_find_53 : decode cX6_find 53 = .ok (.iastore, 1) := by decide +kernel
theorem dX6_find_54 : decode cX6_find 54 = .ok (.iconst 1, 1) := by decide +kernel
theorem dX6_find_55 : decode cX6_find 55 = .ok (.istore_n 2, 1) := by decide +kernel
theorem dX6_find_56 : decode cX6_find 56 = .ok (.iload_n 2, 1) := by decide +kernel
theorem dX6_find_57 : decode cX6_find 57 = .ok (.iload_n 1, 1) := by decide +kernel
theorem dX6_find_58 : decode cX6_find 58 = .ok (.if_icmp .ge 20, 3) := by decide +kernel
theorem dX6_find_61 : decode cX6_find 61 = .ok (.aload_n 0, 1) := by decide +kernel
theorem dX6_find_62 : decode cX6_find 62 = .ok (.getfield 27, 3) := by decide +kernel
theorem dX6_find_65 : decode cX6_find 65 = .ok (.iload_n 2, 1) := by decide +kernel
theorem dX6_find_66 : decode cX6_find 66 = .ok (.aload_n 0, 1) := by decide +kernel
theorem dX6_find_67 : decode cX6_find 67 = .ok (.iload_n 2, 1) := by decide +kernel
theorem dX6_find_68 : decode cX6_find 68 = .ok (.invokevirtual 72, 3) := by decide +kernel
theorem dX6_find_71 : decode cX6_find 71 = .ok (.iastore, 1) := by decide +kernel
theorem dX6_find_72 : decode cX6_find 72 = .ok (.iinc 2 1, 3) := by decide +kernel
theorem dX6_find_75 : decode cX6_find 75 = .ok (.goto (-19), 3) := by decide +kernel
theorem dX6_find_78 : decode cX6_find 78 = .ok (.aload_n 0, 1) := by decide +kernel
theorem dX6_find_79 : decode cX6_find 79 = .ok (.iload_n 1, 1) := by decide +kernel
theorem dX6_find_80 : decode cX6_find 80 = .ok (.invokevirtual 76, 3) := by decide +kernel
theorem dX6_find_83 : decode cX6_find 83 = .ok (.aload_n 0, 1) := by decide +kernel
theorem dX6_find_84 : decode cX6_find 84 = .ok (.invokevirtual 79, 3) := by decide +kernel
theorem dX6_find_87 : decode cX6_find 87 = .ok (.return_, 1) := by decide +kernel
theorem dX6_describeSetsUpTo_0 : decode cX6_describeSetsUpTo 0 = .ok (.iload_n 1, 1) := by decide +kernel
theorem dX6_describeSetsUpTo_1 : decode cX6_describeSetsUpTo 1 = .ok (.ifCond .lt 9, 3) := by decide +kernel
theorem dX6_describeSetsUpTo_4 : decode cX6_describeSetsUpTo 4 = .ok (.iload_n 1, 1) := by decide +kernel
theorem dX6_describeSetsUpTo_5 : decode cX6_describeSetsUpTo 5 = .ok (.bipush 10, 2) := by decide +kernel
theorem dX6_describeSetsUpTo_7 : decode cX6_describeSetsUpTo 7 = .ok (.if_icmp .lt 4, 3) := by decide +kernel
theorem dX6_describeSetsUpTo_10 : decode cX6_describeSetsUpTo 10 = .ok (.return_, 1) := by decide +kernel
theorem dX6_describeSetsUpTo_11 : decode cX6_describeSetsUpTo 11 = .ok (.iconst 1, 1) := by decide +kernel
theorem dX6_describeSetsUpTo_12 : decode cX6_describeSetsUpTo 12 = .ok (.iload_n 1, 1) := by decide +kernel
theorem dX6_describeSetsUpTo_13 : decode cX6_describeSetsUpTo 13 = .ok (.ishl, 1) := by decide +kernel
theorem dX6_describeSetsUpTo_14 : decode cX6_describeSetsUpTo 14 = .ok (.istore_n 2, 1) := by decide +kernel
theorem dX6_describeSetsUpTo_15 : decode cX6_describeSetsUpTo 15 = .ok (.aload_n 0, 1) := by decide +kernel
theorem dX6_describeSetsUpTo_16 : decode cX6_describeSetsUpTo 16 = .ok (.getfield 11, 3) := by decide +kernel
theorem dX6_describeSetsUpTo_19 : decode cX6_describeSetsUpTo 19 = .ok (.iload_n 1, 1) := by decide +kernel
theorem dX6_describeSetsUpTo_20 : decode cX6_describeSetsUpTo 20 = .ok (.iaload, 1) := by decide +kernel
theorem dX6_describeSetsUpTo_21 : decode cX6_describeSetsUpTo 21 = .ok (.istore_n 3, 1) := by decide +kernel
theorem dX6_describeSetsUpTo_22 : decode cX6_describeSetsUpTo 22 = .ok (.aload_n 0, 1) := by decide +kernel
theorem dX6_describeSetsUpTo_23 : decode cX6_describeSetsUpTo 23 = .ok (.getfield 15, 3) := by decide +kernel
theorem dX6_describeSetsUpTo_26 : decode cX6_describeSetsUpTo 26 = .ok (.iload_n 1, 1) := by decide +kernel
theorem dX6_describeSetsUpTo_27 : decode cX6_describeSetsUpTo 27 = .ok (.iaload, 1) := by decide +kernel
theorem dX6_describeSetsUpTo_28 : decode cX6_describeSetsUpTo 28 = .ok (.istore 4, 2) := by decide +kernel
theorem dX6_describeSetsUpTo_30 : decode cX6_describeSetsUpTo 30 = .ok (.iconst 0, 1) := by decide +kernel
theorem dX6_describeSetsUpTo_31 : decode cX6_describeSetsUpTo 31 = .ok (.istore 5, 2) := by decide +kernel
theorem dX6_describeSetsUpTo_33 : decode cX6_describeSetsUpTo 33 = .ok (.iload 5, 2) := by decide +kernel
theorem dX6_describeSetsUpTo_35 : decode cX6_describeSetsUpTo 35 = .ok (.iload_n 2, 1) := by decide +kernel
theorem dX6_describeSetsUpTo_36 : decode cX6_describeSetsUpTo 36 = .ok (.if_icmp .ge 174, 3) := by decide +kernel
theorem dX6_describeSetsUpTo_39 : decode cX6_describeSetsUpTo 39 = .ok (.iload 5, 2) := by decide +kernel
theorem dX6_describeSetsUpTo_41 : decode cX6_describeSetsUpTo 41 = .ok (.iload_n 2, 1) := by decide +kernel
theorem dX6_describeSetsUpTo_42 : decode cX6_describeSetsUpTo 42 = .ok (.iadd, 1) := by decide +kernel
theorem dX6_describeSetsUpTo_43 : decode cX6_describeSetsUpTo 43 = .ok (.sipush 1024, 3) := by decide +kernel
theorem dX6_describeSetsUpTo_46 : decode cX6_describeSetsUpTo 46 = .ok (.if_icmp .ge 164, 3) := by decide +kernel
theorem dX6_describeSetsUpTo_49 : decode cX6_describeSetsUpTo 49 = .ok (.iload 5, 2) := by decide +kernel
theorem dX6_describeSetsUpTo_51 : decode cX6_describeSetsUpTo 51 = .ok (.iload_n 2, 1) := by decide +kernel
theorem dX6_describeSetsUpTo_52 : decode cX6_describeSetsUpTo 52 = .ok (.iadd, 1) := by decide +kernel
theorem dX6_describeSetsUpTo_53 : decode cX6_describeSetsUpTo 53 = .ok (.istore 6, 2) := by decide +kernel
theorem dX6_describeSetsUpTo_55 : decode cX6_describeSetsUpTo 55 = .ok (.aload_n 0, 1) := by decide +kernel
theorem dX6_describeSetsUpTo_56 : decode cX6_describeSetsUpTo 56 = .ok (.getfield 21, 3) := by decide +kernel
theorem dX6_describeSetsUpTo_59 : decode cX6_describeSetsUpTo 59 = .ok (.iload 6, 2) := by decide +kernel
theorem dX6_describeSetsUpTo_61 : decode cX6_describeSetsUpTo 61 = .ok (.iload 5, 2) := by decide +kernel
theorem dX6_describeSetsUpTo_63 : decode cX6_describeSetsUpTo 63 = .ok (.ifCond .ne 8, 3) := by decide +kernel
theorem dX6_describeSetsUpTo_66 : decode cX6_describeSetsUpTo 66 = .ok (.iload 4, 2) := by decide +kernel
theorem dX6_describeSetsUpTo_68 : decode cX6_describeSetsUpTo 68 = .ok (.goto 15, 3) := by decide +kernel
theorem dX6_describeSetsUpTo_71 : decode cX6_describeSetsUpTo 71 = .ok (.aload_n 0, 1) := by decide +kernel
theorem dX6_describeSetsUpTo_72 : decode cX6_describeSetsUpTo 72 = .ok (.getfield 21, 3) := by decide +kernel
theorem dX6_describeSetsUpTo_75 : decode cX6_describeSetsUpTo 75 = .ok (.iload 5, 2) := by decide +kernel
theorem dX6_describeSetsUpTo_77 : decode cX6_describeSetsUpTo 77 = .ok (.iaload, 1) := by decide +kernel
theorem dX6_describeSetsUpTo_78 : decode cX6_describeSetsUpTo 78 = .ok (.iload 4, 2) := by decide +kernel
theorem dX6_describeSetsUpTo_80 : decode cX6_describeSetsUpTo 80 = .ok (.invokestatic 82, 3) := by decide +kernel
theorem dX6_describeSetsUpTo_83 : decode cX6_describeSetsUpTo 83 = .ok (.iastore, 1) := by decide +kernel
theorem dX6_describeSetsUpTo_84 : decode cX6_describeSetsUpTo 84 = .ok (.aload_n 0, 1) := by decide +kernel
theorem dX6_describeSetsUpTo_85 : decode cX6_describeSetsUpTo 85 = .ok (.getfield 24, 3) := by decide +kernel
theorem dX6_describeSetsUpTo_88 : decode cX6_describeSetsUpTo 88 = .ok (.iload 6, 2) := by decide +kernel
theorem dX6_describeSetsUpTo_90 : decode cX6_describeSetsUpTo 90 = .ok (.iload 5, 2) := by decide +kernel
theorem dX6_describeSetsUpTo_92 : decode cX6_describeSetsUpTo 92 = .ok (.ifCond .ne 13, 3) := by decide +kernel
theorem dX6_describeSetsUpTo_95 : decode cX6_describeSetsUpTo 95 = .ok (.iload 4, 2) := by decide +kernel
theorem dX6_describeSetsUpTo_97 : decode cX6_describeSetsUpTo 97 = .ok (.aload_n 0, 1) := by decide +kernel
theorem dX6_describeSetsUpTo_98 : decode cX6_describeSetsUpTo 98 = .ok (.getfield 49, 3) := by decide +kernel
theorem dX6_describeSetsUpTo_101 : decode cX6_describeSetsUpTo 101 = .ok (.iadd, 1) := by decide +kernel
theorem dX6_describeSetsUpTo_102 : decode cX6_describeSetsUpTo 102 = .ok (.goto 20, 3) := by decide +kernel
theorem dX6_describeSetsUpTo_105 : decode cX6_describeSetsUpTo 105 = .ok (.aload_n 0, 1) := by decide +kernel
theorem dX6_describeSetsUpTo_106 : decode cX6_describeSetsUpTo 106 = .ok (.getfield 24, 3) := by decide +kernel
theorem dX6_describeSetsUpTo_109 : decode cX6_describeSetsUpTo 109 = .ok (.iload 5, 2) := by decide +kernel
theorem dX6_describeSetsUpTo_111 : decode cX6_describeSetsUpTo 111 = .ok (.iaload, 1) := by decide +kernel
theorem dX6_describeSetsUpTo_112 : decode cX6_describeSetsUpTo 112 = .ok (.iload 4, 2) := by decide +kernel
theorem dX6_describeSetsUpTo_114 : decode cX6_describeSetsUpTo 114 = .ok (.aload_n 0, 1) := by decide +kernel
theorem dX6_describeSetsUpTo_115 : decode cX6_describeSetsUpTo 115 = .ok (.getfield 49, 3) := by decide +kernel
theorem dX6_describeSetsUpTo_118 : decode cX6_describeSetsUpTo 118 = .ok (.iadd, 1) := by decide +kernel
theorem dX6_describeSetsUpTo_119 : decode cX6_describeSetsUpTo 119 = .ok (.invokestatic 62, 3) := by decide +kernel
theorem dX6_describeSetsUpTo_122 : decode cX6_describeSetsUpTo 122 = .ok (.iastore, 1) := by decide +kernel
theorem dX6_describeSetsUpTo_123 : decode cX6_describeSetsUpTo 123 = .ok (.iload 5, 2) := by decide +kernel
theorem dX6_describeSetsUpTo_125 : decode cX6_describeSetsUpTo 125 = .ok (.ifCond .eq 14, 3) := by decide +kernel
theorem dX6_describeSetsUpTo_128 : decode cX6_describeSetsUpTo 128 = .ok (.aload_n 0, 1) := by decide +kernel
theorem dX6_describeSetsUpTo_129 : decode cX6_describeSetsUpTo 129 = .ok (.getfield 18, 3) := by decide +kernel
theorem dX6_describeSetsUpTo_132 : decode cX6_describeSetsUpTo 132 = .ok (.iload 5, 2) := by decide +kernel
theorem dX6_describeSetsUpTo_134 : decode cX6_describeSetsUpTo 134 = .ok (.iaload, 1) := by decide +kernel
theorem dX6_describeSetsUpTo_135 : decode cX6_describeSetsUpTo 135 = .ok (.iload_n 3, 1) := by decide +kernel
theorem dX6_describeSetsUpTo_136 : decode cX6_describeSetsUpTo 136 = .ok (.if_icmp .ne 7, 3) := by decide +kernel
theorem dX6_describeSetsUpTo_139 : decode cX6_describeSetsUpTo 139 = .ok (.iconst 1, 1) := by decide +kernel
theorem dX6_describeSetsUpTo_140 : decode cX6_describeSetsUpTo 140 = .ok (.goto 4, 3) := by decide +kernel
theorem dX6_describeSetsUpTo_143 : decode cX6_describeSetsUpTo 143 = .ok (.iconst 0, 1) := by decide +kernel
theorem dX6_describeSetsUpTo_144 : decode cX6_describeSetsUpTo 144 = .ok (.istore 7, 2) := by decide +kernel
theorem dX6_describeSetsUpTo_146 : decode cX6_describeSetsUpTo 146 = .ok (.iload 6, 2) := by decide +kernel
theorem dX6_describeSetsUpTo_148 : decode cX6_describeSetsUpTo 148 = .ok (.invokestatic 85, 3) := by decide +kernel
theorem dX6_describeSetsUpTo_151 : decode cX6_describeSetsUpTo 151 = .ok (.aload_n 0, 1) := by decide +kernel
theorem dX6_describeSetsUpTo_152 : decode cX6_describeSetsUpTo 152 = .ok (.getfield 40, 3) := by decide +kernel
theorem dX6_describeSetsUpTo_155 : decode cX6_describeSetsUpTo 155 = .ok (.if_icmp .gt 24, 3) := by decide +kernel
theorem dX6_describeSetsUpTo_158 : decode cX6_describeSetsUpTo 158 = .ok (.aload_n 0, 1) := by decide +kernel
theorem dX6_describeSetsUpTo_159 : decode cX6_describeSetsUpTo 159 = .ok (.getfield 21, 3) := by decide +kernel
theorem dX6_describeSetsUpTo_162 : decode cX6_describeSetsUpTo 162 = .ok (.iload 6, 2) := by decide +kernel
theorem dX6_describeSetsUpTo_164 : decode cX6_describeSetsUpTo 164 = .ok (.iaload, 1) := by decide +kernel
theorem dX6_describeSetsUpTo_165 : decode cX6_describeSetsUpTo 165 = .ok (.aload_n 0, 1) := by decide +kernel
theorem dX6_describeSetsUpTo_166 : decode cX6_describeSetsUpTo 166 = .ok (.getfield 24, 3) := by decide +kernel
theorem dX6_describeSetsUpTo_169 : decode cX6_describeSetsUpTo 169 = .ok (.iload 6, 2) := by decide +kernel
theorem dX6_describeSetsUpTo_171 : decode cX6_describeSetsUpTo 171 = .ok (.iaload, 1) := by decide +kernel
theorem dX6_describeSetsUpTo_172 : decode cX6_describeSetsUpTo 172 = .ok (.if_icmp .gt 7, 3) := by decide +kernel
theorem dX6_describeSetsUpTo_175 : decode cX6_describeSetsUpTo 175 = .ok (.iconst 1, 1) := by decide +kernel
theorem dX6_describeSetsUpTo_176 : decode cX6_describeSetsUpTo 176 = .ok (.goto 4, 3) := by decide +kernel
theorem dX6_describeSetsUpTo_179 : decode cX6_describeSetsUpTo 179 = .ok (.iconst 0, 1) := by decide +kernel
theorem dX6_describeSetsUpTo_180 : decode cX6_describeSetsUpTo 180 = .ok (.istore 8, 2) := by decide +kernel
theorem dX6_describeSetsUpTo_182 : decode cX6_describeSetsUpTo 182 = .ok (.aload_n 0, 1) := by decide +kernel
theorem dX6_describeSetsUpTo_183 : decode cX6_describeSetsUpTo 183 = .ok (.getfield 18, 3) := by decide +kernel
theorem dX6_describeSetsUpTo_186 : decode cX6_describeSetsUpTo 186 = .ok (.iload 6, 2) := by decide +kernel
theorem dX6_describeSetsUpTo_188 : decode cX6_describeSetsUpTo 188 = .ok (.iload 7, 2) := by decide +kernel
theorem dX6_describeSetsUpTo_190 : decode cX6_describeSetsUpTo 190 = .ok (.ifCond .eq 12, 3) := by decide +kernel
theorem dX6_describeSetsUpTo_193 : decode cX6_describeSetsUpTo 193 = .ok (.iload 8, 2) := by decide +kernel
theorem dX6_describeSetsUpTo_195 : decode cX6_describeSetsUpTo 195 = .ok (.ifCond .eq 7, 3) := by decide +kernel
theorem dX6_describeSetsUpTo_198 : decode cX6_describeSetsUpTo 198 = .ok (.iload_n 3, 1) := by decide +kernel
theorem dX6_describeSetsUpTo_199 : decode cX6_describeSetsUpTo 199 = .ok (.goto 4, 3) := by decide +kernel
theorem dX6_describeSetsUpTo_202 : decode cX6_describeSetsUpTo 202 = .ok (.iconst 0, 1) := by decide +kernel
theorem dX6_describeSetsUpTo_203 : decode cX6_describeSetsUpTo 203 = .ok (.iastore, 1) := by decide +kernel
theorem dX6_describeSetsUpTo_204 : decode cX6_describeSetsUpTo 204 = .ok (.iinc 5 1, 3) := by decide +kernel
theorem dX6_describeSetsUpTo_207 : decode cX6_describeSetsUpTo 207 = .ok (.goto (-174), 3) := by decide +kernel
theorem dX6_describeSetsUpTo_210 : decode cX6_describeSetsUpTo 210 = .ok (.return_, 1) := by decide +kernel
theorem dX6_findEnding_0 : decode cX6_findEnding 0 = .ok (.iconst (-1), 1) := by decide +kernel
theorem dX6_findEnding_1 : decode cX6_findEnding 1 = .ok (.istore_n 2, 1) := by decide +kernel
theorem dX6_findEnding_2 : decode cX6_findEnding 2 = .ok (.iconst 1, 1) := by decide +kernel
theorem dX6_findEnding_3 : decode cX6_findEnding 3 = .ok (.iload_n 1, 1) := by decide +kernel
theorem dX6_findEnding_4 : decode cX6_findEnding 4 = .ok (.invokestatic 85, 3) := by decide +kernel
theorem dX6_findEnding_7 : decode cX6_findEnding 7 = .ok (.ishl, 1) := by decide +kernel
theorem dX6_findEnding_8 : decode cX6_findEnding 8 = .ok (.istore_n 3, 1) := by decide +kernel
theorem dX6_findEnding_9 : decode cX6_findEnding 9 = .ok (.iconst 0, 1) := by decide +kernel
theorem dX6_findEnding_10 : decode cX6_findEnding 10 = .ok (.istore 4, 2) := by decide +kernel
theorem dX6_findEnding_12 : decode cX6_findEnding 12 = .ok (.iconst 1, 1) := by decide +kernel
theorem dX6_findEnding_13 : decode cX6_findEnding 13 = .ok (.istore 5, 2) := by decide +kernel
theorem dX6_findEnding_15 : decode cX6_findEnding 15 = .ok (.iload 5, 2) := by decide +kernel
theorem dX6_findEnding_17 : decode cX6_findEnding 17 = .ok (.iload_n 3, 1) := by decide +kernel
theorem dX6_findEnding_18 : decode cX6_findEnding 18 = .ok (.if_icmp .ge 63, 3) := by decide +kernel
theorem dX6_findEnding_21 : decode cX6_findEnding 21 = .ok (.iload 4, 2) := by decide +kernel
theorem dX6_findEnding_23 : decode cX6_findEnding 23 = .ok (.iload_n 1, 1) := by decide +kernel
theorem dX6_findEnding_24 : decode cX6_findEnding 24 = .ok (.isub, 1) := by decide +kernel
theorem dX6_findEnding_25 : decode cX6_findEnding 25 = .ok (.iload_n 1, 1) := by decide +kernel
theorem dX6_findEnding_26 : decode cX6_findEnding 26 = .ok (.iand, 1) := by decide +kernel
theorem dX6_findEnding_27 : decode cX6_findEnding 27 = .ok (.istore 4, 2) := by decide +kernel
theorem dX6_findEnding_29 : decode cX6_findEnding 29 = .ok (.aload_n 0, 1) := by decide +kernel
theorem dX6_findEnding_30 : decode cX6_findEnding 30 = .ok (.iload 4, 2) := by decide +kernel
theorem dX6_findEnding_32 : decode cX6_findEnding 32 = .ok (.iload_n 1, 1) := by decide +kernel
theorem dX6_findEnding_33 : decode cX6_findEnding 33 = .ok (.iload 4, 2) := by decide +kernel
theorem dX6_findEnding_35 : decode cX6_findEnding 35 = .ok (.isub, 1) := by decide +kernel
theorem dX6_findEnding_36 : decode cX6_findEnding 36 = .ok (.invokevirtual 90, 3) := by decide +kernel
theorem dX6_findEnding_39 : decode cX6_findEnding 39 = .ok (.istore 6, 2) := by decide +kernel
theorem dX6_findEnding_41 : decode cX6_findEnding 41 = .ok (.iload 6, 2) := by decide +kernel
theorem dX6_findEnding_43 : decode cX6_findEnding 43 = .ok (.iconst (-1), 1) := by decide +kernel
theorem dX6_findEnding_44 : decode cX6_findEnding 44 = .ok (.if_icmp .eq 31, 3) := by decide +kernel
theorem dX6_findEnding_47 : decode cX6_findEnding 47 = .ok (.iload_n 2, 1) := by decide +kernel
theorem dX6_findEnding_48 : decode cX6_findEnding 48 = .ok (.iconst (-1), 1) := by decide +kernel
theorem dX6_findEnding_49 : decode cX6_findEnding 49 = .ok (.if_icmp .eq 16, 3) := by decide +kernel
theorem dX6_findEnding_52 : decode cX6_findEnding 52 = .ok (.iload 6, 2) := by decide +kernel
theorem dX6_findEnding_54 : decode cX6_findEnding 54 = .ok (.sipush 1024, 3) := by decide +kernel
theorem dX6_findEnding_57 : decode cX6_findEnding 57 = .ok (.imul, 1) := by decide +kernel
theorem dX6_findEnding_58 : decode cX6_findEnding 58 = .ok (.iload 4, 2) := by decide +kernel
theorem dX6_findEnding_60 : decode cX6_findEnding 60 = .ok (.iadd, 1) := by decide +kernel
theorem dX6_findEnding_61 : decode cX6_findEnding 61 = .ok (.iload_n 2, 1) := by decide +kernel
theorem dX6_findEnding_62 : decode cX6_findEnding 62 = .ok (.if_icmp .ge 13, 3) := by decide +kernel
theorem dX6_findEnding_65 : decode cX6_findEnding 65 = .ok (.iload 6, 2) := by decide +kernel
theorem dX6_findEnding_67 : decode cX6_findEnding 67 = .ok (.sipush 1024, 3) := by decide +kernel
theorem dX6_findEnding_70 : decode cX6_findEnding 70 = .ok (.imul, 1) := by decide +kernel
theorem dX6_findEnding_71 : decode cX6_findEnding 71 = .ok (.iload 4, 2) := by decide +kernel
theorem dX6_findEnding_73 : decode cX6_findEnding 73 = .ok (.iadd, 1) := by decide +kernel
theorem dX6_findEnding_74 : decode cX6_findEnding 74 = .ok (.istore_n 2, 1) := by decide +kernel
theorem dX6_findEnding_75 : decode cX6_findEnding 75 = .ok (.iinc 5 1, 3) := by decide +kernel
theorem dX6_findEnding_78 : decode cX6_findEnding 78 = .ok (.goto (-63), 3) := by decide +kernel
theorem dX6_findEnding_81 : decode cX6_findEnding 81 = .ok (.iload_n 2, 1) := by decide +kernel
theorem dX6_findEnding_82 : decode cX6_findEnding 82 = .ok (.ireturn, 1) := by decide +kernel
theorem dX6_outWith_0 : decode cX6_outWith 0 = .ok (.iload_n 1, 1) := by decide +kernel
theorem dX6_outWith_1 : decode cX6_outWith 1 = .ok (.ifCond .lt 21, 3) := by decide +kernel
theorem dX6_outWith_4 : decode cX6_outWith 4 = .ok (.iload_n 1, 1) := by decide +kernel
theorem dX6_outWith_5 : decode cX6_outWith 5 = .ok (.sipush 1024, 3) := by decide +kernel
theorem dX6_outWith_8 : decode cX6_outWith 8 = .ok (.if_icmp .ge 14, 3) := by decide +kernel
theorem dX6_outWith_11 : decode cX6_outWith 11 = .ok (.iload_n 2, 1) := by decide +kernel
theorem dX6_outWith_12 : decode cX6_outWith 12 = .ok (.ifCond .lt 10, 3) := by decide +kernel
theorem dX6_outWith_15 : decode cX6_outWith 15 = .ok (.iload_n 2, 1) := by decide +kernel
theorem dX6_outWith_16 : decode cX6_outWith 16 = .ok (.sipush 1024, 3) := by decide +kernel
theorem dX6_outWith_19 : decode cX6_outWith 19 = .ok (.if_icmp .lt 5, 3) := by decide +kernel
theorem dX6_outWith_22 : decode cX6_outWith 22 = .ok (.iconst (-1), 1) := by decide +kernel
theorem dX6_outWith_23 : decode cX6_outWith 23 = .ok (.ireturn, 1) := by decide +kernel
theorem dX6_outWith_24 : decode cX6_outWith 24 = .ok (.aload_n 0, 1) := by decide +kernel
theorem dX6_outWith_25 : decode cX6_outWith 25 = .ok (.getfield 18, 3) := by decide +kernel
theorem dX6_outWith_28 : decode cX6_outWith 28 = .ok (.iload_n 1, 1) := by decide +kernel
theorem dX6_outWith_29 : decode cX6_outWith 29 = .ok (.iaload, 1) := by decide +kernel
theorem dX6_outWith_30 : decode cX6_outWith 30 = .ok (.ifCond .eq 13, 3) := by decide +kernel
theorem dX6_outWith_33 : decode cX6_outWith 33 = .ok (.aload_n 0, 1) := by decide +kernel
theorem dX6_outWith_34 : decode cX6_outWith 34 = .ok (.getfield 27, 3) := by decide +kernel
theorem dX6_outWith_37 : decode cX6_outWith 37 = .ok (.iload_n 2, 1) := by decide +kernel
theorem dX6_outWith_38 : decode cX6_outWith 38 = .ok (.iaload, 1) := by decide +kernel
theorem dX6_outWith_39 : decode cX6_outWith 39 = .ok (.iconst (-1), 1) := by decide +kernel
theorem dX6_outWith_40 : decode cX6_outWith 40 = .ok (.if_icmp .ne 5, 3) := by decide +kernel
theorem dX6_outWith_43 : decode cX6_outWith 43 = .ok (.iconst (-1), 1) := by decide +kernel
theorem dX6_outWith_44 : decode cX6_outWith 44 = .ok (.ireturn, 1) := by decide +kernel
theorem dX6_outWith_45 : decode cX6_outWith 45 = .ok (.aload_n 0, 1) := by decide +kernel
theorem dX6_outWith_46 : decode cX6_outWith 46 = .ok (.getfield 27, 3) := by decide +kernel
theorem dX6_outWith_49 : decode cX6_outWith 49 = .ok (.iload_n 2, 1) := by decide +kernel
theorem dX6_outWith_50 : decode cX6_outWith 50 = .ok (.iaload, 1) := by decide +kernel
theorem dX6_outWith_51 : decode cX6_outWith 51 = .ok (.sipush 1024, 3) := by decide +kernel
theorem dX6_outWith_54 : decode cX6_outWith 54 = .ok (.idiv, 1) := by decide +kernel
theorem dX6_outWith_55 : decode cX6_outWith 55 = .ok (.istore_n 3, 1) := by decide +kernel
theorem dX6_outWith_56 : decode cX6_outWith 56 = .ok (.iload_n 3, 1) := by decide +kernel
theorem dX6_outWith_57 : decode cX6_outWith 57 = .ok (.aload_n 0, 1) := by decide +kernel
theorem dX6_outWith_58 : decode cX6_outWith 58 = .ok (.getfield 24, 3) := by decide +kernel
theorem dX6_outWith_61 : decode cX6_outWith 61 = .ok (.iload_n 1, 1) := by decide +kernel
theorem dX6_outWith_62 : decode cX6_outWith 62 = .ok (.iaload, 1) := by decide +kernel
theorem dX6_outWith_63 : decode cX6_outWith 63 = .ok (.if_icmp .le 7, 3) := by decide +kernel
theorem dX6_outWith_66 : decode cX6_outWith 66 = .ok (.iconst (-1), 1) := by decide +kernel
theorem dX6_outWith_67 : decode cX6_outWith 67 = .ok (.goto 30, 3) := by decide +kernel
theorem dX6_outWith_70 : decode cX6_outWith 70 = .ok (.iload_n 3, 1) := by decide +kernel
theorem dX6_outWith_71 : decode cX6_outWith 71 = .ok (.aload_n 0, 1) := by decide +kernel
theorem dX6_outWith_72 : decode cX6_outWith 72 = .ok (.getfield 21, 3) := by decide +kernel
theorem dX6_outWith_75 : decode cX6_outWith 75 = .ok (.iload_n 1, 1) := by decide +kernel
theorem dX6_outWith_76 : decode cX6_outWith 76 = .ok (.iaload, 1) := by decide +kernel
theorem dX6_outWith_77 : decode cX6_outWith 77 = .ok (.invokestatic 82, 3) := by decide +kernel
theorem dX6_outWith_80 : decode cX6_outWith 80 = .ok (.aload_n 0, 1) := by decide +kernel
theorem dX6_outWith_81 : decode cX6_outWith 81 = .ok (.getfield 43, 3) := by decide +kernel
theorem dX6_outWith_84 : decode cX6_outWith 84 = .ok (.iadd, 1) := by decide +kernel
theorem dX6_outWith_85 : decode cX6_outWith 85 = .ok (.aload_n 0, 1) := by decide +kernel
theorem dX6_outWith_86 : decode cX6_outWith 86 = .ok (.getfield 46, 3) := by decide +kernel
theorem dX6_outWith_89 : decode cX6_outWith 89 = .ok (.aload_n 0, 1) := by decide +kernel
theorem dX6_outWith_90 : decode cX6_outWith 90 = .ok (.getfield 18, 3) := by decide +kernel
theorem dX6_outWith_93 : decode cX6_outWith 93 = .ok (.iload_n 1, 1) := by decide +kernel
theorem dX6_outWith_94 : decode cX6_outWith 94 = .ok (.iaload, 1) := by decide +kernel
theorem dX6_outWith_95 : decode cX6_outWith 95 = .ok (.imul, 1) := by decide +kernel
theorem dX6_outWith_96 : decode cX6_outWith 96 = .ok (.iadd, 1) := by decide +kernel
theorem dX6_outWith_97 : decode cX6_outWith 97 = .ok (.ireturn, 1) := by decide +kernel
theorem dX6_choose_0 : decode cX6_choose 0 = .ok (.aload_n 0, 1) := by decide +kernel
theorem dX6_choose_1 : decode cX6_choose 1 = .ok (.iconst 0, 1) := by decide +kernel
theorem dX6_choose_2 : decode cX6_choose 2 = .ok (.putfield 52, 3) := by decide +kernel
theorem dX6_choose_5 : decode cX6_choose 5 = .ok (.iconst 1, 1) := by decide +kernel
theorem dX6_choose_6 : decode cX6_choose 6 = .ok (.istore_n 2, 1) := by decide +kernel
theorem dX6_choose_7 : decode cX6_choose 7 = .ok (.iload_n 2, 1) := by decide +kernel
theorem dX6_choose_8 : decode cX6_choose 8 = .ok (.iload_n 1, 1) := by decide +kernel
theorem dX6_choose_9 : decode cX6_choose 9 = .ok (.if_icmp .ge 72, 3) := by decide +kernel
theorem dX6_choose_12 : decode cX6_choose 12 = .ok (.iload_n 2, 1) := by decide +kernel
theorem dX6_choose_13 : decode cX6_choose 13 = .ok (.invokestatic 85, 3) := by decide +kernel
theorem dX6_choose_16 : decode cX6_choose 16 = .ok (.aload_n 0, 1) := by decide +kernel
theorem dX6_choose_17 : decode cX6_choose 17 = .ok (.getfield 52, 3) := by decide +kernel
theorem dX6_choose_20 : decode cX6_choose 20 = .ok (.invokestatic 85, 3) := by decide +kernel
theorem dX6_choose_23 : decode cX6_choose 23 = .ok (.isub, 1) := by decide +kernel
theorem dX6_choose_24 : decode cX6_choose 24 = .ok (.istore_n 3, 1) := by decide +kernel
theorem dX6_choose_25 : decode cX6_choose 25 = .ok (.aload_n 0, 1) := by decide +kernel
theorem dX6_choose_26 : decode cX6_choose 26 = .ok (.iload_n 2, 1) := by decide +kernel
theorem dX6_choose_27 : decode cX6_choose 27 = .ok (.invokevirtual 93, 3) := by decide +kernel
theorem dX6_choose_30 : decode cX6_choose 30 = .ok (.aload_n 0, 1) := by decide +kernel
theorem dX6_choose_31 : decode cX6_choose 31 = .ok (.aload_n 0, 1) := by decide +kernel
theorem dX6_choose_32 : decode cX6_choose 32 = .ok (.getfield 52, 3) := by decide +kernel
theorem dX6_choose_35 : decode cX6_choose 35 = .ok (.invokevirtual 93, 3) := by decide +kernel
theorem dX6_choose_38 : decode cX6_choose 38 = .ok (.if_icmp .ge 7, 3) := by decide +kernel
theorem dX6_choose_41 : decode cX6_choose 41 = .ok (.iconst 1, 1) := by decide +kernel
theorem dX6_choose_42 : decode cX6_choose 42 = .ok (.goto 4, 3) := by decide +kernel
theorem dX6_choose_45 : decode cX6_choose 45 = .ok (.iconst 0, 1) := by decide +kernel
theorem dX6_choose_46 : decode cX6_choose 46 = .ok (.istore 4, 2) := by decide +kernel
theorem dX6_choose_48 : decode cX6_choose 48 = .ok (.aload_n 0, 1) := by decide +kernel
theorem dX6_choose_49 : decode cX6_choose 49 = .ok (.iload_n 2, 1) := by decide +kernel
theorem dX6_choose_50 : decode cX6_choose 50 = .ok (.invokevirtual 93, 3) := by decide +kernel
theorem dX6_choose_53 : decode cX6_choose 53 = .ok (.iconst (-1), 1) := by decide +kernel
theorem dX6_choose_54 : decode cX6_choose 54 = .ok (.if_icmp .eq 21, 3) := by decide +kernel
theorem dX6_choose_57 : decode cX6_choose 57 = .ok (.iload_n 3, 1) := by decide +kernel
theorem dX6_choose_58 : decode cX6_choose 58 = .ok (.ifCond .gt 12, 3) := by decide +kernel
theorem dX6_choose_61 : decode cX6_choose 61 = .ok (.iload_n 3, 1) := by decide +kernel
theorem dX6_choose_62 : decode cX6_choose 62 = .ok (.ifCond .ne 13, 3) := by decide +kernel
theorem dX6_choose_65 : decode cX6_choose 65 = .ok (.iload 4, 2) := by decide +kernel
theorem dX6_choose_67 : decode cX6_choose 67 = .ok (.ifCond .eq 8, 3) := by decide +kernel
theorem dX6_choose_70 : decode cX6_choose 70 = .ok (.aload_n 0, 1) := by decide +kernel
theorem dX6_choose_71 : decode cX6_choose 71 = .ok (.iload_n 2, 1) := by decide +kernel
theorem dX6_choose_72 : decode cX6_choose 72 = .ok (.putfield 52, 3) := by decide +kernel
theorem dX6_choose_75 : decode cX6_choose 75 = .ok (.iinc 2 1, 3) := by decide +kernel
theorem dX6_choose_78 : decode cX6_choose 78 = .ok (.goto (-71), 3) := by decide +kernel
theorem dX6_choose_81 : decode cX6_choose 81 = .ok (.return_, 1) := by decide +kernel
theorem dX6_outOf_0 : decode cX6_outOf 0 = .ok (.iload_n 1, 1) := by decide +kernel
theorem dX6_outOf_1 : decode cX6_outOf 1 = .ok (.ifCond .lt 20, 3) := by decide +kernel
theorem dX6_outOf_4 : decode cX6_outOf 4 = .ok (.iload_n 1, 1) := by decide +kernel
theorem dX6_outOf_5 : decode cX6_outOf 5 = .ok (.sipush 1024, 3) := by decide +kernel
theorem dX6_outOf_8 : decode cX6_outOf 8 = .ok (.if_icmp .ge 13, 3) := by decide +kernel
theorem dX6_outOf_11 : decode cX6_outOf 11 = .ok (.aload_n 0, 1) := by decide +kernel
theorem dX6_outOf_12 : decode cX6_outOf 12 = .ok (.getfield 27, 3) := by decide +kernel
theorem dX6_outOf_15 : decode cX6_outOf 15 = .ok (.iload_n 1, 1) := by decide +kernel
theorem dX6_outOf_16 : decode cX6_outOf 16 = .ok (.iaload, 1) := by decide +kernel
theorem dX6_outOf_17 : decode cX6_outOf 17 = .ok (.iconst (-1), 1) := by decide +kernel
theorem dX6_outOf_18 : decode cX6_outOf 18 = .ok (.if_icmp .ne 7, 3) := by decide +kernel
theorem dX6_outOf_21 : decode cX6_outOf 21 = .ok (.iconst (-1), 1) := by decide +kernel
theorem dX6_outOf_22 : decode cX6_outOf 22 = .ok (.goto 13, 3) := by decide +kernel
theorem dX6_outOf_25 : decode cX6_outOf 25 = .ok (.aload_n 0, 1) := by decide +kernel
theorem dX6_outOf_26 : decode cX6_outOf 26 = .ok (.getfield 27, 3) := by decide +kernel
theorem dX6_outOf_29 : decode cX6_outOf 29 = .ok (.iload_n 1, 1) := by decide +kernel
theorem dX6_outOf_30 : decode cX6_outOf 30 = .ok (.iaload, 1) := by decide +kernel
theorem dX6_outOf_31 : decode cX6_outOf 31 = .ok (.sipush 1024, 3) := by decide +kernel
theorem dX6_outOf_34 : decode cX6_outOf 34 = .ok (.idiv, 1) := by decide +kernel
theorem dX6_outOf_35 : decode cX6_outOf 35 = .ok (.ireturn, 1) := by decide +kernel
theorem dX6_lastLoadOf_0 : decode cX6_lastLoadOf 0 = .ok (.iload_n 1, 1) := by decide +kernel
theorem dX6_lastLoadOf_1 : decode cX6_lastLoadOf 1 = .ok (.ifCond .lt 20, 3) := by decide +kernel
theorem dX6_lastLoadOf_4 : decode cX6_lastLoadOf 4 = .ok (.iload_n 1, 1) := by decide +kernel
theorem dX6_lastLoadOf_5 : decode cX6_lastLoadOf 5 = .ok (.sipush 1024, 3) := by decide +kernel
theorem dX6_lastLoadOf_8 : decode cX6_lastLoadOf 8 = .ok (.if_icmp .ge 13, 3) := by decide +kernel
theorem dX6_lastLoadOf_11 : decode cX6_lastLoadOf 11 = .ok (.aload_n 0, 1) := by decide +kernel
theorem dX6_lastLoadOf_12 : decode cX6_lastLoadOf 12 = .ok (.getfield 27, 3) := by decide +kernel
theorem dX6_lastLoadOf_15 : decode cX6_lastLoadOf 15 = .ok (.iload_n 1, 1) := by decide +kernel
theorem dX6_lastLoadOf_16 : decode cX6_lastLoadOf 16 = .ok (.iaload, 1) := by decide +kernel
theorem dX6_lastLoadOf_17 : decode cX6_lastLoadOf 17 = .ok (.iconst (-1), 1) := by decide +kernel
theorem dX6_lastLoadOf_18 : decode cX6_lastLoadOf 18 = .ok (.if_icmp .ne 7, 3) := by decide +kernel
theorem dX6_lastLoadOf_21 : decode cX6_lastLoadOf 21 = .ok (.iconst 0, 1) := by decide +kernel
theorem dX6_lastLoadOf_22 : decode cX6_lastLoadOf 22 = .ok (.goto 13, 3) := by decide +kernel
theorem dX6_lastLoadOf_25 : decode cX6_lastLoadOf 25 = .ok (.aload_n 0, 1) := by decide +kernel
theorem dX6_lastLoadOf_26 : decode cX6_lastLoadOf 26 = .ok (.getfield 27, 3) := by decide +kernel
theorem dX6_lastLoadOf_29 : decode cX6_lastLoadOf 29 = .ok (.iload_n 1, 1) := by decide +kernel
theorem dX6_lastLoadOf_30 : decode cX6_lastLoadOf 30 = .ok (.iaload, 1) := by decide +kernel
theorem dX6_lastLoadOf_31 : decode cX6_lastLoadOf 31 = .ok (.sipush 1024, 3) := by decide +kernel
theorem dX6_lastLoadOf_34 : decode cX6_lastLoadOf 34 = .ok (.irem, 1) := by decide +kernel
theorem dX6_lastLoadOf_35 : decode cX6_lastLoadOf 35 = .ok (.ireturn, 1) := by decide +kernel
theorem dX6_listLoads_0 : decode cX6_listLoads 0 = .ok (.aload_n 0, 1) := by decide +kernel
theorem dX6_listLoads_1 : decode cX6_listLoads 1 = .ok (.iconst 0, 1) := by decide +kernel
theorem dX6_listLoads_2 : decode cX6_listLoads 2 = .ok (.putfield 55, 3) := by decide +kernel
theorem dX6_listLoads_5 : decode cX6_listLoads 5 = .ok (.aload_n 0, 1) := by decide +kernel
theorem dX6_listLoads_6 : decode cX6_listLoads 6 = .ok (.getfield 52, 3) := by decide +kernel
theorem dX6_listLoads_9 : decode cX6_listLoads 9 = .ok (.istore_n 1, 1) := by decide +kernel
theorem dX6_listLoads_10 : decode cX6_listLoads 10 = .ok (.iconst 0, 1) := by decide +kernel
theorem dX6_listLoads_11 : decode cX6_listLoads 11 = .ok (.istore_n 2, 1) := by decide +kernel
theorem dX6_listLoads_12 : decode cX6_listLoads 12 = .ok (.iload_n 2, 1) := by decide +kernel
theorem dX6_listLoads_13 : decode cX6_listLoads 13 = .ok (.bipush 10, 2) := by decide +kernel
theorem dX6_listLoads_15 : decode cX6_listLoads 15 = .ok (.if_icmp .ge 31, 3) := by decide +kernel
theorem dX6_listLoads_18 : decode cX6_listLoads 18 = .ok (.iload_n 1, 1) := by decide +kernel
theorem dX6_listLoads_19 : decode cX6_listLoads 19 = .ok (.ifCond .le 27, 3) := by decide +kernel
theorem dX6_listLoads_22 : decode cX6_listLoads 22 = .ok (.iload_n 1, 1) := by decide +kernel
theorem dX6_listLoads_23 : decode cX6_listLoads 23 = .ok (.aload_n 0, 1) := by decide +kernel
theorem dX6_listLoads_24 : decode cX6_listLoads 24 = .ok (.iload_n 1, 1) := by decide +kernel
theorem dX6_listLoads_25 : decode cX6_listLoads 25 = .ok (.invokevirtual 96, 3) := by decide +kernel
theorem dX6_listLoads_28 : decode cX6_listLoads 28 = .ok (.isub, 1) := by decide +kernel
theorem dX6_listLoads_29 : decode cX6_listLoads 29 = .ok (.istore_n 1, 1) := by decide +kernel
theorem dX6_listLoads_30 : decode cX6_listLoads 30 = .ok (.aload_n 0, 1) := by decide +kernel
theorem dX6_listLoads_31 : decode cX6_listLoads 31 = .ok (.dup, 1) := by decide +kernel
theorem dX6_listLoads_32 : decode cX6_listLoads 32 = .ok (.getfield 55, 3) := by decide +kernel
theorem dX6_listLoads_35 : decode cX6_listLoads 35 = .ok (.iconst 1, 1) := by decide +kernel
theorem dX6_listLoads_36 : decode cX6_listLoads 36 = .ok (.iadd, 1) := by decide +kernel
theorem dX6_listLoads_37 : decode cX6_listLoads 37 = .ok (.putfield 55, 3) := by decide +kernel
theorem dX6_listLoads_40 : decode cX6_listLoads 40 = .ok (.iinc 2 1, 3) := by decide +kernel
theorem dX6_listLoads_43 : decode cX6_listLoads 43 = .ok (.goto (-31), 3) := by decide +kernel
theorem dX6_listLoads_46 : decode cX6_listLoads 46 = .ok (.aload_n 0, 1) := by decide +kernel
theorem dX6_listLoads_47 : decode cX6_listLoads 47 = .ok (.getfield 52, 3) := by decide +kernel
theorem dX6_listLoads_50 : decode cX6_listLoads 50 = .ok (.istore_n 1, 1) := by decide +kernel
theorem dX6_listLoads_51 : decode cX6_listLoads 51 = .ok (.aload_n 0, 1) := by decide +kernel
theorem dX6_listLoads_52 : decode cX6_listLoads 52 = .ok (.getfield 55, 3) := by decide +kernel
theorem dX6_listLoads_55 : decode cX6_listLoads 55 = .ok (.iconst 1, 1) := by decide +kernel
theorem dX6_listLoads_56 : decode cX6_listLoads 56 = .ok (.isub, 1) := by decide +kernel
theorem dX6_listLoads_57 : decode cX6_listLoads 57 = .ok (.istore_n 2, 1) := by decide +kernel
theorem dX6_listLoads_58 : decode cX6_listLoads 58 = .ok (.iload_n 2, 1) := by decide +kernel
theorem dX6_listLoads_59 : decode cX6_listLoads 59 = .ok (.ifCond .lt 30, 3) := by decide +kernel
theorem dX6_listLoads_62 : decode cX6_listLoads 62 = .ok (.aload_n 0, 1) := by decide +kernel
theorem dX6_listLoads_63 : decode cX6_listLoads 63 = .ok (.iload_n 1, 1) := by decide +kernel
theorem dX6_listLoads_64 : decode cX6_listLoads 64 = .ok (.invokevirtual 96, 3) := by decide +kernel
theorem dX6_listLoads_67 : decode cX6_listLoads 67 = .ok (.istore_n 3, 1) := by decide +kernel
theorem dX6_listLoads_68 : decode cX6_listLoads 68 = .ok (.iload_n 1, 1) := by decide +kernel
theorem dX6_listLoads_69 : decode cX6_listLoads 69 = .ok (.iload_n 3, 1) := by decide +kernel
theorem dX6_listLoads_70 : decode cX6_listLoads 70 = .ok (.isub, 1) := by decide +kernel
theorem dX6_listLoads_71 : decode cX6_listLoads 71 = .ok (.istore_n 1, 1) := by decide +kernel
theorem dX6_listLoads_72 : decode cX6_listLoads 72 = .ok (.aload_n 0, 1) := by decide +kernel
theorem dX6_listLoads_73 : decode cX6_listLoads 73 = .ok (.iload_n 2, 1) := by decide +kernel
theorem dX6_listLoads_74 : decode cX6_listLoads 74 = .ok (.iload_n 3, 1) := by decide +kernel
theorem dX6_listLoads_75 : decode cX6_listLoads 75 = .ok (.aload_n 0, 1) := by decide +kernel
theorem dX6_listLoads_76 : decode cX6_listLoads 76 = .ok (.iload_n 1, 1) := by decide +kernel
theorem dX6_listLoads_77 : decode cX6_listLoads 77 = .ok (.invokevirtual 93, 3) := by decide +kernel
theorem dX6_listLoads_80 : decode cX6_listLoads 80 = .ok (.invokevirtual 99, 3) := by decide +kernel
theorem dX6_listLoads_83 : decode cX6_listLoads 83 = .ok (.iinc 2 (-1), 3) := by decide +kernel
theorem dX6_listLoads_86 : decode cX6_listLoads 86 = .ok (.goto (-28), 3) := by decide +kernel
theorem dX6_listLoads_89 : decode cX6_listLoads 89 = .ok (.return_, 1) := by decide +kernel
theorem dX6_writeLoad_0 : decode cX6_writeLoad 0 = .ok (.iload_n 1, 1) := by decide +kernel
theorem dX6_writeLoad_1 : decode cX6_writeLoad 1 = .ok (.ifCond .lt 20, 3) := by decide +kernel
theorem dX6_writeLoad_4 : decode cX6_writeLoad 4 = .ok (.iload_n 1, 1) := by decide +kernel
theorem dX6_writeLoad_5 : decode cX6_writeLoad 5 = .ok (.bipush 10, 2) := by decide +kernel
theorem dX6_writeLoad_7 : decode cX6_writeLoad 7 = .ok (.if_icmp .ge 14, 3) := by decide +kernel
theorem dX6_writeLoad_10 : decode cX6_writeLoad 10 = .ok (.iload_n 2, 1) := by decide +kernel
theorem dX6_writeLoad_11 : decode cX6_writeLoad 11 = .ok (.ifCond .lt 10, 3) := by decide +kernel
theorem dX6_writeLoad_14 : decode cX6_writeLoad 14 = .ok (.iload_n 2, 1) := by decide +kernel
theorem dX6_writeLoad_15 : decode cX6_writeLoad 15 = .ok (.sipush 1024, 3) := by decide +kernel
theorem dX6_writeLoad_18 : decode cX6_writeLoad 18 = .ok (.if_icmp .lt 4, 3) := by decide +kernel
theorem dX6_writeLoad_21 : decode cX6_writeLoad 21 = .ok (.return_, 1) := by decide +kernel
theorem dX6_writeLoad_22 : decode cX6_writeLoad 22 = .ok (.aload_n 0, 1) := by decide +kernel
theorem dX6_writeLoad_23 : decode cX6_writeLoad 23 = .ok (.getfield 30, 3) := by decide +kernel
theorem dX6_writeLoad_26 : decode cX6_writeLoad 26 = .ok (.iload_n 1, 1) := by decide +kernel
theorem dX6_writeLoad_27 : decode cX6_writeLoad 27 = .ok (.iload_n 2, 1) := by decide +kernel
theorem dX6_writeLoad_28 : decode cX6_writeLoad 28 = .ok (.iastore, 1) := by decide +kernel
theorem dX6_writeLoad_29 : decode cX6_writeLoad 29 = .ok (.aload_n 0, 1) := by decide +kernel
theorem dX6_writeLoad_30 : decode cX6_writeLoad 30 = .ok (.getfield 33, 3) := by decide +kernel
theorem dX6_writeLoad_33 : decode cX6_writeLoad 33 = .ok (.iload_n 1, 1) := by decide +kernel
theorem dX6_writeLoad_34 : decode cX6_writeLoad 34 = .ok (.iload_n 3, 1) := by decide +kernel
theorem dX6_writeLoad_35 : decode cX6_writeLoad 35 = .ok (.aload_n 0, 1) := by decide +kernel
theorem dX6_writeLoad_36 : decode cX6_writeLoad 36 = .ok (.getfield 21, 3) := by decide +kernel
theorem dX6_writeLoad_39 : decode cX6_writeLoad 39 = .ok (.iload_n 2, 1) := by decide +kernel
theorem dX6_writeLoad_40 : decode cX6_writeLoad 40 = .ok (.iaload, 1) := by decide +kernel
theorem dX6_writeLoad_41 : decode cX6_writeLoad 41 = .ok (.invokestatic 82, 3) := by decide +kernel
theorem dX6_writeLoad_44 : decode cX6_writeLoad 44 = .ok (.iastore, 1) := by decide +kernel
theorem dX6_writeLoad_45 : decode cX6_writeLoad 45 = .ok (.return_, 1) := by decide +kernel
theorem dX6_tell_0 : decode cX6_tell 0 = .ok (.iload_n 1, 1) := by decide +kernel
theorem dX6_tell_1 : decode cX6_tell 1 = .ok (.ifCond .lt 17, 3) := by decide +kernel
theorem dX6_tell_4 : decode cX6_tell 4 = .ok (.iload_n 1, 1) := by decide +kernel
theorem dX6_tell_5 : decode cX6_tell 5 = .ok (.aload_n 0, 1) := by decide +kernel
theorem dX6_tell_6 : decode cX6_tell 6 = .ok (.getfield 55, 3) := by decide +kernel
theorem dX6_tell_9 : decode cX6_tell 9 = .ok (.if_icmp .ge 9, 3) := by decide +kernel
theorem dX6_tell_12 : decode cX6_tell 12 = .ok (.iload_n 1, 1) := by decide +kernel
theorem dX6_tell_13 : decode cX6_tell 13 = .ok (.bipush 10, 2) := by decide +kernel
theorem dX6_tell_15 : decode cX6_tell 15 = .ok (.if_icmp .lt 5, 3) := by decide +kernel
theorem dX6_tell_18 : decode cX6_tell 18 = .ok (.iconst (-1), 1) := by decide +kernel
theorem dX6_tell_19 : decode cX6_tell 19 = .ok (.ireturn, 1) := by decide +kernel
theorem dX6_tell_20 : decode cX6_tell 20 = .ok (.iload_n 2, 1) := by decide +kernel
theorem dX6_tell_21 : decode cX6_tell 21 = .ok (.lookupswitch 41 #[(0, 27), (1, 34)], 27) := by decide +kernel
theorem dX6_tell_48 : decode cX6_tell 48 = .ok (.aload_n 0, 1) := by decide +kernel
theorem dX6_tell_49 : decode cX6_tell 49 = .ok (.getfield 30, 3) := by decide +kernel
theorem dX6_tell_52 : decode cX6_tell 52 = .ok (.iload_n 1, 1) := by decide +kernel
theorem dX6_tell_53 : decode cX6_tell 53 = .ok (.iaload, 1) := by decide +kernel
theorem dX6_tell_54 : decode cX6_tell 54 = .ok (.ireturn, 1) := by decide +kernel
theorem dX6_tell_55 : decode cX6_tell 55 = .ok (.aload_n 0, 1) := by decide +kernel
theorem dX6_tell_56 : decode cX6_tell 56 = .ok (.getfield 33, 3) := by decide +kernel
theorem dX6_tell_59 : decode cX6_tell 59 = .ok (.iload_n 1, 1) := by decide +kernel
theorem dX6_tell_60 : decode cX6_tell 60 = .ok (.iaload, 1) := by decide +kernel
theorem dX6_tell_61 : decode cX6_tell 61 = .ok (.ireturn, 1) := by decide +kernel
theorem dX6_tell_62 : decode cX6_tell 62 = .ok (.iconst (-1), 1) := by decide +kernel
theorem dX6_tell_63 : decode cX6_tell 63 = .ok (.ireturn, 1) := by decide +kernel
theorem dX7_init_0 : decode cX7_init 0 = .ok (.aload_n 0, 1) := by decide +kernel
theorem dX7_init_1 : decode cX7_init 1 = .ok (.invokespecial 3, 3) := by decide +kernel
theorem dX7_init_4 : decode cX7_init 4 = .ok (.aload_n 0, 1) := by decide +kernel
theorem dX7_init_5 : decode cX7_init 5 = .ok (.sipush 600, 3) := by decide +kernel
theorem dX7_init_8 : decode cX7_init 8 = .ok (.newarray .int, 2) := by decide +kernel
theorem dX7_init_10 : decode cX7_init 10 = .ok (.putfield 11, 3) := by decide +kernel
theorem dX7_init_13 : decode cX7_init 13 = .ok (.aload_n 0, 1) := by decide +kernel
theorem dX7_init_14 : decode cX7_init 14 = .ok (.iconst 0, 1) := by decide +kernel
theorem dX7_init_15 : decode cX7_init 15 = .ok (.putfield 15, 3) := by decide +kernel
theorem dX7_init_18 : decode cX7_init 18 = .ok (.return_, 1) := by decide +kernel
theorem dX7_hasRoomForFeed_0 : decode cX7_hasRoomForFeed 0 = .ok (.aload_n 0, 1) := by decide +kernel
theorem dX7_hasRoomForFeed_1 : decode cX7_hasRoomForFeed 1 = .ok (.getfield 15, 3) := by decide +kernel
theorem dX7_hasRoomForFeed_4 : decode cX7_hasRoomForFeed 4 = .ok (.bipush 20, 2) := by decide +kernel
theorem dX7_hasRoomForFeed_6 : decode cX7_hasRoomForFeed 6 = .ok (.iadd, 1) := by decide +kernel
theorem dX7_hasRoomForFeed_7 : decode cX7_hasRoomForFeed 7 = .ok (.aload_n 0, 1) := by decide +kernel
theorem dX7_hasRoomForFeed_8 : decode cX7_hasRoomForFeed 8 = .ok (.getfield 11, 3) := by decide +kernel
theorem dX7_hasRoomForFeed_11 : decode cX7_hasRoomForFeed 11 = .ok (.arraylength, 1) := by decide +kernel
theorem dX7_hasRoomForFeed_12 : decode cX7_hasRoomForFeed 12 = .ok (.if_icmp .gt 7, 3) := by decide +kernel
theorem dX7_hasRoomForFeed_15 : decode cX7_hasRoomForFeed 15 = .ok (.iconst 1, 1) := by decide +kernel
theorem dX7_hasRoomForFeed_16 : decode cX7_hasRoomForFeed 16 = .ok (.goto 4, 3) := by decide +kernel
theorem dX7_hasRoomForFeed_19 : decode cX7_hasRoomForFeed 19 = .ok (.iconst 0, 1) := by decide +kernel
theorem dX7_hasRoomForFeed_20 : decode cX7_hasRoomForFeed 20 = .ok (.ireturn, 1) := by decide +kernel
theorem dX7_append_0 : decode cX7_append 0 = .ok (.bipush 24, 2) := by decide +kernel
theorem dX7_append_2 : decode cX7_append 2 = .ok (.istore_n 2, 1) := by decide +kernel
theorem dX7_append_3 : decode cX7_append 3 = .ok (.iload_n 2, 1) := by decide +kernel
theorem dX7_append_4 : decode cX7_append 4 = .ok (.ifCond .lt 47, 3) := by decide +kernel
theorem dX7_append_7 : decode cX7_append 7 = .ok (.aload_n 0, 1) := by decide +kernel
theorem dX7_append_8 : decode cX7_append 8 = .ok (.getfield 15, 3) := by decide +kernel
theorem dX7_append_11 : decode cX7_append 11 = .ok (.aload_n 0, 1) := by decide +kernel
theorem dX7_append_12 : decode cX7_append 12 = .ok (.getfield 11, 3) := by decide +kernel
theorem dX7_append_15 : decode cX7_append 15 = .ok (.arraylength, 1) := by decide +kernel
theorem dX7_append_16 : decode cX7_append 16 = .ok (.if_icmp .ge 35, 3) := by decide +kernel
theorem dX7_append_19 : decode cX7_append 19 = .ok (.aload_n 0, 1) := by decide +kernel
theorem dX7_append_20 : decode cX7_append 20 = .ok (.getfield 11, 3) := by decide +kernel
theorem dX7_append_23 : decode cX7_append 23 = .ok (.aload_n 0, 1) := by decide +kernel
theorem dX7_append_24 : decode cX7_append 24 = .ok (.getfield 15, 3) := by decide +kernel
theorem dX7_append_27 : decode cX7_append 27 = .ok (.iload_n 1, 1) := by decide +kernel
theorem dX7_append_28 : decode cX7_append 28 = .ok (.iload_n 2, 1) := by decide +kernel
theorem dX7_append_29 : decode cX7_append 29 = .ok (.iushr, 1) := by decide +kernel
theorem dX7_append_30 : decode cX7_append 30 = .ok (.sipush 255, 3) := by decide +kernel
theorem dX7_append_33 : decode cX7_append 33 = .ok (.iand, 1) := by decide +kernel
theorem dX7_append_34 : decode cX7_append 34 = .ok (.iastore, 1) := by decide +kernel
theorem dX7_append_35 : decode cX7_append 35 = .ok (.aload_n 0, 1) := by decide +kernel
theorem dX7_append_36 : decode cX7_append 36 = .ok (.dup, 1) := by decide +kernel
theorem dX7_append_37 : decode cX7_append 37 = .ok (.getfield 15, 3) := by decide +kernel
theorem dX7_append_40 : decode cX7_append 40 = .ok (.iconst 1, 1) := by decide +kernel
theorem dX7_append_41 : decode cX7_append 41 = .ok (.iadd, 1) := by decide +kernel
theorem dX7_append_42 : decode cX7_append 42 = .ok (.putfield 15, 3) := by decide +kernel
theorem dX7_append_45 : decode cX7_append 45 = .ok (.iinc 2 (-8), 3) := by decide +kernel
theorem dX7_append_48 : decode cX7_append 48 = .ok (.goto (-45), 3) := by decide +kernel
theorem dX7_append_51 : decode cX7_append 51 = .ok (.return_, 1) := by decide +kernel
theorem dX7_keep_0 : decode cX7_keep 0 = .ok (.iload_n 1, 1) := by decide +kernel
theorem dX7_keep_1 : decode cX7_keep 1 = .ok (.ifCond .lt 11, 3) := by decide +kernel
theorem dX7_keep_4 : decode cX7_keep 4 = .ok (.iload_n 1, 1) := by decide +kernel
theorem dX7_keep_5 : decode cX7_keep 5 = .ok (.aload_n 0, 1) := by decide +kernel
theorem dX7_keep_6 : decode cX7_keep 6 = .ok (.getfield 15, 3) := by decide +kernel
theorem dX7_keep_9 : decode cX7_keep 9 = .ok (.if_icmp .le 5, 3) := by decide +kernel
theorem dX7_keep_12 : decode cX7_keep 12 = .ok (.iconst 0, 1) := by decide +kernel
theorem dX7_keep_13 : decode cX7_keep 13 = .ok (.ireturn, 1) := by decide +kernel
theorem dX7_keep_14 : decode cX7_keep 14 = .ok (.aload_n 0, 1) := by decide +kernel
end
section
theorem dX7_keep_15 : decode cX7_keep 15 = .ok (.iload_n 1, 1) := by decide +kernel
theorem dX7_keep_16 : decode cX7_keep 16 = .ok (.putfield 15, 3) := by decide +kernel
theorem dX7_keep_19 : decode cX7_keep 19 = .ok (.iconst 1, 1) := by decide +kernel
theorem dX7_keep_20 : decode cX7_keep 20 = .ok (.ireturn, 1) := by decide +kernel
theorem dX7_byteAt_0 : decode cX7_byteAt 0 = .ok (.iload_n 1, 1) := by decide +kernel
theorem dX7_byteAt_1 : decode cX7_byteAt 1 = .ok (.ifCond .lt 29, 3) := by decide +kernel
theorem dX7_byteAt_4 : decode cX7_byteAt 4 = .ok (.iload_n 1, 1) := by decide +kernel
theorem dX7_byteAt_5 : decode cX7_byteAt 5 = .ok (.aload_n 0, 1) := by decide +kernel
theorem dX7_byteAt_6 : decode cX7_byteAt 6 = .ok (.getfield 15, 3) := by decide +kernel
theorem dX7_byteAt_9 : decode cX7_byteAt 9 = .ok (.if_icmp .ge 21, 3) := by decide +kernel
theorem dX7_byteAt_12 : decode cX7_byteAt 12 = .ok (.iload_n 1, 1) := by decide +kernel
theorem dX7_byteAt_13 : decode cX7_byteAt 13 = .ok (.aload_n 0, 1) := by decide +kernel
theorem dX7_byteAt_14 : decode cX7_byteAt 14 = .ok (.getfield 11, 3) := by decide +kernel
theorem dX7_byteAt_17 : decode cX7_byteAt 17 = .ok (.arraylength, 1) := by decide +kernel
theorem dX7_byteAt_18 : decode cX7_byteAt 18 = .ok (.if_icmp .ge 12, 3) := by decide +kernel
theorem dX7_byteAt_21 : decode cX7_byteAt 21 = .ok (.aload_n 0, 1) := by decide +kernel
theorem dX7_byteAt_22 : decode cX7_byteAt 22 = .ok (.getfield 11, 3) := by decide +kernel
theorem dX7_byteAt_25 : decode cX7_byteAt 25 = .ok (.iload_n 1, 1) := by decide +kernel
theorem dX7_byteAt_26 : decode cX7_byteAt 26 = .ok (.iaload, 1) := by decide +kernel
theorem dX7_byteAt_27 : decode cX7_byteAt 27 = .ok (.goto 4, 3) := by decide +kernel
theorem dX7_byteAt_30 : decode cX7_byteAt 30 = .ok (.iconst (-1), 1) := by decide +kernel
theorem dX7_byteAt_31 : decode cX7_byteAt 31 = .ok (.ireturn, 1) := by decide +kernel
theorem dX8_init_0 : decode cX8_init 0 = .ok (.aload_n 0, 1) := by decide +kernel
theorem dX8_init_1 : decode cX8_init 1 = .ok (.invokespecial 3, 3) := by decide +kernel
theorem dX8_init_4 : decode cX8_init 4 = .ok (.aload_n 0, 1) := by decide +kernel
theorem dX8_init_5 : decode cX8_init 5 = .ok (.sipush 601, 3) := by decide +kernel
theorem dX8_init_8 : decode cX8_init 8 = .ok (.newarray .int, 2) := by decide +kernel
theorem dX8_init_10 : decode cX8_init 10 = .ok (.putfield 11, 3) := by decide +kernel
theorem dX8_init_13 : decode cX8_init 13 = .ok (.aload_n 0, 1) := by decide +kernel
theorem dX8_init_14 : decode cX8_init 14 = .ok (.sipush 601, 3) := by decide +kernel
theorem dX8_init_17 : decode cX8_init 17 = .ok (.newarray .int, 2) := by decide +kernel
theorem dX8_init_19 : decode cX8_init 19 = .ok (.putfield 17, 3) := by decide +kernel
theorem dX8_init_22 : decode cX8_init 22 = .ok (.aload_n 0, 1) := by decide +kernel
theorem dX8_init_23 : decode cX8_init 23 = .ok (.iconst 0, 1) := by decide +kernel
theorem dX8_init_24 : decode cX8_init 24 = .ok (.putfield 20, 3) := by decide +kernel
theorem dX8_init_27 : decode cX8_init 27 = .ok (.return_, 1) := by decide +kernel
theorem dX8_split_0 : decode cX8_split 0 = .ok (.aload_n 0, 1) := by decide +kernel
theorem dX8_split_1 : decode cX8_split 1 = .ok (.iconst 0, 1) := by decide +kernel
theorem dX8_split_2 : decode cX8_split 2 = .ok (.putfield 20, 3) := by decide +kernel
theorem dX8_split_5 : decode cX8_split 5 = .ok (.iconst 0, 1) := by decide +kernel
theorem dX8_split_6 : decode cX8_split 6 = .ok (.istore_n 2, 1) := by decide +kernel
theorem dX8_split_7 : decode cX8_split 7 = .ok (.iload_n 2, 1) := by decide +kernel
theorem dX8_split_8 : decode cX8_split 8 = .ok (.aload_n 1, 1) := by decide +kernel
theorem dX8_split_9 : decode cX8_split 9 = .ok (.getfield 24, 3) := by decide +kernel
theorem dX8_split_12 : decode cX8_split 12 = .ok (.if_icmp .ge 42, 3) := by decide +kernel
theorem dX8_split_15 : decode cX8_split 15 = .ok (.aload_n 1, 1) := by decide +kernel
theorem dX8_split_16 : decode cX8_split 16 = .ok (.iload_n 2, 1) := by decide +kernel
theorem dX8_split_17 : decode cX8_split 17 = .ok (.invokestatic 27, 3) := by decide +kernel
theorem dX8_split_20 : decode cX8_split 20 = .ok (.iload_n 2, 1) := by decide +kernel
theorem dX8_split_21 : decode cX8_split 21 = .ok (.iconst 1, 1) := by decide +kernel
theorem dX8_split_22 : decode cX8_split 22 = .ok (.iadd, 1) := by decide +kernel
theorem dX8_split_23 : decode cX8_split 23 = .ok (.invokestatic 31, 3) := by decide +kernel
theorem dX8_split_26 : decode cX8_split 26 = .ok (.istore_n 3, 1) := by decide +kernel
theorem dX8_split_27 : decode cX8_split 27 = .ok (.aload_n 1, 1) := by decide +kernel
theorem dX8_split_28 : decode cX8_split 28 = .ok (.iload_n 2, 1) := by decide +kernel
theorem dX8_split_29 : decode cX8_split 29 = .ok (.invokevirtual 37, 3) := by decide +kernel
theorem dX8_split_32 : decode cX8_split 32 = .ok (.invokestatic 41, 3) := by decide +kernel
theorem dX8_split_35 : decode cX8_split 35 = .ok (.ifCond .ne 14, 3) := by decide +kernel
theorem dX8_split_38 : decode cX8_split 38 = .ok (.aload_n 0, 1) := by decide +kernel
theorem dX8_split_39 : decode cX8_split 39 = .ok (.aload_n 1, 1) := by decide +kernel
theorem dX8_split_40 : decode cX8_split 40 = .ok (.iload_n 2, 1) := by decide +kernel
theorem dX8_split_41 : decode cX8_split 41 = .ok (.iload_n 3, 1) := by decide +kernel
theorem dX8_split_42 : decode cX8_split 42 = .ok (.invokestatic 45, 3) := by decide +kernel
theorem dX8_split_45 : decode cX8_split 45 = .ok (.iload_n 2, 1) := by decide +kernel
theorem dX8_split_46 : decode cX8_split 46 = .ok (.invokevirtual 49, 3) := by decide +kernel
theorem dX8_split_49 : decode cX8_split 49 = .ok (.iload_n 3, 1) := by decide +kernel
theorem dX8_split_50 : decode cX8_split 50 = .ok (.istore_n 2, 1) := by decide +kernel
theorem dX8_split_51 : decode cX8_split 51 = .ok (.goto (-44), 3) := by decide +kernel
theorem dX8_split_54 : decode cX8_split 54 = .ok (.aload_n 0, 1) := by decide +kernel
theorem dX8_split_55 : decode cX8_split 55 = .ok (.bipush (-22), 2) := by decide +kernel
theorem dX8_split_57 : decode cX8_split 57 = .ok (.aload_n 1, 1) := by decide +kernel
theorem dX8_split_58 : decode cX8_split 58 = .ok (.getfield 24, 3) := by decide +kernel
theorem dX8_split_61 : decode cX8_split 61 = .ok (.invokevirtual 49, 3) := by decide +kernel
theorem dX8_split_64 : decode cX8_split 64 = .ok (.return_, 1) := by decide +kernel
theorem dX8_add_0 : decode cX8_add 0 = .ok (.aload_n 0, 1) := by decide +kernel
theorem dX8_add_1 : decode cX8_add 1 = .ok (.getfield 20, 3) := by decide +kernel
theorem dX8_add_4 : decode cX8_add 4 = .ok (.ifCond .lt 45, 3) := by decide +kernel
theorem dX8_add_7 : decode cX8_add 7 = .ok (.aload_n 0, 1) := by decide +kernel
theorem dX8_add_8 : decode cX8_add 8 = .ok (.getfield 20, 3) := by decide +kernel
theorem dX8_add_11 : decode cX8_add 11 = .ok (.aload_n 0, 1) := by decide +kernel
theorem dX8_add_12 : decode cX8_add 12 = .ok (.getfield 11, 3) := by decide +kernel
theorem dX8_add_15 : decode cX8_add 15 = .ok (.arraylength, 1) := by decide +kernel
theorem dX8_add_16 : decode cX8_add 16 = .ok (.if_icmp .ge 33, 3) := by decide +kernel
theorem dX8_add_19 : decode cX8_add 19 = .ok (.aload_n 0, 1) := by decide +kernel
theorem dX8_add_20 : decode cX8_add 20 = .ok (.getfield 11, 3) := by decide +kernel
theorem dX8_add_23 : decode cX8_add 23 = .ok (.aload_n 0, 1) := by decide +kernel
theorem dX8_add_24 : decode cX8_add 24 = .ok (.getfield 20, 3) := by decide +kernel
theorem dX8_add_27 : decode cX8_add 27 = .ok (.iload_n 1, 1) := by decide +kernel
theorem dX8_add_28 : decode cX8_add 28 = .ok (.iastore, 1) := by decide +kernel
theorem dX8_add_29 : decode cX8_add 29 = .ok (.aload_n 0, 1) := by decide +kernel
theorem dX8_add_30 : decode cX8_add 30 = .ok (.getfield 17, 3) := by decide +kernel
theorem dX8_add_33 : decode cX8_add 33 = .ok (.aload_n 0, 1) := by decide +kernel
theorem dX8_add_34 : decode cX8_add 34 = .ok (.getfield 20, 3) := by decide +kernel
theorem dX8_add_37 : decode cX8_add 37 = .ok (.iload_n 2, 1) := by decide +kernel
theorem dX8_add_38 : decode cX8_add 38 = .ok (.iastore, 1) := by decide +kernel
theorem dX8_add_39 : decode cX8_add 39 = .ok (.aload_n 0, 1) := by decide +kernel
theorem dX8_add_40 : decode cX8_add 40 = .ok (.dup, 1) := by decide +kernel
theorem dX8_add_41 : decode cX8_add 41 = .ok (.getfield 20, 3) := by decide +kernel
theorem dX8_add_44 : decode cX8_add 44 = .ok (.iconst 1, 1) := by decide +kernel
theorem dX8_add_45 : decode cX8_add 45 = .ok (.iadd, 1) := by decide +kernel
theorem dX8_add_46 : decode cX8_add 46 = .ok (.putfield 20, 3) := by decide +kernel
theorem dX8_add_49 : decode cX8_add 49 = .ok (.return_, 1) := by decide +kernel
theorem dX8_endAt_0 : decode cX8_endAt 0 = .ok (.iload_n 1, 1) := by decide +kernel
theorem dX8_endAt_1 : decode cX8_endAt 1 = .ok (.istore_n 2, 1) := by decide +kernel
theorem dX8_endAt_2 : decode cX8_endAt 2 = .ok (.aload_n 0, 1) := by decide +kernel
theorem dX8_endAt_3 : decode cX8_endAt 3 = .ok (.iload_n 2, 1) := by decide +kernel
theorem dX8_endAt_4 : decode cX8_endAt 4 = .ok (.invokevirtual 37, 3) := by decide +kernel
theorem dX8_endAt_7 : decode cX8_endAt 7 = .ok (.invokestatic 53, 3) := by decide +kernel
theorem dX8_endAt_10 : decode cX8_endAt 10 = .ok (.ifCond .eq 30, 3) := by decide +kernel
theorem dX8_endAt_13 : decode cX8_endAt 13 = .ok (.iload_n 2, 1) := by decide +kernel
theorem dX8_endAt_14 : decode cX8_endAt 14 = .ok (.aload_n 0, 1) := by decide +kernel
theorem dX8_endAt_15 : decode cX8_endAt 15 = .ok (.getfield 24, 3) := by decide +kernel
theorem dX8_endAt_18 : decode cX8_endAt 18 = .ok (.if_icmp .ge 20, 3) := by decide +kernel
theorem dX8_endAt_21 : decode cX8_endAt 21 = .ok (.aload_n 0, 1) := by decide +kernel
theorem dX8_endAt_22 : decode cX8_endAt 22 = .ok (.iload_n 2, 1) := by decide +kernel
theorem dX8_endAt_23 : decode cX8_endAt 23 = .ok (.invokevirtual 37, 3) := by decide +kernel
theorem dX8_endAt_26 : decode cX8_endAt 26 = .ok (.invokestatic 53, 3) := by decide +kernel
theorem dX8_endAt_29 : decode cX8_endAt 29 = .ok (.ifCond .eq 9, 3) := by decide +kernel
theorem dX8_endAt_32 : decode cX8_endAt 32 = .ok (.iinc 2 1, 3) := by decide +kernel
theorem dX8_endAt_35 : decode cX8_endAt 35 = .ok (.goto (-22), 3) := by decide +kernel
theorem dX8_endAt_38 : decode cX8_endAt 38 = .ok (.iload_n 2, 1) := by decide +kernel
theorem dX8_endAt_39 : decode cX8_endAt 39 = .ok (.ireturn, 1) := by decide +kernel
theorem dX8_endAt_40 : decode cX8_endAt 40 = .ok (.iload_n 2, 1) := by decide +kernel
theorem dX8_endAt_41 : decode cX8_endAt 41 = .ok (.aload_n 0, 1) := by decide +kernel
theorem dX8_endAt_42 : decode cX8_endAt 42 = .ok (.getfield 24, 3) := by decide +kernel
theorem dX8_endAt_45 : decode cX8_endAt 45 = .ok (.if_icmp .ge 20, 3) := by decide +kernel
theorem dX8_endAt_48 : decode cX8_endAt 48 = .ok (.aload_n 0, 1) := by decide +kernel
theorem dX8_endAt_49 : decode cX8_endAt 49 = .ok (.iload_n 2, 1) := by decide +kernel
theorem dX8_endAt_50 : decode cX8_endAt 50 = .ok (.invokevirtual 37, 3) := by decide +kernel
theorem dX8_endAt_53 : decode cX8_endAt 53 = .ok (.invokestatic 56, 3) := by decide +kernel
theorem dX8_endAt_56 : decode cX8_endAt 56 = .ok (.ifCond .eq 9, 3) := by decide +kernel
theorem dX8_endAt_59 : decode cX8_endAt 59 = .ok (.iinc 2 1, 3) := by decide +kernel
theorem dX8_endAt_62 : decode cX8_endAt 62 = .ok (.goto (-22), 3) := by decide +kernel
theorem dX8_endAt_65 : decode cX8_endAt 65 = .ok (.iload_n 2, 1) := by decide +kernel
theorem dX8_endAt_66 : decode cX8_endAt 66 = .ok (.ireturn, 1) := by decide +kernel
theorem dX8_kindAt_0 : decode cX8_kindAt 0 = .ok (.aload_n 0, 1) := by decide +kernel
theorem dX8_kindAt_1 : decode cX8_kindAt 1 = .ok (.iload_n 1, 1) := by decide +kernel
theorem dX8_kindAt_2 : decode cX8_kindAt 2 = .ok (.invokevirtual 37, 3) := by decide +kernel
theorem dX8_kindAt_5 : decode cX8_kindAt 5 = .ok (.istore_n 3, 1) := by decide +kernel
theorem dX8_kindAt_6 : decode cX8_kindAt 6 = .ok (.iload_n 3, 1) := by decide +kernel
theorem dX8_kindAt_7 : decode cX8_kindAt 7 = .ok (.invokestatic 53, 3) := by decide +kernel
theorem dX8_kindAt_10 : decode cX8_kindAt 10 = .ok (.ifCond .eq 10, 3) := by decide +kernel
theorem dX8_kindAt_13 : decode cX8_kindAt 13 = .ok (.aload_n 0, 1) := by decide +kernel
theorem dX8_kindAt_14 : decode cX8_kindAt 14 = .ok (.iload_n 1, 1) := by decide +kernel
theorem dX8_kindAt_15 : decode cX8_kindAt 15 = .ok (.iload_n 2, 1) := by decide +kernel
theorem dX8_kindAt_16 : decode cX8_kindAt 16 = .ok (.invokestatic 59, 3) := by decide +kernel
theorem dX8_kindAt_19 : decode cX8_kindAt 19 = .ok (.ireturn, 1) := by decide +kernel
theorem dX8_kindAt_20 : decode cX8_kindAt 20 = .ok (.iload_n 3, 1) := by decide +kernel
theorem dX8_kindAt_21 : decode cX8_kindAt 21 = .ok (.invokestatic 56, 3) := by decide +kernel
theorem dX8_kindAt_24 : decode cX8_kindAt 24 = .ok (.ifCond .eq 23, 3) := by decide +kernel
theorem dX8_kindAt_27 : decode cX8_kindAt 27 = .ok (.iload_n 2, 1) := by decide +kernel
theorem dX8_kindAt_28 : decode cX8_kindAt 28 = .ok (.iload_n 1, 1) := by decide +kernel
theorem dX8_kindAt_29 : decode cX8_kindAt 29 = .ok (.isub, 1) := by decide +kernel
theorem dX8_kindAt_30 : decode cX8_kindAt 30 = .ok (.bipush 8, 2) := by decide +kernel
theorem dX8_kindAt_32 : decode cX8_kindAt 32 = .ok (.if_icmp .le 8, 3) := by decide +kernel
theorem dX8_kindAt_35 : decode cX8_kindAt 35 = .ok (.bipush (-21), 2) := by decide +kernel
theorem dX8_kindAt_37 : decode cX8_kindAt 37 = .ok (.goto 9, 3) := by decide +kernel
theorem dX8_kindAt_40 : decode cX8_kindAt 40 = .ok (.aload_n 0, 1) := by decide +kernel
theorem dX8_kindAt_41 : decode cX8_kindAt 41 = .ok (.iload_n 1, 1) := by decide +kernel
theorem dX8_kindAt_42 : decode cX8_kindAt 42 = .ok (.iload_n 2, 1) := by decide +kernel
theorem dX8_kindAt_43 : decode cX8_kindAt 43 = .ok (.invokestatic 62, 3) := by decide +kernel
theorem dX8_kindAt_46 : decode cX8_kindAt 46 = .ok (.ireturn, 1) := by decide +kernel
theorem dX8_kindAt_47 : decode cX8_kindAt 47 = .ok (.iload_n 3, 1) := by decide +kernel
theorem dX8_kindAt_48 : decode cX8_kindAt 48 = .ok (.invokestatic 65, 3) := by decide +kernel
theorem dX8_kindAt_51 : decode cX8_kindAt 51 = .ok (.ireturn, 1) := by decide +kernel
theorem dX8_numberAt_0 : decode cX8_numberAt 0 = .ok (.iload_n 2, 1) := by decide +kernel
theorem dX8_numberAt_1 : decode cX8_numberAt 1 = .ok (.iload_n 1, 1) := by decide +kernel
theorem dX8_numberAt_2 : decode cX8_numberAt 2 = .ok (.isub, 1) := by decide +kernel
theorem dX8_numberAt_3 : decode cX8_numberAt 3 = .ok (.iconst 4, 1) := by decide +kernel
theorem dX8_numberAt_4 : decode cX8_numberAt 4 = .ok (.if_icmp .gt 14, 3) := by decide +kernel
theorem dX8_numberAt_7 : decode cX8_numberAt 7 = .ok (.aload_n 0, 1) := by decide +kernel
theorem dX8_numberAt_8 : decode cX8_numberAt 8 = .ok (.iload_n 2, 1) := by decide +kernel
theorem dX8_numberAt_9 : decode cX8_numberAt 9 = .ok (.invokevirtual 37, 3) := by decide +kernel
theorem dX8_numberAt_12 : decode cX8_numberAt 12 = .ok (.invokestatic 56, 3) := by decide +kernel
theorem dX8_numberAt_15 : decode cX8_numberAt 15 = .ok (.ifCond .eq 6, 3) := by decide +kernel
theorem dX8_numberAt_18 : decode cX8_numberAt 18 = .ok (.bipush (-21), 2) := by decide +kernel
theorem dX8_numberAt_20 : decode cX8_numberAt 20 = .ok (.ireturn, 1) := by decide +kernel
theorem dX8_numberAt_21 : decode cX8_numberAt 21 = .ok (.iconst 0, 1) := by decide +kernel
theorem dX8_numberAt_22 : decode cX8_numberAt 22 = .ok (.istore_n 3, 1) := by decide +kernel
theorem dX8_numberAt_23 : decode cX8_numberAt 23 = .ok (.iload_n 1, 1) := by decide +kernel
theorem dX8_numberAt_24 : decode cX8_numberAt 24 = .ok (.istore 4, 2) := by decide +kernel
theorem dX8_numberAt_26 : decode cX8_numberAt 26 = .ok (.iload 4, 2) := by decide +kernel
theorem dX8_numberAt_28 : decode cX8_numberAt 28 = .ok (.iload_n 2, 1) := by decide +kernel
theorem dX8_numberAt_29 : decode cX8_numberAt 29 = .ok (.if_icmp .ge 24, 3) := by decide +kernel
theorem dX8_numberAt_32 : decode cX8_numberAt 32 = .ok (.iload_n 3, 1) := by decide +kernel
theorem dX8_numberAt_33 : decode cX8_numberAt 33 = .ok (.bipush 10, 2) := by decide +kernel
theorem dX8_numberAt_35 : decode cX8_numberAt 35 = .ok (.imul, 1) := by decide +kernel
theorem dX8_numberAt_36 : decode cX8_numberAt 36 = .ok (.aload_n 0, 1) := by decide +kernel
theorem dX8_numberAt_37 : decode cX8_numberAt 37 = .ok (.iload 4, 2) := by decide +kernel
theorem dX8_numberAt_39 : decode cX8_numberAt 39 = .ok (.invokevirtual 37, 3) := by decide +kernel
theorem dX8_numberAt_42 : decode cX8_numberAt 42 = .ok (.iadd, 1) := by decide +kernel
theorem dX8_numberAt_43 : decode cX8_numberAt 43 = .ok (.bipush 48, 2) := by decide +kernel
theorem dX8_numberAt_45 : decode cX8_numberAt 45 = .ok (.isub, 1) := by decide +kernel
theorem dX8_numberAt_46 : decode cX8_numberAt 46 = .ok (.istore_n 3, 1) := by decide +kernel
theorem dX8_numberAt_47 : decode cX8_numberAt 47 = .ok (.iinc 4 1, 3) := by decide +kernel
theorem dX8_numberAt_50 : decode cX8_numberAt 50 = .ok (.goto (-24), 3) := by decide +kernel
theorem dX8_numberAt_53 : decode cX8_numberAt 53 = .ok (.iload_n 3, 1) := by decide +kernel
theorem dX8_numberAt_54 : decode cX8_numberAt 54 = .ok (.ireturn, 1) := by decide +kernel
theorem dX8_wordAt_0 : decode cX8_wordAt 0 = .ok (.aload_n 0, 1) := by decide +kernel
theorem dX8_wordAt_1 : decode cX8_wordAt 1 = .ok (.iload_n 1, 1) := by decide +kernel
theorem dX8_wordAt_2 : decode cX8_wordAt 2 = .ok (.iload_n 2, 1) := by decide +kernel
theorem dX8_wordAt_3 : decode cX8_wordAt 3 = .ok (.ldc 68, 2) := by decide +kernel
theorem dX8_wordAt_5 : decode cX8_wordAt 5 = .ok (.invokestatic 70, 3) := by decide +kernel
theorem dX8_wordAt_8 : decode cX8_wordAt 8 = .ok (.ifCond .eq 6, 3) := by decide +kernel
theorem dX8_wordAt_11 : decode cX8_wordAt 11 = .ok (.bipush (-17), 2) := by decide +kernel
theorem dX8_wordAt_13 : decode cX8_wordAt 13 = .ok (.ireturn, 1) := by decide +kernel
theorem dX8_wordAt_14 : decode cX8_wordAt 14 = .ok (.aload_n 0, 1) := by decide +kernel
theorem dX8_wordAt_15 : decode cX8_wordAt 15 = .ok (.iload_n 1, 1) := by decide +kernel
theorem dX8_wordAt_16 : decode cX8_wordAt 16 = .ok (.iload_n 2, 1) := by decide +kernel
theorem dX8_wordAt_17 : decode cX8_wordAt 17 = .ok (.ldc 74, 2) := by decide +kernel
theorem dX8_wordAt_19 : decode cX8_wordAt 19 = .ok (.invokestatic 70, 3) := by decide +kernel
theorem dX8_wordAt_22 : decode cX8_wordAt 22 = .ok (.ifCond .eq 6, 3) := by decide +kernel
theorem dX8_wordAt_25 : decode cX8_wordAt 25 = .ok (.bipush (-18), 2) := by decide +kernel
theorem dX8_wordAt_27 : decode cX8_wordAt 27 = .ok (.ireturn, 1) := by decide +kernel
theorem dX8_wordAt_28 : decode cX8_wordAt 28 = .ok (.aload_n 0, 1) := by decide +kernel
theorem dX8_wordAt_29 : decode cX8_wordAt 29 = .ok (.iload_n 1, 1) := by decide +kernel
theorem dX8_wordAt_30 : decode cX8_wordAt 30 = .ok (.iload_n 2, 1) := by decide +kernel
theorem dX8_wordAt_31 : decode cX8_wordAt 31 = .ok (.ldc 76, 2) := by decide +kernel
theorem dX8_wordAt_33 : decode cX8_wordAt 33 = .ok (.invokestatic 70, 3) := by decide +kernel
theorem dX8_wordAt_36 : decode cX8_wordAt 36 = .ok (.ifCond .eq 6, 3) := by decide +kernel
theorem dX8_wordAt_39 : decode cX8_wordAt 39 = .ok (.bipush (-19), 2) := by decide +kernel
theorem dX8_wordAt_41 : decode cX8_wordAt 41 = .ok (.ireturn, 1) := by decide +kernel
theorem dX8_wordAt_42 : decode cX8_wordAt 42 = .ok (.aload_n 0, 1) := by decide +kernel
theorem dX8_wordAt_43 : decode cX8_wordAt 43 = .ok (.iload_n 1, 1) := by decide +kernel
theorem dX8_wordAt_44 : decode cX8_wordAt 44 = .ok (.iload_n 2, 1) := by decide +kernel
theorem dX8_wordAt_45 : decode cX8_wordAt 45 = .ok (.ldc 78, 2) := by decide +kernel
theorem dX8_wordAt_47 : decode cX8_wordAt 47 = .ok (.invokestatic 70, 3) := by decide +kernel
theorem dX8_wordAt_50 : decode cX8_wordAt 50 = .ok (.ifCond .eq 6, 3) := by decide +kernel
theorem dX8_wordAt_53 : decode cX8_wordAt 53 = .ok (.bipush (-6), 2) := by decide +kernel
theorem dX8_wordAt_55 : decode cX8_wordAt 55 = .ok (.ireturn, 1) := by decide +kernel
theorem dX8_wordAt_56 : decode cX8_wordAt 56 = .ok (.aload_n 0, 1) := by decide +kernel
theorem dX8_wordAt_57 : decode cX8_wordAt 57 = .ok (.iload_n 1, 1) := by decide +kernel
theorem dX8_wordAt_58 : decode cX8_wordAt 58 = .ok (.iload_n 2, 1) := by decide +kernel
theorem dX8_wordAt_59 : decode cX8_wordAt 59 = .ok (.ldc 80, 2) := by decide +kernel
theorem dX8_wordAt_61 : decode cX8_wordAt 61 = .ok (.invokestatic 70, 3) := by decide +kernel
theorem dX8_wordAt_64 : decode cX8_wordAt 64 = .ok (.ifCond .eq 6, 3) := by decide +kernel
theorem dX8_wordAt_67 : decode cX8_wordAt 67 = .ok (.bipush (-7), 2) := by decide +kernel
theorem dX8_wordAt_69 : decode cX8_wordAt 69 = .ok (.ireturn, 1) := by decide +kernel
theorem dX8_wordAt_70 : decode cX8_wordAt 70 = .ok (.aload_n 0, 1) := by decide +kernel
theorem dX8_wordAt_71 : decode cX8_wordAt 71 = .ok (.iload_n 1, 1) := by decide +kernel
theorem dX8_wordAt_72 : decode cX8_wordAt 72 = .ok (.iload_n 2, 1) := by decide +kernel
theorem dX8_wordAt_73 : decode cX8_wordAt 73 = .ok (.ldc 82, 2) := by decide +kernel
theorem dX8_wordAt_75 : decode cX8_wordAt 75 = .ok (.invokestatic 70, 3) := by decide +kernel
theorem dX8_wordAt_78 : decode cX8_wordAt 78 = .ok (.ifCond .eq 8, 3) := by decide +kernel
theorem dX8_wordAt_81 : decode cX8_wordAt 81 = .ok (.bipush (-8), 2) := by decide +kernel
theorem dX8_wordAt_83 : decode cX8_wordAt 83 = .ok (.goto 9, 3) := by decide +kernel
theorem dX8_wordAt_86 : decode cX8_wordAt 86 = .ok (.aload_n 0, 1) := by decide +kernel
theorem dX8_wordAt_87 : decode cX8_wordAt 87 = .ok (.iload_n 1, 1) := by decide +kernel
theorem dX8_wordAt_88 : decode cX8_wordAt 88 = .ok (.iload_n 2, 1) := by decide +kernel
theorem dX8_wordAt_89 : decode cX8_wordAt 89 = .ok (.invokestatic 84, 3) := by decide +kernel
theorem dX8_wordAt_92 : decode cX8_wordAt 92 = .ok (.ireturn, 1) := by decide +kernel
theorem dX8_termAt_0 : decode cX8_termAt 0 = .ok (.aload_n 0, 1) := by decide +kernel
theorem dX8_termAt_1 : decode cX8_termAt 1 = .ok (.iload_n 1, 1) := by decide +kernel
theorem dX8_termAt_2 : decode cX8_termAt 2 = .ok (.iload_n 2, 1) := by decide +kernel
theorem dX8_termAt_3 : decode cX8_termAt 3 = .ok (.ldc 87, 2) := by decide +kernel
theorem dX8_termAt_5 : decode cX8_termAt 5 = .ok (.invokestatic 70, 3) := by decide +kernel
theorem dX8_termAt_8 : decode cX8_termAt 8 = .ok (.ifCond .eq 5, 3) := by decide +kernel
theorem dX8_termAt_11 : decode cX8_termAt 11 = .ok (.iconst (-1), 1) := by decide +kernel
theorem dX8_termAt_12 : decode cX8_termAt 12 = .ok (.ireturn, 1) := by decide +kernel
theorem dX8_termAt_13 : decode cX8_termAt 13 = .ok (.aload_n 0, 1) := by decide +kernel
theorem dX8_termAt_14 : decode cX8_termAt 14 = .ok (.iload_n 1, 1) := by decide +kernel
theorem dX8_termAt_15 : decode cX8_termAt 15 = .ok (.iload_n 2, 1) := by decide +kernel
theorem dX8_termAt_16 : decode cX8_termAt 16 = .ok (.ldc 89, 2) := by decide +kernel
theorem dX8_termAt_18 : decode cX8_termAt 18 = .ok (.invokestatic 70, 3) := by decide +kernel
theorem dX8_termAt_21 : decode cX8_termAt 21 = .ok (.ifCond .eq 6, 3) := by decide +kernel
theorem dX8_termAt_24 : decode cX8_termAt 24 = .ok (.bipush (-2), 2) := by decide +kernel
theorem dX8_termAt_26 : decode cX8_termAt 26 = .ok (.ireturn, 1) := by decide +kernel
theorem dX8_termAt_27 : decode cX8_termAt 27 = .ok (.aload_n 0, 1) := by decide +kernel
theorem dX8_termAt_28 : decode cX8_termAt 28 = .ok (.iload_n 1, 1) := by decide +kernel
theorem dX8_termAt_29 : decode cX8_termAt 29 = .ok (.iload_n 2, 1) := by decide +kernel
theorem dX8_termAt_30 : decode cX8_termAt 30 = .ok (.ldc 91, 2) := by decide +kernel
theorem dX8_termAt_32 : decode cX8_termAt 32 = .ok (.invokestatic 70, 3) := by decide +kernel
theorem dX8_termAt_35 : decode cX8_termAt 35 = .ok (.ifCond .eq 6, 3) := by decide +kernel
theorem dX8_termAt_38 : decode cX8_termAt 38 = .ok (.bipush (-3), 2) := by decide +kernel
theorem dX8_termAt_40 : decode cX8_termAt 40 = .ok (.ireturn, 1) := by decide +kernel
theorem dX8_termAt_41 : decode cX8_termAt 41 = .ok (.aload_n 0, 1) := by decide +kernel
theorem dX8_termAt_42 : decode cX8_termAt 42 = .ok (.iload_n 1, 1) := by decide +kernel
theorem dX8_termAt_43 : decode cX8_termAt 43 = .ok (.iload_n 2, 1) := by decide +kernel
theorem dX8_termAt_44 : decode cX8_termAt 44 = .ok (.ldc 93, 2) := by decide +kernel
theorem dX8_termAt_46 : decode cX8_termAt 46 = .ok (.invokestatic 70, 3) := by decide +kernel
theorem dX8_termAt_49 : decode cX8_termAt 49 = .ok (.ifCond .eq 6, 3) := by decide +kernel
theorem dX8_termAt_52 : decode cX8_termAt 52 = .ok (.bipush (-4), 2) := by decide +kernel
theorem dX8_termAt_54 : decode cX8_termAt 54 = .ok (.ireturn, 1) := by decide +kernel
theorem dX8_termAt_55 : decode cX8_termAt 55 = .ok (.aload_n 0, 1) := by decide +kernel
theorem dX8_termAt_56 : decode cX8_termAt 56 = .ok (.iload_n 1, 1) := by decide +kernel
theorem dX8_termAt_57 : decode cX8_termAt 57 = .ok (.iload_n 2, 1) := by decide +kernel
theorem dX8_termAt_58 : decode cX8_termAt 58 = .ok (.ldc 95, 2) := by decide +kernel
theorem dX8_termAt_60 : decode cX8_termAt 60 = .ok (.invokestatic 70, 3) := by decide +kernel
theorem dX8_termAt_63 : decode cX8_termAt 63 = .ok (.ifCond .eq 8, 3) := by decide +kernel
theorem dX8_termAt_66 : decode cX8_termAt 66 = .ok (.bipush (-5), 2) := by decide +kernel
theorem dX8_termAt_68 : decode cX8_termAt 68 = .ok (.goto 5, 3) := by decide +kernel
theorem dX8_termAt_71 : decode cX8_termAt 71 = .ok (.bipush (-20), 2) := by decide +kernel
theorem dX8_termAt_73 : decode cX8_termAt 73 = .ok (.ireturn, 1) := by decide +kernel
theorem dX8_isWord_0 : decode cX8_isWord 0 = .ok (.iload_n 2, 1) := by decide +kernel
theorem dX8_isWord_1 : decode cX8_isWord 1 = .ok (.iload_n 1, 1) := by decide +kernel
theorem dX8_isWord_2 : decode cX8_isWord 2 = .ok (.isub, 1) := by decide +kernel
theorem dX8_isWord_3 : decode cX8_isWord 3 = .ok (.aload_n 3, 1) := by decide +kernel
theorem dX8_isWord_4 : decode cX8_isWord 4 = .ok (.invokevirtual 97, 3) := by decide +kernel
theorem dX8_isWord_7 : decode cX8_isWord 7 = .ok (.if_icmp .eq 5, 3) := by decide +kernel
theorem dX8_isWord_10 : decode cX8_isWord 10 = .ok (.iconst 0, 1) := by decide +kernel
theorem dX8_isWord_11 : decode cX8_isWord 11 = .ok (.ireturn, 1) := by decide +kernel
theorem dX8_isWord_12 : decode cX8_isWord 12 = .ok (.iconst 0, 1) := by decide +kernel
theorem dX8_isWord_13 : decode cX8_isWord 13 = .ok (.istore 4, 2) := by decide +kernel
theorem dX8_isWord_15 : decode cX8_isWord 15 = .ok (.iload 4, 2) := by decide +kernel
theorem dX8_isWord_17 : decode cX8_isWord 17 = .ok (.aload_n 3, 1) := by decide +kernel
theorem dX8_isWord_18 : decode cX8_isWord 18 = .ok (.invokevirtual 97, 3) := by decide +kernel
theorem dX8_isWord_21 : decode cX8_isWord 21 = .ok (.if_icmp .ge 28, 3) := by decide +kernel
theorem dX8_isWord_24 : decode cX8_isWord 24 = .ok (.aload_n 0, 1) := by decide +kernel
theorem dX8_isWord_25 : decode cX8_isWord 25 = .ok (.iload_n 1, 1) := by decide +kernel
theorem dX8_isWord_26 : decode cX8_isWord 26 = .ok (.iload 4, 2) := by decide +kernel
theorem dX8_isWord_28 : decode cX8_isWord 28 = .ok (.iadd, 1) := by decide +kernel
theorem dX8_isWord_29 : decode cX8_isWord 29 = .ok (.invokevirtual 37, 3) := by decide +kernel
theorem dX8_isWord_32 : decode cX8_isWord 32 = .ok (.aload_n 3, 1) := by decide +kernel
theorem dX8_isWord_33 : decode cX8_isWord 33 = .ok (.iload 4, 2) := by decide +kernel
theorem dX8_isWord_35 : decode cX8_isWord 35 = .ok (.invokevirtual 102, 3) := by decide +kernel
theorem dX8_isWord_38 : decode cX8_isWord 38 = .ok (.if_icmp .eq 5, 3) := by decide +kernel
theorem dX8_isWord_41 : decode cX8_isWord 41 = .ok (.iconst 0, 1) := by decide +kernel
theorem dX8_isWord_42 : decode cX8_isWord 42 = .ok (.ireturn, 1) := by decide +kernel
theorem dX8_isWord_43 : decode cX8_isWord 43 = .ok (.iinc 4 1, 3) := by decide +kernel
theorem dX8_isWord_46 : decode cX8_isWord 46 = .ok (.goto (-31), 3) := by decide +kernel
theorem dX8_isWord_49 : decode cX8_isWord 49 = .ok (.iconst 1, 1) := by decide +kernel
theorem dX8_isWord_50 : decode cX8_isWord 50 = .ok (.ireturn, 1) := by decide +kernel
theorem dX8_signOf_0 : decode cX8_signOf 0 = .ok (.iload_n 0, 1) := by decide +kernel
theorem dX8_signOf_1 : decode cX8_signOf 1 = .ok (.tableswitch 131 40 62 #[110, 113, 131, 125, 131, 128, 131, 131, 131, 131, 131, 131, 131, 131, 131, 131, 131, 131, 131, 107, 116, 122, 119], 107) := by decide +kernel
theorem dX8_signOf_108 : decode cX8_signOf 108 = .ok (.bipush (-16), 2) := by decide +kernel
theorem dX8_signOf_110 : decode cX8_signOf 110 = .ok (.ireturn, 1) := by decide +kernel
theorem dX8_signOf_111 : decode cX8_signOf 111 = .ok (.bipush (-14), 2) := by decide +kernel
theorem dX8_signOf_113 : decode cX8_signOf 113 = .ok (.ireturn, 1) := by decide +kernel
theorem dX8_signOf_114 : decode cX8_signOf 114 = .ok (.bipush (-15), 2) := by decide +kernel
theorem dX8_signOf_116 : decode cX8_signOf 116 = .ok (.ireturn, 1) := by decide +kernel
theorem dX8_signOf_117 : decode cX8_signOf 117 = .ok (.bipush (-9), 2) := by decide +kernel
theorem dX8_signOf_119 : decode cX8_signOf 119 = .ok (.ireturn, 1) := by decide +kernel
theorem dX8_signOf_120 : decode cX8_signOf 120 = .ok (.bipush (-10), 2) := by decide +kernel
theorem dX8_signOf_122 : decode cX8_signOf 122 = .ok (.ireturn, 1) := by decide +kernel
theorem dX8_signOf_123 : decode cX8_signOf 123 = .ok (.bipush (-11), 2) := by decide +kernel
theorem dX8_signOf_125 : decode cX8_signOf 125 = .ok (.ireturn, 1) := by decide +kernel
theorem dX8_signOf_126 : decode cX8_signOf 126 = .ok (.bipush (-12), 2) := by decide +kernel
theorem dX8_signOf_128 : decode cX8_signOf 128 = .ok (.ireturn, 1) := by decide +kernel
theorem dX8_signOf_129 : decode cX8_signOf 129 = .ok (.bipush (-13), 2) := by decide +kernel
theorem dX8_signOf_131 : decode cX8_signOf 131 = .ok (.ireturn, 1) := by decide +kernel
theorem dX8_signOf_132 : decode cX8_signOf 132 = .ok (.bipush (-21), 2) := by decide +kernel
theorem dX8_signOf_134 : decode cX8_signOf 134 = .ok (.ireturn, 1) := by decide +kernel
theorem dX8_isBlank_0 : decode cX8_isBlank 0 = .ok (.iload_n 0, 1) := by decide +kernel
theorem dX8_isBlank_1 : decode cX8_isBlank 1 = .ok (.bipush 32, 2) := by decide +kernel
theorem dX8_isBlank_3 : decode cX8_isBlank 3 = .ok (.if_icmp .eq 9, 3) := by decide +kernel
theorem dX8_isBlank_6 : decode cX8_isBlank 6 = .ok (.iload_n 0, 1) := by decide +kernel
theorem dX8_isBlank_7 : decode cX8_isBlank 7 = .ok (.bipush 10, 2) := by decide +kernel
theorem dX8_isBlank_9 : decode cX8_isBlank 9 = .ok (.if_icmp .ne 7, 3) := by decide +kernel
theorem dX8_isBlank_12 : decode cX8_isBlank 12 = .ok (.iconst 1, 1) := by decide +kernel
theorem dX8_isBlank_13 : decode cX8_isBlank 13 = .ok (.goto 4, 3) := by decide +kernel
theorem dX8_isBlank_16 : decode cX8_isBlank 16 = .ok (.iconst 0, 1) := by decide +kernel
theorem dX8_isBlank_17 : decode cX8_isBlank 17 = .ok (.ireturn, 1) := by decide +kernel
theorem dX8_isLetter_0 : decode cX8_isLetter 0 = .ok (.iload_n 0, 1) := by decide +kernel
theorem dX8_isLetter_1 : decode cX8_isLetter 1 = .ok (.bipush 97, 2) := by decide +kernel
theorem dX8_isLetter_3 : decode cX8_isLetter 3 = .ok (.bipush 122, 2) := by decide +kernel
theorem dX8_isLetter_5 : decode cX8_isLetter 5 = .ok (.invokestatic 106, 3) := by decide +kernel
theorem dX8_isLetter_8 : decode cX8_isLetter 8 = .ok (.ireturn, 1) := by decide +kernel
theorem dX8_isDigit_0 : decode cX8_isDigit 0 = .ok (.iload_n 0, 1) := by decide +kernel
theorem dX8_isDigit_1 : decode cX8_isDigit 1 = .ok (.bipush 48, 2) := by decide +kernel
theorem dX8_isDigit_3 : decode cX8_isDigit 3 = .ok (.bipush 57, 2) := by decide +kernel
theorem dX8_isDigit_5 : decode cX8_isDigit 5 = .ok (.invokestatic 106, 3) := by decide +kernel
theorem dX8_isDigit_8 : decode cX8_isDigit 8 = .ok (.ireturn, 1) := by decide +kernel
theorem dX9_init_0 : decode cX9_init 0 = .ok (.aload_n 0, 1) := by decide +kernel
theorem dX9_init_1 : decode cX9_init 1 = .ok (.invokespecial 3, 3) := by decide +kernel
theorem dX9_init_4 : decode cX9_init 4 = .ok (.aload_n 0, 1) := by decide +kernel
theorem dX9_init_5 : decode cX9_init 5 = .ok (.bipush 6, 2) := by decide +kernel
theorem dX9_init_7 : decode cX9_init 7 = .ok (.newarray .int, 2) := by decide +kernel
theorem dX9_init_9 : decode cX9_init 9 = .ok (.putfield 11, 3) := by decide +kernel
theorem dX9_init_12 : decode cX9_init 12 = .ok (.aload_n 0, 1) := by decide +kernel
theorem dX9_init_13 : decode cX9_init 13 = .ok (.bipush 6, 2) := by decide +kernel
theorem dX9_init_15 : decode cX9_init 15 = .ok (.newarray .int, 2) := by decide +kernel
theorem dX9_init_17 : decode cX9_init 17 = .ok (.putfield 15, 3) := by decide +kernel
theorem dX9_init_20 : decode cX9_init 20 = .ok (.aload_n 0, 1) := by decide +kernel
theorem dX9_init_21 : decode cX9_init 21 = .ok (.bipush 6, 2) := by decide +kernel
theorem dX9_init_23 : decode cX9_init 23 = .ok (.newarray .int, 2) := by decide +kernel
theorem dX9_init_25 : decode cX9_init 25 = .ok (.putfield 18, 3) := by decide +kernel
theorem dX9_init_28 : decode cX9_init 28 = .ok (.aload_n 0, 1) := by decide +kernel
theorem dX9_init_29 : decode cX9_init 29 = .ok (.bipush 6, 2) := by decide +kernel
theorem dX9_init_31 : decode cX9_init 31 = .ok (.newarray .boolean, 2) := by decide +kernel
theorem dX9_init_33 : decode cX9_init 33 = .ok (.putfield 21, 3) := by decide +kernel
theorem dX9_init_36 : decode cX9_init 36 = .ok (.iconst 0, 1) := by decide +kernel
theorem dX9_init_37 : decode cX9_init 37 = .ok (.istore_n 1, 1) := by decide +kernel
theorem dX9_init_38 : decode cX9_init 38 = .ok (.iload_n 1, 1) := by decide +kernel
theorem dX9_init_39 : decode cX9_init 39 = .ok (.bipush 6, 2) := by decide +kernel
theorem dX9_init_41 : decode cX9_init 41 = .ok (.if_icmp .ge 38, 3) := by decide +kernel
theorem dX9_init_44 : decode cX9_init 44 = .ok (.aload_n 0, 1) := by decide +kernel
theorem dX9_init_45 : decode cX9_init 45 = .ok (.getfield 11, 3) := by decide +kernel
theorem dX9_init_48 : decode cX9_init 48 = .ok (.iload_n 1, 1) := by decide +kernel
theorem dX9_init_49 : decode cX9_init 49 = .ok (.bipush 10, 2) := by decide +kernel
theorem dX9_init_51 : decode cX9_init 51 = .ok (.iastore, 1) := by decide +kernel
theorem dX9_init_52 : decode cX9_init 52 = .ok (.aload_n 0, 1) := by decide +kernel
theorem dX9_init_53 : decode cX9_init 53 = .ok (.getfield 15, 3) := by decide +kernel
theorem dX9_init_56 : decode cX9_init 56 = .ok (.iload_n 1, 1) := by decide +kernel
theorem dX9_init_57 : decode cX9_init 57 = .ok (.iconst 0, 1) := by decide +kernel
theorem dX9_init_58 : decode cX9_init 58 = .ok (.iastore, 1) := by decide +kernel
theorem dX9_init_59 : decode cX9_init 59 = .ok (.aload_n 0, 1) := by decide +kernel
theorem dX9_init_60 : decode cX9_init 60 = .ok (.getfield 18, 3) := by decide +kernel
theorem dX9_init_63 : decode cX9_init 63 = .ok (.iload_n 1, 1) := by decide +kernel
theorem dX9_init_64 : decode cX9_init 64 = .ok (.iconst 1, 1) := by decide +kernel
theorem dX9_init_65 : decode cX9_init 65 = .ok (.iastore, 1) := by decide +kernel
theorem dX9_init_66 : decode cX9_init 66 = .ok (.aload_n 0, 1) := by decide +kernel
theorem dX9_init_67 : decode cX9_init 67 = .ok (.getfield 21, 3) := by decide +kernel
theorem dX9_init_70 : decode cX9_init 70 = .ok (.iload_n 1, 1) := by decide +kernel
theorem dX9_init_71 : decode cX9_init 71 = .ok (.iconst 1, 1) := by decide +kernel
theorem dX9_init_72 : decode cX9_init 72 = .ok (.bastore, 1) := by decide +kernel
theorem dX9_init_73 : decode cX9_init 73 = .ok (.iinc 1 1, 3) := by decide +kernel
theorem dX9_init_76 : decode cX9_init 76 = .ok (.goto (-38), 3) := by decide +kernel
theorem dX9_init_79 : decode cX9_init 79 = .ok (.return_, 1) := by decide +kernel
theorem dX9_set_0 : decode cX9_set 0 = .ok (.iload_n 1, 1) := by decide +kernel
theorem dX9_set_1 : decode cX9_set 1 = .ok (.ifCond .lt 9, 3) := by decide +kernel
theorem dX9_set_4 : decode cX9_set 4 = .ok (.iload_n 1, 1) := by decide +kernel
theorem dX9_set_5 : decode cX9_set 5 = .ok (.bipush 6, 2) := by decide +kernel
theorem dX9_set_7 : decode cX9_set 7 = .ok (.if_icmp .lt 4, 3) := by decide +kernel
theorem dX9_set_10 : decode cX9_set 10 = .ok (.return_, 1) := by decide +kernel
theorem dX9_set_11 : decode cX9_set 11 = .ok (.aload_n 0, 1) := by decide +kernel
theorem dX9_set_12 : decode cX9_set 12 = .ok (.getfield 11, 3) := by decide +kernel
theorem dX9_set_15 : decode cX9_set 15 = .ok (.iload_n 1, 1) := by decide +kernel
theorem dX9_set_16 : decode cX9_set 16 = .ok (.iload_n 2, 1) := by decide +kernel
theorem dX9_set_17 : decode cX9_set 17 = .ok (.iastore, 1) := by decide +kernel
theorem dX9_set_18 : decode cX9_set 18 = .ok (.aload_n 0, 1) := by decide +kernel
theorem dX9_set_19 : decode cX9_set 19 = .ok (.getfield 15, 3) := by decide +kernel
theorem dX9_set_22 : decode cX9_set 22 = .ok (.iload_n 1, 1) := by decide +kernel
theorem dX9_set_23 : decode cX9_set 23 = .ok (.iload_n 3, 1) := by decide +kernel
theorem dX9_set_24 : decode cX9_set 24 = .ok (.iastore, 1) := by decide +kernel
theorem dX9_set_25 : decode cX9_set 25 = .ok (.aload_n 0, 1) := by decide +kernel
theorem dX9_set_26 : decode cX9_set 26 = .ok (.getfield 18, 3) := by decide +kernel
theorem dX9_set_29 : decode cX9_set 29 = .ok (.iload_n 1, 1) := by decide +kernel
theorem dX9_set_30 : decode cX9_set 30 = .ok (.iload 4, 2) := by decide +kernel
theorem dX9_set_32 : decode cX9_set 32 = .ok (.iastore, 1) := by decide +kernel
theorem dX9_set_33 : decode cX9_set 33 = .ok (.aload_n 0, 1) := by decide +kernel
theorem dX9_set_34 : decode cX9_set 34 = .ok (.getfield 21, 3) := by decide +kernel
theorem dX9_set_37 : decode cX9_set 37 = .ok (.iload_n 1, 1) := by decide +kernel
theorem dX9_set_38 : decode cX9_set 38 = .ok (.iload 5, 2) := by decide +kernel
theorem dX9_set_40 : decode cX9_set 40 = .ok (.bastore, 1) := by decide +kernel
theorem dX9_set_41 : decode cX9_set 41 = .ok (.return_, 1) := by decide +kernel
theorem dX9_canBe_0 : decode cX9_canBe 0 = .ok (.iload_n 0, 1) := by decide +kernel
theorem dX9_canBe_1 : decode cX9_canBe 1 = .ok (.iconst 1, 1) := by decide +kernel
theorem dX9_canBe_2 : decode cX9_canBe 2 = .ok (.bipush 9, 2) := by decide +kernel
theorem dX9_canBe_4 : decode cX9_canBe 4 = .ok (.invokestatic 25, 3) := by decide +kernel
theorem dX9_canBe_7 : decode cX9_canBe 7 = .ok (.ifCond .eq 11, 3) := by decide +kernel
theorem dX9_canBe_10 : decode cX9_canBe 10 = .ok (.iload_n 1, 1) := by decide +kernel
theorem dX9_canBe_11 : decode cX9_canBe 11 = .ok (.iconst 3, 1) := by decide +kernel
theorem dX9_canBe_12 : decode cX9_canBe 12 = .ok (.iload_n 0, 1) := by decide +kernel
theorem dX9_canBe_13 : decode cX9_canBe 13 = .ok (.imul, 1) := by decide +kernel
theorem dX9_canBe_14 : decode cX9_canBe 14 = .ok (.iushr, 1) := by decide +kernel
theorem dX9_canBe_15 : decode cX9_canBe 15 = .ok (.ifCond .eq 5, 3) := by decide +kernel
theorem dX9_canBe_18 : decode cX9_canBe 18 = .ok (.iconst 0, 1) := by decide +kernel
theorem dX9_canBe_19 : decode cX9_canBe 19 = .ok (.ireturn, 1) := by decide +kernel
theorem dX9_canBe_20 : decode cX9_canBe 20 = .ok (.iconst 0, 1) := by decide +kernel
theorem dX9_canBe_21 : decode cX9_canBe 21 = .ok (.istore_n 2, 1) := by decide +kernel
theorem dX9_canBe_22 : decode cX9_canBe 22 = .ok (.iload_n 2, 1) := by decide +kernel
theorem dX9_canBe_23 : decode cX9_canBe 23 = .ok (.iload_n 0, 1) := by decide +kernel
theorem dX9_canBe_24 : decode cX9_canBe 24 = .ok (.if_icmp .ge 21, 3) := by decide +kernel
theorem dX9_canBe_27 : decode cX9_canBe 27 = .ok (.iload_n 1, 1) := by decide +kernel
theorem dX9_canBe_28 : decode cX9_canBe 28 = .ok (.iload_n 2, 1) := by decide +kernel
theorem dX9_canBe_29 : decode cX9_canBe 29 = .ok (.invokestatic 29, 3) := by decide +kernel
theorem dX9_canBe_32 : decode cX9_canBe 32 = .ok (.bipush 6, 2) := by decide +kernel
theorem dX9_canBe_34 : decode cX9_canBe 34 = .ok (.if_icmp .lt 5, 3) := by decide +kernel
theorem dX9_canBe_37 : decode cX9_canBe 37 = .ok (.iconst 0, 1) := by decide +kernel
theorem dX9_canBe_38 : decode cX9_canBe 38 = .ok (.ireturn, 1) := by decide +kernel
theorem dX9_canBe_39 : decode cX9_canBe 39 = .ok (.iinc 2 1, 3) := by decide +kernel
theorem dX9_canBe_42 : decode cX9_canBe 42 = .ok (.goto (-20), 3) := by decide +kernel
theorem dX9_canBe_45 : decode cX9_canBe 45 = .ok (.iconst 1, 1) := by decide +kernel
theorem dX9_canBe_46 : decode cX9_canBe 46 = .ok (.ireturn, 1) := by decide +kernel
theorem dX9_kindAt_0 : decode cX9_kindAt 0 = .ok (.iload_n 0, 1) := by decide +kernel
theorem dX9_kindAt_1 : decode cX9_kindAt 1 = .ok (.iconst 3, 1) := by decide +kernel
theorem dX9_kindAt_2 : decode cX9_kindAt 2 = .ok (.iload_n 1, 1) := by decide +kernel
theorem dX9_kindAt_3 : decode cX9_kindAt 3 = .ok (.imul, 1) := by decide +kernel
theorem dX9_kindAt_4 : decode cX9_kindAt 4 = .ok (.iushr, 1) := by decide +kernel
theorem dX9_kindAt_5 : decode cX9_kindAt 5 = .ok (.bipush 7, 2) := by decide +kernel
theorem dX9_kindAt_7 : decode cX9_kindAt 7 = .ok (.iand, 1) := by decide +kernel
theorem dX9_kindAt_8 : decode cX9_kindAt 8 = .ok (.ireturn, 1) := by decide +kernel
theorem dX9_ofKind_0 : decode cX9_ofKind 0 = .ok (.iload_n 1, 1) := by decide +kernel
theorem dX9_ofKind_1 : decode cX9_ofKind 1 = .ok (.ifCond .lt 15, 3) := by decide +kernel
theorem dX9_ofKind_4 : decode cX9_ofKind 4 = .ok (.iload_n 1, 1) := by decide +kernel
theorem dX9_ofKind_5 : decode cX9_ofKind 5 = .ok (.aload_n 0, 1) := by decide +kernel
theorem dX9_ofKind_6 : decode cX9_ofKind 6 = .ok (.arraylength, 1) := by decide +kernel
theorem dX9_ofKind_7 : decode cX9_ofKind 7 = .ok (.if_icmp .ge 9, 3) := by decide +kernel
theorem dX9_ofKind_10 : decode cX9_ofKind 10 = .ok (.aload_n 0, 1) := by decide +kernel
theorem dX9_ofKind_11 : decode cX9_ofKind 11 = .ok (.iload_n 1, 1) := by decide +kernel
theorem dX9_ofKind_12 : decode cX9_ofKind 12 = .ok (.iaload, 1) := by decide +kernel
theorem dX9_ofKind_13 : decode cX9_ofKind 13 = .ok (.goto 4, 3) := by decide +kernel
theorem dX9_ofKind_16 : decode cX9_ofKind 16 = .ok (.iconst 0, 1) := by decide +kernel
theorem dX9_ofKind_17 : decode cX9_ofKind 17 = .ok (.ireturn, 1) := by decide +kernel
theorem dX9_sumOf_0 : decode cX9_sumOf 0 = .ok (.iconst 0, 1) := by decide +kernel
theorem dX9_sumOf_1 : decode cX9_sumOf 1 = .ok (.istore_n 3, 1) := by decide +kernel
theorem dX9_sumOf_2 : decode cX9_sumOf 2 = .ok (.iconst 0, 1) := by decide +kernel
theorem dX9_sumOf_3 : decode cX9_sumOf 3 = .ok (.istore 4, 2) := by decide +kernel
theorem dX9_sumOf_5 : decode cX9_sumOf 5 = .ok (.iload 4, 2) := by decide +kernel
theorem dX9_sumOf_7 : decode cX9_sumOf 7 = .ok (.iload_n 1, 1) := by decide +kernel
theorem dX9_sumOf_8 : decode cX9_sumOf 8 = .ok (.if_icmp .ge 22, 3) := by decide +kernel
theorem dX9_sumOf_11 : decode cX9_sumOf 11 = .ok (.iload_n 3, 1) := by decide +kernel
theorem dX9_sumOf_12 : decode cX9_sumOf 12 = .ok (.aload_n 0, 1) := by decide +kernel
theorem dX9_sumOf_13 : decode cX9_sumOf 13 = .ok (.iload_n 2, 1) := by decide +kernel
theorem dX9_sumOf_14 : decode cX9_sumOf 14 = .ok (.iload 4, 2) := by decide +kernel
theorem dX9_sumOf_16 : decode cX9_sumOf 16 = .ok (.invokestatic 29, 3) := by decide +kernel
theorem dX9_sumOf_19 : decode cX9_sumOf 19 = .ok (.invokestatic 33, 3) := by decide +kernel
theorem dX9_sumOf_22 : decode cX9_sumOf 22 = .ok (.iadd, 1) := by decide +kernel
theorem dX9_sumOf_23 : decode cX9_sumOf 23 = .ok (.istore_n 3, 1) := by decide +kernel
theorem dX9_sumOf_24 : decode cX9_sumOf 24 = .ok (.iinc 4 1, 3) := by decide +kernel
theorem dX9_sumOf_27 : decode cX9_sumOf 27 = .ok (.goto (-22), 3) := by decide +kernel
theorem dX9_sumOf_30 : decode cX9_sumOf 30 = .ok (.iload_n 3, 1) := by decide +kernel
theorem dX9_sumOf_31 : decode cX9_sumOf 31 = .ok (.ireturn, 1) := by decide +kernel
theorem dX9_thinOf_0 : decode cX9_thinOf 0 = .ok (.aload_n 0, 1) := by decide +kernel
theorem dX9_thinOf_1 : decode cX9_thinOf 1 = .ok (.getfield 11, 3) := by decide +kernel
theorem dX9_thinOf_4 : decode cX9_thinOf 4 = .ok (.iload_n 1, 1) := by decide +kernel
theorem dX9_thinOf_5 : decode cX9_thinOf 5 = .ok (.iload_n 2, 1) := by decide +kernel
theorem dX9_thinOf_6 : decode cX9_thinOf 6 = .ok (.invokestatic 37, 3) := by decide +kernel
theorem dX9_thinOf_9 : decode cX9_thinOf 9 = .ok (.aload_n 0, 1) := by decide +kernel
theorem dX9_thinOf_10 : decode cX9_thinOf 10 = .ok (.getfield 15, 3) := by decide +kernel
theorem dX9_thinOf_13 : decode cX9_thinOf 13 = .ok (.iload_n 1, 1) := by decide +kernel
theorem dX9_thinOf_14 : decode cX9_thinOf 14 = .ok (.iload_n 2, 1) := by decide +kernel
theorem dX9_thinOf_15 : decode cX9_thinOf 15 = .ok (.invokestatic 37, 3) := by decide +kernel
theorem dX9_thinOf_18 : decode cX9_thinOf 18 = .ok (.isub, 1) := by decide +kernel
theorem dX9_thinOf_19 : decode cX9_thinOf 19 = .ok (.ireturn, 1) := by decide +kernel
theorem dX9_thickOf_0 : decode cX9_thickOf 0 = .ok (.aload_n 0, 1) := by decide +kernel
theorem dX9_thickOf_1 : decode cX9_thickOf 1 = .ok (.getfield 11, 3) := by decide +kernel
theorem dX9_thickOf_4 : decode cX9_thickOf 4 = .ok (.iload_n 1, 1) := by decide +kernel
theorem dX9_thickOf_5 : decode cX9_thickOf 5 = .ok (.iload_n 2, 1) := by decide +kernel
theorem dX9_thickOf_6 : decode cX9_thickOf 6 = .ok (.invokestatic 37, 3) := by decide +kernel
theorem dX9_thickOf_9 : decode cX9_thickOf 9 = .ok (.aload_n 0, 1) := by decide +kernel
theorem dX9_thickOf_10 : decode cX9_thickOf 10 = .ok (.getfield 15, 3) := by decide +kernel
theorem dX9_thickOf_13 : decode cX9_thickOf 13 = .ok (.iload_n 1, 1) := by decide +kernel
theorem dX9_thickOf_14 : decode cX9_thickOf 14 = .ok (.iload_n 2, 1) := by decide +kernel
theorem dX9_thickOf_15 : decode cX9_thickOf 15 = .ok (.invokestatic 37, 3) := by decide +kernel
theorem dX9_thickOf_18 : decode cX9_thickOf 18 = .ok (.iadd, 1) := by decide +kernel
theorem dX9_thickOf_19 : decode cX9_thickOf 19 = .ok (.ireturn, 1) := by decide +kernel
theorem dX9_priceOf_0 : decode cX9_priceOf 0 = .ok (.aload_n 0, 1) := by decide +kernel
theorem dX9_priceOf_1 : decode cX9_priceOf 1 = .ok (.getfield 18, 3) := by decide +kernel
theorem dX9_priceOf_4 : decode cX9_priceOf 4 = .ok (.iload_n 1, 1) := by decide +kernel
theorem dX9_priceOf_5 : decode cX9_priceOf 5 = .ok (.iload_n 2, 1) := by decide +kernel
theorem dX9_priceOf_6 : decode cX9_priceOf 6 = .ok (.invokestatic 37, 3) := by decide +kernel
theorem dX9_priceOf_9 : decode cX9_priceOf 9 = .ok (.ireturn, 1) := by decide +kernel
theorem dX9_warpOf_0 : decode cX9_warpOf 0 = .ok (.iconst 0, 1) := by decide +kernel
theorem dX9_warpOf_1 : decode cX9_warpOf 1 = .ok (.istore_n 3, 1) := by decide +kernel
theorem dX9_warpOf_2 : decode cX9_warpOf 2 = .ok (.aload_n 0, 1) := by decide +kernel
theorem dX9_warpOf_3 : decode cX9_warpOf 3 = .ok (.getfield 11, 3) := by decide +kernel
theorem dX9_warpOf_6 : decode cX9_warpOf 6 = .ok (.iload_n 1, 1) := by decide +kernel
theorem dX9_warpOf_7 : decode cX9_warpOf 7 = .ok (.iload_n 2, 1) := by decide +kernel
theorem dX9_warpOf_8 : decode cX9_warpOf 8 = .ok (.invokestatic 37, 3) := by decide +kernel
theorem dX9_warpOf_11 : decode cX9_warpOf 11 = .ok (.istore 4, 2) := by decide +kernel
theorem dX9_warpOf_13 : decode cX9_warpOf 13 = .ok (.iconst 0, 1) := by decide +kernel
theorem dX9_warpOf_14 : decode cX9_warpOf 14 = .ok (.istore 5, 2) := by decide +kernel
theorem dX9_warpOf_16 : decode cX9_warpOf 16 = .ok (.iconst 0, 1) := by decide +kernel
theorem dX9_warpOf_17 : decode cX9_warpOf 17 = .ok (.istore 6, 2) := by decide +kernel
theorem dX9_warpOf_19 : decode cX9_warpOf 19 = .ok (.iload 6, 2) := by decide +kernel
theorem dX9_warpOf_21 : decode cX9_warpOf 21 = .ok (.iload_n 1, 1) := by decide +kernel
theorem dX9_warpOf_22 : decode cX9_warpOf 22 = .ok (.if_icmp .ge 65, 3) := by decide +kernel
theorem dX9_warpOf_25 : decode cX9_warpOf 25 = .ok (.aload_n 0, 1) := by decide +kernel
theorem dX9_warpOf_26 : decode cX9_warpOf 26 = .ok (.getfield 11, 3) := by decide +kernel
theorem dX9_warpOf_29 : decode cX9_warpOf 29 = .ok (.iload_n 2, 1) := by decide +kernel
theorem dX9_warpOf_30 : decode cX9_warpOf 30 = .ok (.iload 6, 2) := by decide +kernel
theorem dX9_warpOf_32 : decode cX9_warpOf 32 = .ok (.invokestatic 29, 3) := by decide +kernel
theorem dX9_warpOf_35 : decode cX9_warpOf 35 = .ok (.invokestatic 33, 3) := by decide +kernel
theorem dX9_warpOf_38 : decode cX9_warpOf 38 = .ok (.istore 7, 2) := by decide +kernel
theorem dX9_warpOf_40 : decode cX9_warpOf 40 = .ok (.iload 4, 2) := by decide +kernel
theorem dX9_warpOf_42 : decode cX9_warpOf 42 = .ok (.iload 7, 2) := by decide +kernel
theorem dX9_warpOf_44 : decode cX9_warpOf 44 = .ok (.isub, 1) := by decide +kernel
theorem dX9_warpOf_45 : decode cX9_warpOf 45 = .ok (.istore 4, 2) := by decide +kernel
theorem dX9_warpOf_47 : decode cX9_warpOf 47 = .ok (.iload 7, 2) := by decide +kernel
theorem dX9_warpOf_49 : decode cX9_warpOf 49 = .ok (.iload_n 3, 1) := by decide +kernel
theorem dX9_warpOf_50 : decode cX9_warpOf 50 = .ok (.iload 4, 2) := by decide +kernel
theorem dX9_warpOf_52 : decode cX9_warpOf 52 = .ok (.isub, 1) := by decide +kernel
theorem dX9_warpOf_53 : decode cX9_warpOf 53 = .ok (.imul, 1) := by decide +kernel
theorem dX9_warpOf_54 : decode cX9_warpOf 54 = .ok (.istore 8, 2) := by decide +kernel
theorem dX9_warpOf_56 : decode cX9_warpOf 56 = .ok (.iload 5, 2) := by decide +kernel
theorem dX9_warpOf_58 : decode cX9_warpOf 58 = .ok (.iload 6, 2) := by decide +kernel
theorem dX9_warpOf_60 : decode cX9_warpOf 60 = .ok (.iconst 2, 1) := by decide +kernel
theorem dX9_warpOf_61 : decode cX9_warpOf 61 = .ok (.irem, 1) := by decide +kernel
theorem dX9_warpOf_62 : decode cX9_warpOf 62 = .ok (.ifCond .ne 8, 3) := by decide +kernel
theorem dX9_warpOf_65 : decode cX9_warpOf 65 = .ok (.iload 8, 2) := by decide +kernel
theorem dX9_warpOf_67 : decode cX9_warpOf 67 = .ok (.goto 6, 3) := by decide +kernel
theorem dX9_warpOf_70 : decode cX9_warpOf 70 = .ok (.iload 8, 2) := by decide +kernel
theorem dX9_warpOf_72 : decode cX9_warpOf 72 = .ok (.ineg, 1) := by decide +kernel
theorem dX9_warpOf_73 : decode cX9_warpOf 73 = .ok (.iadd, 1) := by decide +kernel
theorem dX9_warpOf_74 : decode cX9_warpOf 74 = .ok (.istore 5, 2) := by decide +kernel
theorem dX9_warpOf_76 : decode cX9_warpOf 76 = .ok (.iload_n 3, 1) := by decide +kernel
theorem dX9_warpOf_77 : decode cX9_warpOf 77 = .ok (.iload 7, 2) := by decide +kernel
theorem dX9_warpOf_79 : decode cX9_warpOf 79 = .ok (.iadd, 1) := by decide +kernel
theorem dX9_warpOf_80 : decode cX9_warpOf 80 = .ok (.istore_n 3, 1) := by decide +kernel
theorem dX9_warpOf_81 : decode cX9_warpOf 81 = .ok (.iinc 6 1, 3) := by decide +kernel
theorem dX9_warpOf_84 : decode cX9_warpOf 84 = .ok (.goto (-65), 3) := by decide +kernel
theorem dX9_warpOf_87 : decode cX9_warpOf 87 = .ok (.iload 5, 2) := by decide +kernel
theorem dX9_warpOf_89 : decode cX9_warpOf 89 = .ok (.ireturn, 1) := by decide +kernel
theorem dX9_cheapest_0 : decode cX9_cheapest 0 = .ok (.aload_n 0, 1) := by decide +kernel
theorem dX9_cheapest_1 : decode cX9_cheapest 1 = .ok (.iload_n 1, 1) := by decide +kernel
theorem dX9_cheapest_2 : decode cX9_cheapest 2 = .ok (.putfield 41, 3) := by decide +kernel
theorem dX9_cheapest_5 : decode cX9_cheapest 5 = .ok (.aload_n 0, 1) := by decide +kernel
theorem dX9_cheapest_6 : decode cX9_cheapest 6 = .ok (.iload_n 2, 1) := by decide +kernel
theorem dX9_cheapest_7 : decode cX9_cheapest 7 = .ok (.putfield 45, 3) := by decide +kernel
theorem dX9_cheapest_10 : decode cX9_cheapest 10 = .ok (.aload_n 0, 1) := by decide +kernel
theorem dX9_cheapest_11 : decode cX9_cheapest 11 = .ok (.iload_n 3, 1) := by decide +kernel
theorem dX9_cheapest_12 : decode cX9_cheapest 12 = .ok (.putfield 48, 3) := by decide +kernel
theorem dX9_cheapest_15 : decode cX9_cheapest 15 = .ok (.aload_n 0, 1) := by decide +kernel
theorem dX9_cheapest_16 : decode cX9_cheapest 16 = .ok (.ldc 53, 2) := by decide +kernel
theorem dX9_cheapest_18 : decode cX9_cheapest 18 = .ok (.putfield 54, 3) := by decide +kernel
theorem dX9_cheapest_21 : decode cX9_cheapest 21 = .ok (.aload_n 0, 1) := by decide +kernel
theorem dX9_cheapest_22 : decode cX9_cheapest 22 = .ok (.iconst (-1), 1) := by decide +kernel
theorem dX9_cheapest_23 : decode cX9_cheapest 23 = .ok (.putfield 57, 3) := by decide +kernel
theorem dX9_cheapest_26 : decode cX9_cheapest 26 = .ok (.aload_n 0, 1) := by decide +kernel
theorem dX9_cheapest_27 : decode cX9_cheapest 27 = .ok (.iconst 0, 1) := by decide +kernel
theorem dX9_cheapest_28 : decode cX9_cheapest 28 = .ok (.iconst 0, 1) := by decide +kernel
theorem dX9_cheapest_29 : decode cX9_cheapest 29 = .ok (.iconst 0, 1) := by decide +kernel
theorem dX9_cheapest_30 : decode cX9_cheapest 30 = .ok (.iconst 0, 1) := by decide +kernel
theorem dX9_cheapest_31 : decode cX9_cheapest 31 = .ok (.iconst 0, 1) := by decide +kernel
theorem dX9_cheapest_32 : decode cX9_cheapest 32 = .ok (.invokevirtual 60, 3) := by decide +kernel
theorem dX9_cheapest_35 : decode cX9_cheapest 35 = .ok (.aload_n 0, 1) := by decide +kernel
theorem dX9_cheapest_36 : decode cX9_cheapest 36 = .ok (.getfield 57, 3) := by decide +kernel
theorem dX9_cheapest_39 : decode cX9_cheapest 39 = .ok (.ireturn, 1) := by decide +kernel
theorem dX9_lay_0 : decode cX9_lay 0 = .ok (.iload 4, 2) := by decide +kernel
theorem dX9_lay_2 : decode cX9_lay 2 = .ok (.aload_n 0, 1) := by decide +kernel
theorem dX9_lay_3 : decode cX9_lay 3 = .ok (.getfield 54, 3) := by decide +kernel
theorem dX9_lay_6 : decode cX9_lay 6 = .ok (.if_icmp .ge 11, 3) := by decide +kernel
theorem dX9_lay_9 : decode cX9_lay 9 = .ok (.iload_n 3, 1) := by decide +kernel
theorem dX9_lay_10 : decode cX9_lay 10 = .ok (.aload_n 0, 1) := by decide +kernel
theorem dX9_lay_11 : decode cX9_lay 11 = .ok (.getfield 48, 3) := by decide +kernel
theorem dX9_lay_14 : decode cX9_lay 14 = .ok (.if_icmp .le 4, 3) := by decide +kernel
theorem dX9_lay_17 : decode cX9_lay 17 = .ok (.return_, 1) := by decide +kernel
theorem dX9_lay_18 : decode cX9_lay 18 = .ok (.aload_n 0, 1) := by decide +kernel
theorem dX9_lay_19 : decode cX9_lay 19 = .ok (.getfield 41, 3) := by decide +kernel
theorem dX9_lay_22 : decode cX9_lay 22 = .ok (.iconst 2, 1) := by decide +kernel
theorem dX9_lay_23 : decode cX9_lay 23 = .ok (.idiv, 1) := by decide +kernel
theorem dX9_lay_24 : decode cX9_lay 24 = .ok (.istore 6, 2) := by decide +kernel
theorem dX9_lay_26 : decode cX9_lay 26 = .ok (.iload_n 1, 1) := by decide +kernel
theorem dX9_lay_27 : decode cX9_lay 27 = .ok (.iload 6, 2) := by decide +kernel
theorem dX9_lay_29 : decode cX9_lay 29 = .ok (.if_icmp .gt 9, 3) := by decide +kernel
theorem dX9_lay_32 : decode cX9_lay 32 = .ok (.iload_n 1, 1) := by decide +kernel
theorem dX9_lay_33 : decode cX9_lay 33 = .ok (.bipush 9, 2) := by decide +kernel
theorem dX9_lay_35 : decode cX9_lay 35 = .ok (.if_icmp .lt 24, 3) := by decide +kernel
theorem dX9_lay_38 : decode cX9_lay 38 = .ok (.iload_n 2, 1) := by decide +kernel
theorem dX9_lay_39 : decode cX9_lay 39 = .ok (.aload_n 0, 1) := by decide +kernel
theorem dX9_lay_40 : decode cX9_lay 40 = .ok (.getfield 45, 3) := by decide +kernel
theorem dX9_lay_43 : decode cX9_lay 43 = .ok (.if_icmp .lt 15, 3) := by decide +kernel
theorem dX9_lay_46 : decode cX9_lay 46 = .ok (.aload_n 0, 1) := by decide +kernel
theorem dX9_lay_47 : decode cX9_lay 47 = .ok (.iload 4, 2) := by decide +kernel
theorem dX9_lay_49 : decode cX9_lay 49 = .ok (.putfield 54, 3) := by decide +kernel
theorem dX9_lay_52 : decode cX9_lay 52 = .ok (.aload_n 0, 1) := by decide +kernel
theorem dX9_lay_53 : decode cX9_lay 53 = .ok (.iload 5, 2) := by decide +kernel
theorem dX9_lay_55 : decode cX9_lay 55 = .ok (.putfield 57, 3) := by decide +kernel
theorem dX9_lay_58 : decode cX9_lay 58 = .ok (.return_, 1) := by decide +kernel
theorem dX9_lay_59 : decode cX9_lay 59 = .ok (.iload_n 1, 1) := by decide +kernel
theorem dX9_lay_60 : decode cX9_lay 60 = .ok (.iload 6, 2) := by decide +kernel
theorem dX9_lay_62 : decode cX9_lay 62 = .ok (.if_icmp .ne 7, 3) := by decide +kernel
theorem dX9_lay_65 : decode cX9_lay 65 = .ok (.iconst 1, 1) := by decide +kernel
theorem dX9_lay_66 : decode cX9_lay 66 = .ok (.goto 4, 3) := by decide +kernel
theorem dX9_lay_69 : decode cX9_lay 69 = .ok (.iconst 2, 1) := by decide +kernel
theorem dX9_lay_70 : decode cX9_lay 70 = .ok (.istore 7, 2) := by decide +kernel
theorem dX9_lay_72 : decode cX9_lay 72 = .ok (.iconst 0, 1) := by decide +kernel
theorem dX9_lay_73 : decode cX9_lay 73 = .ok (.istore 8, 2) := by decide +kernel
theorem dX9_lay_75 : decode cX9_lay 75 = .ok (.iload 8, 2) := by decide +kernel
theorem dX9_lay_77 : decode cX9_lay 77 = .ok (.bipush 6, 2) := by decide +kernel
theorem dX9_lay_79 : decode cX9_lay 79 = .ok (.if_icmp .ge 121, 3) := by decide +kernel
theorem dX9_lay_82 : decode cX9_lay 82 = .ok (.iload_n 1, 1) := by decide +kernel
theorem dX9_lay_83 : decode cX9_lay 83 = .ok (.ifCond .ne 16, 3) := by decide +kernel
theorem dX9_lay_86 : decode cX9_lay 86 = .ok (.aload_n 0, 1) := by decide +kernel
theorem dX9_lay_87 : decode cX9_lay 87 = .ok (.getfield 21, 3) := by decide +kernel
theorem dX9_lay_90 : decode cX9_lay 90 = .ok (.iload 8, 2) := by decide +kernel
theorem dX9_lay_92 : decode cX9_lay 92 = .ok (.baload, 1) := by decide +kernel
theorem dX9_lay_93 : decode cX9_lay 93 = .ok (.ifCond .ne 6, 3) := by decide +kernel
theorem dX9_lay_96 : decode cX9_lay 96 = .ok (.goto 98, 3) := by decide +kernel
theorem dX9_lay_99 : decode cX9_lay 99 = .ok (.iload 5, 2) := by decide +kernel
theorem dX9_lay_101 : decode cX9_lay 101 = .ok (.iload 8, 2) := by decide +kernel
theorem dX9_lay_103 : decode cX9_lay 103 = .ok (.iconst 3, 1) := by decide +kernel
theorem dX9_lay_104 : decode cX9_lay 104 = .ok (.iload_n 1, 1) := by decide +kernel
theorem dX9_lay_105 : decode cX9_lay 105 = .ok (.imul, 1) := by decide +kernel
theorem dX9_lay_106 : decode cX9_lay 106 = .ok (.ishl, 1) := by decide +kernel
theorem dX9_lay_107 : decode cX9_lay 107 = .ok (.ior, 1) := by decide +kernel
theorem dX9_lay_108 : decode cX9_lay 108 = .ok (.iload 8, 2) := by decide +kernel
theorem dX9_lay_110 : decode cX9_lay 110 = .ok (.iconst 3, 1) := by decide +kernel
theorem dX9_lay_111 : decode cX9_lay 111 = .ok (.aload_n 0, 1) := by decide +kernel
theorem dX9_lay_112 : decode cX9_lay 112 = .ok (.getfield 41, 3) := by decide +kernel
theorem dX9_lay_115 : decode cX9_lay 115 = .ok (.iconst 1, 1) := by decide +kernel
theorem dX9_lay_116 : decode cX9_lay 116 = .ok (.isub, 1) := by decide +kernel
theorem dX9_lay_117 : decode cX9_lay 117 = .ok (.iload_n 1, 1) := by decide +kernel
theorem dX9_lay_118 : decode cX9_lay 118 = .ok (.isub, 1) := by decide +kernel
theorem dX9_lay_119 : decode cX9_lay 119 = .ok (.imul, 1) := by decide +kernel
theorem dX9_lay_120 : decode cX9_lay 120 = .ok (.ishl, 1) := by decide +kernel
theorem dX9_lay_121 : decode cX9_lay 121 = .ok (.ior, 1) := by decide +kernel
theorem dX9_lay_122 : decode cX9_lay 122 = .ok (.istore 9, 2) := by decide +kernel
theorem dX9_lay_124 : decode cX9_lay 124 = .ok (.iload_n 2, 1) := by decide +kernel
theorem dX9_lay_125 : decode cX9_lay 125 = .ok (.iload 7, 2) := by decide +kernel
theorem dX9_lay_127 : decode cX9_lay 127 = .ok (.aload_n 0, 1) := by decide +kernel
theorem dX9_lay_128 : decode cX9_lay 128 = .ok (.getfield 11, 3) := by decide +kernel
theorem dX9_lay_131 : decode cX9_lay 131 = .ok (.iload 8, 2) := by decide +kernel
theorem dX9_lay_133 : decode cX9_lay 133 = .ok (.iaload, 1) := by decide +kernel
theorem dX9_lay_134 : decode cX9_lay 134 = .ok (.aload_n 0, 1) := by decide +kernel
theorem dX9_lay_135 : decode cX9_lay 135 = .ok (.getfield 15, 3) := by decide +kernel
theorem dX9_lay_138 : decode cX9_lay 138 = .ok (.iload 8, 2) := by decide +kernel
theorem dX9_lay_140 : decode cX9_lay 140 = .ok (.iaload, 1) := by decide +kernel
theorem dX9_lay_141 : decode cX9_lay 141 = .ok (.isub, 1) := by decide +kernel
theorem dX9_lay_142 : decode cX9_lay 142 = .ok (.imul, 1) := by decide +kernel
theorem dX9_lay_143 : decode cX9_lay 143 = .ok (.iadd, 1) := by decide +kernel
theorem dX9_lay_144 : decode cX9_lay 144 = .ok (.istore 10, 2) := by decide +kernel
theorem dX9_lay_146 : decode cX9_lay 146 = .ok (.iload_n 3, 1) := by decide +kernel
theorem dX9_lay_147 : decode cX9_lay 147 = .ok (.iload 7, 2) := by decide +kernel
theorem dX9_lay_149 : decode cX9_lay 149 = .ok (.aload_n 0, 1) := by decide +kernel
theorem dX9_lay_150 : decode cX9_lay 150 = .ok (.getfield 11, 3) := by decide +kernel
theorem dX9_lay_153 : decode cX9_lay 153 = .ok (.iload 8, 2) := by decide +kernel
theorem dX9_lay_155 : decode cX9_lay 155 = .ok (.iaload, 1) := by decide +kernel
theorem dX9_lay_156 : decode cX9_lay 156 = .ok (.aload_n 0, 1) := by decide +kernel
theorem dX9_lay_157 : decode cX9_lay 157 = .ok (.getfield 15, 3) := by decide +kernel
theorem dX9_lay_160 : decode cX9_lay 160 = .ok (.iload 8, 2) := by decide +kernel
theorem dX9_lay_162 : decode cX9_lay 162 = .ok (.iaload, 1) := by decide +kernel
theorem dX9_lay_163 : decode cX9_lay 163 = .ok (.iadd, 1) := by decide +kernel
theorem dX9_lay_164 : decode cX9_lay 164 = .ok (.imul, 1) := by decide +kernel
theorem dX9_lay_165 : decode cX9_lay 165 = .ok (.iadd, 1) := by decide +kernel
theorem dX9_lay_166 : decode cX9_lay 166 = .ok (.istore 11, 2) := by decide +kernel
theorem dX9_lay_168 : decode cX9_lay 168 = .ok (.aload_n 0, 1) := by decide +kernel
theorem dX9_lay_169 : decode cX9_lay 169 = .ok (.iload_n 1, 1) := by decide +kernel
theorem dX9_lay_170 : decode cX9_lay 170 = .ok (.iconst 1, 1) := by decide +kernel
theorem dX9_lay_171 : decode cX9_lay 171 = .ok (.iadd, 1) := by decide +kernel
theorem dX9_lay_172 : decode cX9_lay 172 = .ok (.iload 10, 2) := by decide +kernel
theorem dX9_lay_174 : decode cX9_lay 174 = .ok (.iload 11, 2) := by decide +kernel
theorem dX9_lay_176 : decode cX9_lay 176 = .ok (.iload 4, 2) := by decide +kernel
theorem dX9_lay_178 : decode cX9_lay 178 = .ok (.iload 7, 2) := by decide +kernel
theorem dX9_lay_180 : decode cX9_lay 180 = .ok (.aload_n 0, 1) := by decide +kernel
theorem dX9_lay_181 : decode cX9_lay 181 = .ok (.getfield 18, 3) := by decide +kernel
theorem dX9_lay_184 : decode cX9_lay 184 = .ok (.iload 8, 2) := by decide +kernel
theorem dX9_lay_186 : decode cX9_lay 186 = .ok (.iaload, 1) := by decide +kernel
theorem dX9_lay_187 : decode cX9_lay 187 = .ok (.imul, 1) := by decide +kernel
theorem dX9_lay_188 : decode cX9_lay 188 = .ok (.iadd, 1) := by decide +kernel
theorem dX9_lay_189 : decode cX9_lay 189 = .ok (.iload 9, 2) := by decide +kernel
theorem dX9_lay_191 : decode cX9_lay 191 = .ok (.invokevirtual 60, 3) := by decide +kernel
theorem dX9_lay_194 : decode cX9_lay 194 = .ok (.iinc 8 1, 3) := by decide +kernel
theorem dX9_lay_197 : decode cX9_lay 197 = .ok (.goto (-122), 3) := by decide +kernel
theorem dX9_lay_200 : decode cX9_lay 200 = .ok (.return_, 1) := by decide +kernel
theorem dX10_init_0 : decode cX10_init 0 = .ok (.aload_n 0, 1) := by decide +kernel
theorem dX10_init_1 : decode cX10_init 1 = .ok (.invokespecial 1, 3) := by decide +kernel
theorem dX10_init_4 : decode cX10_init 4 = .ok (.aload_n 0, 1) := by decide +kernel
theorem dX10_init_5 : decode cX10_init 5 = .ok (.new 7, 3) := by decide +kernel
theorem dX10_init_8 : decode cX10_init 8 = .ok (.dup, 1) := by decide +kernel
theorem dX10_init_9 : decode cX10_init 9 = .ok (.invokespecial 9, 3) := by decide +kernel
theorem dX10_init_12 : decode cX10_init 12 = .ok (.putfield 10, 3) := by decide +kernel
theorem dX10_init_15 : decode cX10_init 15 = .ok (.aload_n 0, 1) := by decide +kernel
theorem dX10_init_16 : decode cX10_init 16 = .ok (.new 16, 3) := by decide +kernel
theorem dX10_init_19 : decode cX10_init 19 = .ok (.dup, 1) := by decide +kernel
theorem dX10_init_20 : decode cX10_init 20 = .ok (.invokespecial 18, 3) := by decide +kernel
theorem dX10_init_23 : decode cX10_init 23 = .ok (.putfield 19, 3) := by decide +kernel
theorem dX10_init_26 : decode cX10_init 26 = .ok (.aload_n 0, 1) := by decide +kernel
theorem dX10_init_27 : decode cX10_init 27 = .ok (.new 23, 3) := by decide +kernel
theorem dX10_init_30 : decode cX10_init 30 = .ok (.dup, 1) := by decide +kernel
theorem dX10_init_31 : decode cX10_init 31 = .ok (.invokespecial 25, 3) := by decide +kernel
theorem dX10_init_34 : decode cX10_init 34 = .ok (.putfield 26, 3) := by decide +kernel
theorem dX10_init_37 : decode cX10_init 37 = .ok (.aload_n 0, 1) := by decide +kernel
theorem dX10_init_38 : decode cX10_init 38 = .ok (.new 30, 3) := by decide +kernel
theorem dX10_init_41 : decode cX10_init 41 = .ok (.dup, 1) := by decide +kernel
theorem dX10_init_42 : decode cX10_init 42 = .ok (.invokespecial 32, 3) := by decide +kernel
theorem dX10_init_45 : decode cX10_init 45 = .ok (.putfield 33, 3) := by decide +kernel
theorem dX10_init_48 : decode cX10_init 48 = .ok (.aload_n 0, 1) := by decide +kernel
theorem dX10_init_49 : decode cX10_init 49 = .ok (.new 37, 3) := by decide +kernel
theorem dX10_init_52 : decode cX10_init 52 = .ok (.dup, 1) := by decide +kernel
theorem dX10_init_53 : decode cX10_init 53 = .ok (.invokespecial 39, 3) := by decide +kernel
theorem dX10_init_56 : decode cX10_init 56 = .ok (.putfield 40, 3) := by decide +kernel
theorem dX10_init_59 : decode cX10_init 59 = .ok (.aload_n 0, 1) := by decide +kernel
theorem dX10_init_60 : decode cX10_init 60 = .ok (.new 44, 3) := by decide +kernel
theorem dX10_init_63 : decode cX10_init 63 = .ok (.dup, 1) := by decide +kernel
theorem dX10_init_64 : decode cX10_init 64 = .ok (.aload_n 0, 1) := by decide +kernel
theorem dX10_init_65 : decode cX10_init 65 = .ok (.getfield 33, 3) := by decide +kernel
theorem dX10_init_68 : decode cX10_init 68 = .ok (.aload_n 0, 1) := by decide +kernel
theorem dX10_init_69 : decode cX10_init 69 = .ok (.getfield 40, 3) := by decide +kernel
theorem dX10_init_72 : decode cX10_init 72 = .ok (.invokespecial 46, 3) := by decide +kernel
theorem dX10_init_75 : decode cX10_init 75 = .ok (.putfield 49, 3) := by decide +kernel
theorem dX10_init_78 : decode cX10_init 78 = .ok (.aload_n 0, 1) := by decide +kernel
theorem dX10_init_79 : decode cX10_init 79 = .ok (.new 53, 3) := by decide +kernel
theorem dX10_init_82 : decode cX10_init 82 = .ok (.dup, 1) := by decide +kernel
theorem dX10_init_83 : decode cX10_init 83 = .ok (.invokespecial 55, 3) := by decide +kernel
theorem dX10_init_86 : decode cX10_init 86 = .ok (.putfield 56, 3) := by decide +kernel
theorem dX10_init_89 : decode cX10_init 89 = .ok (.aload_n 0, 1) := by decide +kernel
theorem dX10_init_90 : decode cX10_init 90 = .ok (.new 60, 3) := by decide +kernel
theorem dX10_init_93 : decode cX10_init 93 = .ok (.dup, 1) := by decide +kernel
theorem dX10_init_94 : decode cX10_init 94 = .ok (.invokespecial 62, 3) := by decide +kernel
theorem dX10_init_97 : decode cX10_init 97 = .ok (.putfield 63, 3) := by decide +kernel
theorem dX10_init_100 : decode cX10_init 100 = .ok (.aload_n 0, 1) := by decide +kernel
theorem dX10_init_101 : decode cX10_init 101 = .ok (.iconst 0, 1) := by decide +kernel
theorem dX10_init_102 : decode cX10_init 102 = .ok (.putfield 67, 3) := by decide +kernel
theorem dX10_init_105 : decode cX10_init 105 = .ok (.aload_n 0, 1) := by decide +kernel
theorem dX10_init_106 : decode cX10_init 106 = .ok (.iconst (-1), 1) := by decide +kernel
theorem dX10_init_107 : decode cX10_init 107 = .ok (.putfield 71, 3) := by decide +kernel
theorem dX10_init_110 : decode cX10_init 110 = .ok (.return_, 1) := by decide +kernel
theorem dX10_net_0 : decode cX10_net 0 = .ok (.aload_n 0, 1) := by decide +kernel
theorem dX10_net_1 : decode cX10_net 1 = .ok (.getfield 10, 3) := by decide +kernel
theorem dX10_net_4 : decode cX10_net 4 = .ok (.iload_n 1, 1) := by decide +kernel
theorem dX10_net_5 : decode cX10_net 5 = .ok (.iload_n 2, 1) := by decide +kernel
theorem dX10_net_6 : decode cX10_net 6 = .ok (.invokevirtual 74, 3) := by decide +kernel
theorem dX10_net_9 : decode cX10_net 9 = .ok (.ireturn, 1) := by decide +kernel
theorem dX10_centre_0 : decode cX10_centre 0 = .ok (.aload_n 0, 1) := by decide +kernel
theorem dX10_centre_1 : decode cX10_centre 1 = .ok (.getfield 10, 3) := by decide +kernel
theorem dX10_centre_4 : decode cX10_centre 4 = .ok (.invokevirtual 78, 3) := by decide +kernel
theorem dX10_centre_7 : decode cX10_centre 7 = .ok (.aload_n 0, 1) := by decide +kernel
theorem dX10_centre_8 : decode cX10_centre 8 = .ok (.getfield 10, 3) := by decide +kernel
theorem dX10_centre_11 : decode cX10_centre 11 = .ok (.getfield 81, 3) := by decide +kernel
theorem dX10_centre_14 : decode cX10_centre 14 = .ok (.iconst (-1), 1) := by decide +kernel
theorem dX10_centre_15 : decode cX10_centre 15 = .ok (.if_icmp .ne 5, 3) := by decide +kernel
theorem dX10_centre_18 : decode cX10_centre 18 = .ok (.iconst (-1), 1) := by decide +kernel
theorem dX10_centre_19 : decode cX10_centre 19 = .ok (.ireturn, 1) := by decide +kernel
theorem dX10_centre_20 : decode cX10_centre 20 = .ok (.iload_n 1, 1) := by decide +kernel
theorem dX10_centre_21 : decode cX10_centre 21 = .ok (.tableswitch 51 0 2 #[27, 35, 43], 27) := by decide +kernel
theorem dX10_centre_48 : decode cX10_centre 48 = .ok (.aload_n 0, 1) := by decide +kernel
theorem dX10_centre_49 : decode cX10_centre 49 = .ok (.getfield 10, 3) := by decide +kernel
theorem dX10_centre_52 : decode cX10_centre 52 = .ok (.getfield 84, 3) := by decide +kernel
theorem dX10_centre_55 : decode cX10_centre 55 = .ok (.ireturn, 1) := by decide +kernel
theorem dX10_centre_56 : decode cX10_centre 56 = .ok (.aload_n 0, 1) := by decide +kernel
theorem dX10_centre_57 : decode cX10_centre 57 = .ok (.getfield 10, 3) := by decide +kernel
theorem dX10_centre_60 : decode cX10_centre 60 = .ok (.getfield 87, 3) := by decide +kernel
theorem dX10_centre_63 : decode cX10_centre 63 = .ok (.ireturn, 1) := by decide +kernel
theorem dX10_centre_64 : decode cX10_centre 64 = .ok (.aload_n 0, 1) := by decide +kernel
theorem dX10_centre_65 : decode cX10_centre 65 = .ok (.getfield 10, 3) := by decide +kernel
theorem dX10_centre_68 : decode cX10_centre 68 = .ok (.getfield 81, 3) := by decide +kernel
theorem dX10_centre_71 : decode cX10_centre 71 = .ok (.ireturn, 1) := by decide +kernel
theorem dX10_centre_72 : decode cX10_centre 72 = .ok (.iconst (-1), 1) := by decide +kernel
theorem dX10_centre_73 : decode cX10_centre 73 = .ok (.ireturn, 1) := by decide +kernel
theorem dX10_full_0 : decode cX10_full 0 = .ok (.iload_n 1, 1) := by decide +kernel
theorem dX10_full_1 : decode cX10_full 1 = .ok (.iconst 1, 1) := by decide +kernel
theorem dX10_full_2 : decode cX10_full 2 = .ok (.sipush 200, 3) := by decide +kernel
theorem dX10_full_5 : decode cX10_full 5 = .ok (.invokestatic 90, 3) := by decide +kernel
theorem dX10_full_8 : decode cX10_full 8 = .ok (.ifCond .eq 13, 3) := by decide +kernel
theorem dX10_full_11 : decode cX10_full 11 = .ok (.iload_n 2, 1) := by decide +kernel
theorem dX10_full_12 : decode cX10_full 12 = .ok (.iconst 1, 1) := by decide +kernel
theorem dX10_full_13 : decode cX10_full 13 = .ok (.bipush 50, 2) := by decide +kernel
theorem dX10_full_15 : decode cX10_full 15 = .ok (.invokestatic 90, 3) := by decide +kernel
theorem dX10_full_18 : decode cX10_full 18 = .ok (.ifCond .ne 5, 3) := by decide +kernel
theorem dX10_full_21 : decode cX10_full 21 = .ok (.iconst (-1), 1) := by decide +kernel
theorem dX10_full_22 : decode cX10_full 22 = .ok (.ireturn, 1) := by decide +kernel
theorem dX10_full_23 : decode cX10_full 23 = .ok (.aload_n 0, 1) := by decide +kernel
theorem dX10_full_24 : decode cX10_full 24 = .ok (.getfield 10, 3) := by decide +kernel
theorem dX10_full_27 : decode cX10_full 27 = .ok (.invokevirtual 78, 3) := by decide +kernel
theorem dX10_full_30 : decode cX10_full 30 = .ok (.aload_n 0, 1) := by decide +kernel
theorem dX10_full_31 : decode cX10_full 31 = .ok (.getfield 10, 3) := by decide +kernel
theorem dX10_full_34 : decode cX10_full 34 = .ok (.getfield 81, 3) := by decide +kernel
theorem dX10_full_37 : decode cX10_full 37 = .ok (.iconst (-1), 1) := by decide +kernel
theorem dX10_full_38 : decode cX10_full 38 = .ok (.if_icmp .ne 7, 3) := by decide +kernel
theorem dX10_full_41 : decode cX10_full 41 = .ok (.iconst (-1), 1) := by decide +kernel
theorem dX10_full_42 : decode cX10_full 42 = .ok (.goto 12, 3) := by decide +kernel
theorem dX10_full_45 : decode cX10_full 45 = .ok (.aload_n 0, 1) := by decide +kernel
theorem dX10_full_46 : decode cX10_full 46 = .ok (.getfield 10, 3) := by decide +kernel
theorem dX10_full_49 : decode cX10_full 49 = .ok (.iload_n 1, 1) := by decide +kernel
theorem dX10_full_50 : decode cX10_full 50 = .ok (.iload_n 2, 1) := by decide +kernel
theorem dX10_full_51 : decode cX10_full 51 = .ok (.invokevirtual 94, 3) := by decide +kernel
theorem dX10_full_54 : decode cX10_full 54 = .ok (.ireturn, 1) := by decide +kernel
theorem dX10_feed_0 : decode cX10_feed 0 = .ok (.aload_n 0, 1) := by decide +kernel
theorem dX10_feed_1 : decode cX10_feed 1 = .ok (.getfield 19, 3) := by decide +kernel
theorem dX10_feed_4 : decode cX10_feed 4 = .ok (.invokevirtual 98, 3) := by decide +kernel
theorem dX10_feed_7 : decode cX10_feed 7 = .ok (.ifCond .ne 5, 3) := by decide +kernel
theorem dX10_feed_10 : decode cX10_feed 10 = .ok (.iconst (-1), 1) := by decide +kernel
theorem dX10_feed_11 : decode cX10_feed 11 = .ok (.ireturn, 1) := by decide +kernel
theorem dX10_feed_12 : decode cX10_feed 12 = .ok (.aload_n 0, 1) := by decide +kernel
theorem dX10_feed_13 : decode cX10_feed 13 = .ok (.getfield 19, 3) := by decide +kernel
theorem dX10_feed_16 : decode cX10_feed 16 = .ok (.iload_n 1, 1) := by decide +kernel
theorem dX10_feed_17 : decode cX10_feed 17 = .ok (.invokevirtual 102, 3) := by decide +kernel
theorem dX10_feed_20 : decode cX10_feed 20 = .ok (.aload_n 0, 1) := by decide +kernel
theorem dX10_feed_21 : decode cX10_feed 21 = .ok (.getfield 19, 3) := by decide +kernel
theorem dX10_feed_24 : decode cX10_feed 24 = .ok (.iload_n 2, 1) := by decide +kernel
theorem dX10_feed_25 : decode cX10_feed 25 = .ok (.invokevirtual 102, 3) := by decide +kernel
theorem dX10_feed_28 : decode cX10_feed 28 = .ok (.aload_n 0, 1) := by decide +kernel
theorem dX10_feed_29 : decode cX10_feed 29 = .ok (.getfield 19, 3) := by decide +kernel
theorem dX10_feed_32 : decode cX10_feed 32 = .ok (.iload_n 3, 1) := by decide +kernel
theorem dX10_feed_33 : decode cX10_feed 33 = .ok (.invokevirtual 102, 3) := by decide +kernel
theorem dX10_feed_36 : decode cX10_feed 36 = .ok (.aload_n 0, 1) := by decide +kernel
theorem dX10_feed_37 : decode cX10_feed 37 = .ok (.getfield 19, 3) := by decide +kernel
theorem dX10_feed_40 : decode cX10_feed 40 = .ok (.iload 4, 2) := by decide +kernel
theorem dX10_feed_42 : decode cX10_feed 42 = .ok (.invokevirtual 102, 3) := by decide +kernel
theorem dX10_feed_45 : decode cX10_feed 45 = .ok (.aload_n 0, 1) := by decide +kernel
theorem dX10_feed_46 : decode cX10_feed 46 = .ok (.getfield 19, 3) := by decide +kernel
theorem dX10_feed_49 : decode cX10_feed 49 = .ok (.iload 5, 2) := by decide +kernel
theorem dX10_feed_51 : decode cX10_feed 51 = .ok (.invokevirtual 102, 3) := by decide +kernel
theorem dX10_feed_54 : decode cX10_feed 54 = .ok (.aload_n 0, 1) := by decide +kernel
theorem dX10_feed_55 : decode cX10_feed 55 = .ok (.getfield 19, 3) := by decide +kernel
theorem dX10_feed_58 : decode cX10_feed 58 = .ok (.getfield 106, 3) := by decide +kernel
theorem dX10_feed_61 : decode cX10_feed 61 = .ok (.ireturn, 1) := by decide +kernel
theorem dX10_end_0 : decode cX10_end 0 = .ok (.aload_n 0, 1) := by decide +kernel
theorem dX10_end_1 : decode cX10_end 1 = .ok (.getfield 19, 3) := by decide +kernel
theorem dX10_end_4 : decode cX10_end 4 = .ok (.iload_n 1, 1) := by decide +kernel
theorem dX10_end_5 : decode cX10_end 5 = .ok (.invokevirtual 109, 3) := by decide +kernel
theorem dX10_end_8 : decode cX10_end 8 = .ok (.ifCond .eq 7, 3) := by decide +kernel
theorem dX10_end_11 : decode cX10_end 11 = .ok (.iload_n 1, 1) := by decide +kernel
theorem dX10_end_12 : decode cX10_end 12 = .ok (.goto 4, 3) := by decide +kernel
theorem dX10_end_15 : decode cX10_end 15 = .ok (.iconst (-1), 1) := by decide +kernel
theorem dX10_end_16 : decode cX10_end 16 = .ok (.ireturn, 1) := by decide +kernel
theorem dX10_grades_0 : decode cX10_grades 0 = .ok (.aload_n 0, 1) := by decide +kernel
theorem dX10_grades_1 : decode cX10_grades 1 = .ok (.getfield 26, 3) := by decide +kernel
theorem dX10_grades_4 : decode cX10_grades 4 = .ok (.aload_n 0, 1) := by decide +kernel
theorem dX10_grades_5 : decode cX10_grades 5 = .ok (.getfield 19, 3) := by decide +kernel
theorem dX10_grades_8 : decode cX10_grades 8 = .ok (.invokevirtual 113, 3) := by decide +kernel
theorem dX10_grades_11 : decode cX10_grades 11 = .ok (.istore_n 1, 1) := by decide +kernel
theorem dX10_grades_12 : decode cX10_grades 12 = .ok (.aload_n 0, 1) := by decide +kernel
theorem dX10_grades_13 : decode cX10_grades 13 = .ok (.getfield 19, 3) := by decide +kernel
theorem dX10_grades_16 : decode cX10_grades 16 = .ok (.iconst 0, 1) := by decide +kernel
theorem dX10_grades_17 : decode cX10_grades 17 = .ok (.invokevirtual 109, 3) := by decide +kernel
theorem dX10_grades_20 : decode cX10_grades 20 = .ok (.pop, 1) := by decide +kernel
theorem dX10_grades_21 : decode cX10_grades 21 = .ok (.aload_n 0, 1) := by decide +kernel
theorem dX10_grades_22 : decode cX10_grades 22 = .ok (.aload_n 0, 1) := by decide +kernel
theorem dX10_grades_23 : decode cX10_grades 23 = .ok (.getfield 26, 3) := by decide +kernel
theorem dX10_grades_26 : decode cX10_grades 26 = .ok (.getfield 117, 3) := by decide +kernel
theorem dX10_grades_29 : decode cX10_grades 29 = .ok (.putfield 67, 3) := by decide +kernel
theorem dX10_grades_32 : decode cX10_grades 32 = .ok (.aload_n 0, 1) := by decide +kernel
theorem dX10_grades_33 : decode cX10_grades 33 = .ok (.iload_n 1, 1) := by decide +kernel
theorem dX10_grades_34 : decode cX10_grades 34 = .ok (.ifCond .eq 7, 3) := by decide +kernel
theorem dX10_grades_37 : decode cX10_grades 37 = .ok (.iconst (-1), 1) := by decide +kernel
theorem dX10_grades_38 : decode cX10_grades 38 = .ok (.goto 10, 3) := by decide +kernel
theorem dX10_grades_41 : decode cX10_grades 41 = .ok (.aload_n 0, 1) := by decide +kernel
theorem dX10_grades_42 : decode cX10_grades 42 = .ok (.getfield 26, 3) := by decide +kernel
theorem dX10_grades_45 : decode cX10_grades 45 = .ok (.invokevirtual 120, 3) := by decide +kernel
theorem dX10_grades_48 : decode cX10_grades 48 = .ok (.putfield 71, 3) := by decide +kernel
theorem dX10_grades_51 : decode cX10_grades 51 = .ok (.iload_n 1, 1) := by decide +kernel
theorem dX10_grades_52 : decode cX10_grades 52 = .ok (.ifCond .ne 5, 3) := by decide +kernel
theorem dX10_grades_55 : decode cX10_grades 55 = .ok (.iconst (-1), 1) := by decide +kernel
theorem dX10_grades_56 : decode cX10_grades 56 = .ok (.ireturn, 1) := by decide +kernel
theorem dX10_grades_57 : decode cX10_grades 57 = .ok (.aload_n 0, 1) := by decide +kernel
theorem dX10_grades_58 : decode cX10_grades 58 = .ok (.getfield 33, 3) := by decide +kernel
theorem dX10_grades_61 : decode cX10_grades 61 = .ok (.aload_n 0, 1) := by decide +kernel
theorem dX10_grades_62 : decode cX10_grades 62 = .ok (.getfield 26, 3) := by decide +kernel
theorem dX10_grades_65 : decode cX10_grades 65 = .ok (.getfield 124, 3) := by decide +kernel
theorem dX10_grades_68 : decode cX10_grades 68 = .ok (.invokevirtual 127, 3) := by decide +kernel
theorem dX10_grades_71 : decode cX10_grades 71 = .ok (.aload_n 0, 1) := by decide +kernel
theorem dX10_grades_72 : decode cX10_grades 72 = .ok (.getfield 49, 3) := by decide +kernel
theorem dX10_grades_75 : decode cX10_grades 75 = .ok (.invokevirtual 131, 3) := by decide +kernel
theorem dX10_grades_78 : decode cX10_grades 78 = .ok (.aload_n 0, 1) := by decide +kernel
theorem dX10_grades_79 : decode cX10_grades 79 = .ok (.getfield 33, 3) := by decide +kernel
theorem dX10_grades_82 : decode cX10_grades 82 = .ok (.getfield 134, 3) := by decide +kernel
theorem dX10_grades_85 : decode cX10_grades 85 = .ok (.ireturn, 1) := by decide +kernel
theorem dX10_fault_0 : decode cX10_fault 0 = .ok (.iload_n 1, 1) := by decide +kernel
theorem dX10_fault_1 : decode cX10_fault 1 = .ok (.lookupswitch 37 #[(0, 27), (1, 32)], 27) := by decide +kernel
theorem dX10_fault_28 : decode cX10_fault 28 = .ok (.aload_n 0, 1) := by decide +kernel
theorem dX10_fault_29 : decode cX10_fault 29 = .ok (.getfield 67, 3) := by decide +kernel
theorem dX10_fault_32 : decode cX10_fault 32 = .ok (.ireturn, 1) := by decide +kernel
theorem dX10_fault_33 : decode cX10_fault 33 = .ok (.aload_n 0, 1) := by decide +kernel
theorem dX10_fault_34 : decode cX10_fault 34 = .ok (.getfield 71, 3) := by decide +kernel
theorem dX10_fault_37 : decode cX10_fault 37 = .ok (.ireturn, 1) := by decide +kernel
theorem dX10_fault_38 : decode cX10_fault 38 = .ok (.iconst (-1), 1) := by decide +kernel
theorem dX10_fault_39 : decode cX10_fault 39 = .ok (.ireturn, 1) := by decide +kernel
theorem dX10_leaf_0 : decode cX10_leaf 0 = .ok (.aload_n 0, 1) := by decide +kernel
theorem dX10_leaf_1 : decode cX10_leaf 1 = .ok (.aload_n 0, 1) := by decide +kernel
theorem dX10_leaf_2 : decode cX10_leaf 2 = .ok (.getfield 19, 3) := by decide +kernel
theorem dX10_leaf_5 : decode cX10_leaf 5 = .ok (.invokestatic 137, 3) := by decide +kernel
theorem dX10_leaf_8 : decode cX10_leaf 8 = .ok (.putfield 71, 3) := by decide +kernel
theorem dX10_leaf_11 : decode cX10_leaf 11 = .ok (.aload_n 0, 1) := by decide +kernel
theorem dX10_leaf_12 : decode cX10_leaf 12 = .ok (.aload_n 0, 1) := by decide +kernel
theorem dX10_leaf_13 : decode cX10_leaf 13 = .ok (.getfield 71, 3) := by decide +kernel
theorem dX10_leaf_16 : decode cX10_leaf 16 = .ok (.iconst (-1), 1) := by decide +kernel
theorem dX10_leaf_17 : decode cX10_leaf 17 = .ok (.if_icmp .ne 7, 3) := by decide +kernel
theorem dX10_leaf_20 : decode cX10_leaf 20 = .ok (.iconst 0, 1) := by decide +kernel
theorem dX10_leaf_21 : decode cX10_leaf 21 = .ok (.goto 4, 3) := by decide +kernel
theorem dX10_leaf_24 : decode cX10_leaf 24 = .ok (.iconst 1, 1) := by decide +kernel
theorem dX10_leaf_25 : decode cX10_leaf 25 = .ok (.putfield 67, 3) := by decide +kernel
theorem dX10_leaf_28 : decode cX10_leaf 28 = .ok (.aload_n 0, 1) := by decide +kernel
theorem dX10_leaf_29 : decode cX10_leaf 29 = .ok (.getfield 67, 3) := by decide +kernel
theorem dX10_leaf_32 : decode cX10_leaf 32 = .ok (.ifCond .ne 21, 3) := by decide +kernel
theorem dX10_leaf_35 : decode cX10_leaf 35 = .ok (.aload_n 0, 1) := by decide +kernel
theorem dX10_leaf_36 : decode cX10_leaf 36 = .ok (.getfield 40, 3) := by decide +kernel
theorem dX10_leaf_39 : decode cX10_leaf 39 = .ok (.aload_n 0, 1) := by decide +kernel
theorem dX10_leaf_40 : decode cX10_leaf 40 = .ok (.getfield 19, 3) := by decide +kernel
theorem dX10_leaf_43 : decode cX10_leaf 43 = .ok (.invokevirtual 141, 3) := by decide +kernel
theorem dX10_leaf_46 : decode cX10_leaf 46 = .ok (.aload_n 0, 1) := by decide +kernel
theorem dX10_leaf_47 : decode cX10_leaf 47 = .ok (.getfield 49, 3) := by decide +kernel
theorem dX10_leaf_50 : decode cX10_leaf 50 = .ok (.invokevirtual 131, 3) := by decide +kernel
theorem dX10_leaf_53 : decode cX10_leaf 53 = .ok (.aload_n 0, 1) := by decide +kernel
theorem dX10_leaf_54 : decode cX10_leaf 54 = .ok (.getfield 19, 3) := by decide +kernel
theorem dX10_leaf_57 : decode cX10_leaf 57 = .ok (.iconst 0, 1) := by decide +kernel
theorem dX10_leaf_58 : decode cX10_leaf 58 = .ok (.invokevirtual 109, 3) := by decide +kernel
theorem dX10_leaf_61 : decode cX10_leaf 61 = .ok (.pop, 1) := by decide +kernel
theorem dX10_leaf_62 : decode cX10_leaf 62 = .ok (.aload_n 0, 1) := by decide +kernel
theorem dX10_leaf_63 : decode cX10_leaf 63 = .ok (.getfield 67, 3) := by decide +kernel
theorem dX10_leaf_66 : decode cX10_leaf 66 = .ok (.ifCond .ne 13, 3) := by decide +kernel
theorem dX10_leaf_69 : decode cX10_leaf 69 = .ok (.aload_n 0, 1) := by decide +kernel
theorem dX10_leaf_70 : decode cX10_leaf 70 = .ok (.getfield 40, 3) := by decide +kernel
theorem dX10_leaf_73 : decode cX10_leaf 73 = .ok (.getfield 145, 3) := by decide +kernel
theorem dX10_leaf_76 : decode cX10_leaf 76 = .ok (.goto 4, 3) := by decide +kernel
theorem dX10_leaf_79 : decode cX10_leaf 79 = .ok (.iconst (-1), 1) := by decide +kernel
theorem dX10_leaf_80 : decode cX10_leaf 80 = .ok (.ireturn, 1) := by decide +kernel
theorem dX10_patch_0 : decode cX10_patch 0 = .ok (.iload_n 1, 1) := by decide +kernel
theorem dX10_patch_1 : decode cX10_patch 1 = .ok (.iconst 0, 1) := by decide +kernel
theorem dX10_patch_2 : decode cX10_patch 2 = .ok (.iconst 3, 1) := by decide +kernel
theorem dX10_patch_3 : decode cX10_patch 3 = .ok (.invokestatic 90, 3) := by decide +kernel
theorem dX10_patch_6 : decode cX10_patch 6 = .ok (.ifCond .eq 13, 3) := by decide +kernel
theorem dX10_patch_9 : decode cX10_patch 9 = .ok (.iload_n 2, 1) := by decide +kernel
theorem dX10_patch_10 : decode cX10_patch 10 = .ok (.iconst 0, 1) := by decide +kernel
theorem dX10_patch_11 : decode cX10_patch 11 = .ok (.bipush 100, 2) := by decide +kernel
theorem dX10_patch_13 : decode cX10_patch 13 = .ok (.invokestatic 90, 3) := by decide +kernel
theorem dX10_patch_16 : decode cX10_patch 16 = .ok (.ifCond .ne 5, 3) := by decide +kernel
theorem dX10_patch_19 : decode cX10_patch 19 = .ok (.iconst 0, 1) := by decide +kernel
theorem dX10_patch_20 : decode cX10_patch 20 = .ok (.ireturn, 1) := by decide +kernel
theorem dX10_patch_21 : decode cX10_patch 21 = .ok (.aload_n 0, 1) := by decide +kernel
theorem dX10_patch_22 : decode cX10_patch 22 = .ok (.getfield 49, 3) := by decide +kernel
theorem dX10_patch_25 : decode cX10_patch 25 = .ok (.iload_n 1, 1) := by decide +kernel
theorem dX10_patch_26 : decode cX10_patch 26 = .ok (.iload_n 2, 1) := by decide +kernel
theorem dX10_patch_27 : decode cX10_patch 27 = .ok (.invokevirtual 148, 3) := by decide +kernel
theorem dX10_patch_30 : decode cX10_patch 30 = .ok (.iconst 1, 1) := by decide +kernel
theorem dX10_patch_31 : decode cX10_patch 31 = .ok (.ireturn, 1) := by decide +kernel
theorem dX10_sheet_0 : decode cX10_sheet 0 = .ok (.iload_n 3, 1) := by decide +kernel
theorem dX10_sheet_1 : decode cX10_sheet 1 = .ok (.iconst 0, 1) := by decide +kernel
theorem dX10_sheet_2 : decode cX10_sheet 2 = .ok (.iconst 3, 1) := by decide +kernel
theorem dX10_sheet_3 : decode cX10_sheet 3 = .ok (.invokestatic 90, 3) := by decide +kernel
theorem dX10_sheet_6 : decode cX10_sheet 6 = .ok (.ifCond .eq 20, 3) := by decide +kernel
theorem dX10_sheet_9 : decode cX10_sheet 9 = .ok (.iload_n 2, 1) := by decide +kernel
theorem dX10_sheet_10 : decode cX10_sheet 10 = .ok (.iconst 0, 1) := by decide +kernel
theorem dX10_sheet_11 : decode cX10_sheet 11 = .ok (.aload_n 0, 1) := by decide +kernel
theorem dX10_sheet_12 : decode cX10_sheet 12 = .ok (.getfield 33, 3) := by decide +kernel
theorem dX10_sheet_15 : decode cX10_sheet 15 = .ok (.getfield 134, 3) := by decide +kernel
theorem dX10_sheet_18 : decode cX10_sheet 18 = .ok (.iconst 1, 1) := by decide +kernel
theorem dX10_sheet_19 : decode cX10_sheet 19 = .ok (.isub, 1) := by decide +kernel
theorem dX10_sheet_20 : decode cX10_sheet 20 = .ok (.invokestatic 90, 3) := by decide +kernel
theorem dX10_sheet_23 : decode cX10_sheet 23 = .ok (.ifCond .ne 5, 3) := by decide +kernel
theorem dX10_sheet_26 : decode cX10_sheet 26 = .ok (.iconst (-1), 1) := by decide +kernel
theorem dX10_sheet_27 : decode cX10_sheet 27 = .ok (.ireturn, 1) := by decide +kernel
theorem dX10_sheet_28 : decode cX10_sheet 28 = .ok (.iload_n 1, 1) := by decide +kernel
theorem dX10_sheet_29 : decode cX10_sheet 29 = .ok (.iconst 0, 1) := by decide +kernel
theorem dX10_sheet_30 : decode cX10_sheet 30 = .ok (.aload_n 0, 1) := by decide +kernel
theorem dX10_sheet_31 : decode cX10_sheet 31 = .ok (.getfield 40, 3) := by decide +kernel
theorem dX10_sheet_34 : decode cX10_sheet 34 = .ok (.getfield 145, 3) := by decide +kernel
theorem dX10_sheet_37 : decode cX10_sheet 37 = .ok (.aload_n 0, 1) := by decide +kernel
theorem dX10_sheet_38 : decode cX10_sheet 38 = .ok (.getfield 33, 3) := by decide +kernel
theorem dX10_sheet_41 : decode cX10_sheet 41 = .ok (.iload_n 2, 1) := by decide +kernel
theorem dX10_sheet_42 : decode cX10_sheet 42 = .ok (.invokevirtual 152, 3) := by decide +kernel
theorem dX10_sheet_45 : decode cX10_sheet 45 = .ok (.isub, 1) := by decide +kernel
theorem dX10_sheet_46 : decode cX10_sheet 46 = .ok (.invokestatic 90, 3) := by decide +kernel
theorem dX10_sheet_49 : decode cX10_sheet 49 = .ok (.ifCond .ne 5, 3) := by decide +kernel
theorem dX10_sheet_52 : decode cX10_sheet 52 = .ok (.iconst (-1), 1) := by decide +kernel
theorem dX10_sheet_53 : decode cX10_sheet 53 = .ok (.ireturn, 1) := by decide +kernel
theorem dX10_sheet_54 : decode cX10_sheet 54 = .ok (.aload_n 0, 1) := by decide +kernel
theorem dX10_sheet_55 : decode cX10_sheet 55 = .ok (.getfield 49, 3) := by decide +kernel
theorem dX10_sheet_58 : decode cX10_sheet 58 = .ok (.iload_n 1, 1) := by decide +kernel
theorem dX10_sheet_59 : decode cX10_sheet 59 = .ok (.iload_n 2, 1) := by decide +kernel
theorem dX10_sheet_60 : decode cX10_sheet 60 = .ok (.iload_n 3, 1) := by decide +kernel
theorem dX10_sheet_61 : decode cX10_sheet 61 = .ok (.invokevirtual 156, 3) := by decide +kernel
theorem dX10_sheet_64 : decode cX10_sheet 64 = .ok (.ifCond .eq 7, 3) := by decide +kernel
theorem dX10_sheet_67 : decode cX10_sheet 67 = .ok (.iconst 1, 1) := by decide +kernel
theorem dX10_sheet_68 : decode cX10_sheet 68 = .ok (.goto 4, 3) := by decide +kernel
theorem dX10_sheet_71 : decode cX10_sheet 71 = .ok (.iconst 0, 1) := by decide +kernel
theorem dX10_sheet_72 : decode cX10_sheet 72 = .ok (.ireturn, 1) := by decide +kernel
theorem dX10_worth_0 : decode cX10_worth 0 = .ok (.aload_n 0, 1) := by decide +kernel
theorem dX10_worth_1 : decode cX10_worth 1 = .ok (.getfield 49, 3) := by decide +kernel
theorem dX10_worth_4 : decode cX10_worth 4 = .ok (.invokevirtual 159, 3) := by decide +kernel
theorem dX10_worth_7 : decode cX10_worth 7 = .ok (.aload_n 0, 1) := by decide +kernel
theorem dX10_worth_8 : decode cX10_worth 8 = .ok (.getfield 49, 3) := by decide +kernel
theorem dX10_worth_11 : decode cX10_worth 11 = .ok (.invokevirtual 162, 3) := by decide +kernel
theorem dX10_worth_14 : decode cX10_worth 14 = .ok (.ireturn, 1) := by decide +kernel
theorem dX10_sheets_0 : decode cX10_sheets 0 = .ok (.aload_n 0, 1) := by decide +kernel
theorem dX10_sheets_1 : decode cX10_sheets 1 = .ok (.getfield 49, 3) := by decide +kernel
theorem dX10_sheets_4 : decode cX10_sheets 4 = .ok (.invokevirtual 159, 3) := by decide +kernel
theorem dX10_sheets_7 : decode cX10_sheets 7 = .ok (.aload_n 0, 1) := by decide +kernel
theorem dX10_sheets_8 : decode cX10_sheets 8 = .ok (.getfield 49, 3) := by decide +kernel
theorem dX10_sheets_11 : decode cX10_sheets 11 = .ok (.getfield 165, 3) := by decide +kernel
theorem dX10_sheets_14 : decode cX10_sheets 14 = .ok (.ireturn, 1) := by decide +kernel
theorem dX10_clipped_0 : decode cX10_clipped 0 = .ok (.aload_n 0, 1) := by decide +kernel
theorem dX10_clipped_1 : decode cX10_clipped 1 = .ok (.getfield 49, 3) := by decide +kernel
theorem dX10_clipped_4 : decode cX10_clipped 4 = .ok (.invokevirtual 159, 3) := by decide +kernel
theorem dX10_clipped_7 : decode cX10_clipped 7 = .ok (.aload_n 0, 1) := by decide +kernel
theorem dX10_clipped_8 : decode cX10_clipped 8 = .ok (.getfield 49, 3) := by decide +kernel
theorem dX10_clipped_11 : decode cX10_clipped 11 = .ok (.iload_n 1, 1) := by decide +kernel
theorem dX10_clipped_12 : decode cX10_clipped 12 = .ok (.iload_n 2, 1) := by decide +kernel
theorem dX10_clipped_13 : decode cX10_clipped 13 = .ok (.invokevirtual 168, 3) := by decide +kernel
theorem dX10_clipped_16 : decode cX10_clipped 16 = .ok (.ireturn, 1) := by decide +kernel
theorem dX10_veneer_0 : decode cX10_veneer 0 = .ok (.iload_n 1, 1) := by decide +kernel
theorem dX10_veneer_1 : decode cX10_veneer 1 = .ok (.iconst 0, 1) := by decide +kernel
theorem dX10_veneer_2 : decode cX10_veneer 2 = .ok (.iconst 5, 1) := by decide +kernel
theorem dX10_veneer_3 : decode cX10_veneer 3 = .ok (.invokestatic 90, 3) := by decide +kernel
theorem dX10_veneer_6 : decode cX10_veneer 6 = .ok (.ifCond .eq 13, 3) := by decide +kernel
theorem dX10_veneer_9 : decode cX10_veneer 9 = .ok (.iload_n 2, 1) := by decide +kernel
theorem dX10_veneer_10 : decode cX10_veneer 10 = .ok (.iconst 1, 1) := by decide +kernel
theorem dX10_veneer_11 : decode cX10_veneer 11 = .ok (.bipush 90, 2) := by decide +kernel
theorem dX10_veneer_13 : decode cX10_veneer 13 = .ok (.invokestatic 90, 3) := by decide +kernel
theorem dX10_veneer_16 : decode cX10_veneer 16 = .ok (.ifCond .ne 5, 3) := by decide +kernel
theorem dX10_veneer_19 : decode cX10_veneer 19 = .ok (.iconst 0, 1) := by decide +kernel
theorem dX10_veneer_20 : decode cX10_veneer 20 = .ok (.ireturn, 1) := by decide +kernel
theorem dX10_veneer_21 : decode cX10_veneer 21 = .ok (.iload_n 3, 1) := by decide +kernel
theorem dX10_veneer_22 : decode cX10_veneer 22 = .ok (.iconst 0, 1) := by decide +kernel
theorem dX10_veneer_23 : decode cX10_veneer 23 = .ok (.bipush 20, 2) := by decide +kernel
theorem dX10_veneer_25 : decode cX10_veneer 25 = .ok (.iload_n 2, 1) := by decide +kernel
theorem dX10_veneer_26 : decode cX10_veneer 26 = .ok (.invokestatic 171, 3) := by decide +kernel
theorem dX10_veneer_29 : decode cX10_veneer 29 = .ok (.invokestatic 90, 3) := by decide +kernel
theorem dX10_veneer_32 : decode cX10_veneer 32 = .ok (.ifCond .eq 15, 3) := by decide +kernel
theorem dX10_veneer_35 : decode cX10_veneer 35 = .ok (.iload 4, 2) := by decide +kernel
theorem dX10_veneer_37 : decode cX10_veneer 37 = .ok (.iconst 0, 1) := by decide +kernel
theorem dX10_veneer_38 : decode cX10_veneer 38 = .ok (.sipush 1000, 3) := by decide +kernel
theorem dX10_veneer_41 : decode cX10_veneer 41 = .ok (.invokestatic 90, 3) := by decide +kernel
theorem dX10_veneer_44 : decode cX10_veneer 44 = .ok (.ifCond .ne 5, 3) := by decide +kernel
theorem dX10_veneer_47 : decode cX10_veneer 47 = .ok (.iconst 0, 1) := by decide +kernel
theorem dX10_veneer_48 : decode cX10_veneer 48 = .ok (.ireturn, 1) := by decide +kernel
theorem dX10_veneer_49 : decode cX10_veneer 49 = .ok (.aload_n 0, 1) := by decide +kernel
theorem dX10_veneer_50 : decode cX10_veneer 50 = .ok (.getfield 56, 3) := by decide +kernel
theorem dX10_veneer_53 : decode cX10_veneer 53 = .ok (.iload_n 1, 1) := by decide +kernel
theorem dX10_veneer_54 : decode cX10_veneer 54 = .ok (.iload_n 2, 1) := by decide +kernel
theorem dX10_veneer_55 : decode cX10_veneer 55 = .ok (.iload_n 3, 1) := by decide +kernel
theorem dX10_veneer_56 : decode cX10_veneer 56 = .ok (.iload 4, 2) := by decide +kernel
theorem dX10_veneer_58 : decode cX10_veneer 58 = .ok (.iload 5, 2) := by decide +kernel
theorem dX10_veneer_60 : decode cX10_veneer 60 = .ok (.invokevirtual 176, 3) := by decide +kernel
theorem dX10_veneer_63 : decode cX10_veneer 63 = .ok (.iconst 1, 1) := by decide +kernel
theorem dX10_veneer_64 : decode cX10_veneer 64 = .ok (.ireturn, 1) := by decide +kernel
theorem dX10_board_0 : decode cX10_board 0 = .ok (.iload_n 1, 1) := by decide +kernel
theorem dX10_board_1 : decode cX10_board 1 = .ok (.iload_n 2, 1) := by decide +kernel
theorem dX10_board_2 : decode cX10_board 2 = .ok (.invokestatic 180, 3) := by decide +kernel
theorem dX10_board_5 : decode cX10_board 5 = .ok (.ifCond .ne 5, 3) := by decide +kernel
theorem dX10_board_8 : decode cX10_board 8 = .ok (.iconst (-1), 1) := by decide +kernel
theorem dX10_board_9 : decode cX10_board 9 = .ok (.ireturn, 1) := by decide +kernel
theorem dX10_board_10 : decode cX10_board 10 = .ok (.iload_n 3, 1) := by decide +kernel
theorem dX10_board_11 : decode cX10_board 11 = .ok (.tableswitch 55 0 2 #[25, 35, 45], 25) := by decide +kernel
theorem dX10_board_36 : decode cX10_board 36 = .ok (.aload_n 0, 1) := by decide +kernel
theorem dX10_board_37 : decode cX10_board 37 = .ok (.getfield 56, 3) := by decide +kernel
theorem dX10_board_40 : decode cX10_board 40 = .ok (.iload_n 1, 1) := by decide +kernel
theorem dX10_board_41 : decode cX10_board 41 = .ok (.iload_n 2, 1) := by decide +kernel
theorem dX10_board_42 : decode cX10_board 42 = .ok (.invokevirtual 183, 3) := by decide +kernel
theorem dX10_board_45 : decode cX10_board 45 = .ok (.ireturn, 1) := by decide +kernel
theorem dX10_board_46 : decode cX10_board 46 = .ok (.aload_n 0, 1) := by decide +kernel
theorem dX10_board_47 : decode cX10_board 47 = .ok (.getfield 56, 3) := by decide +kernel
theorem dX10_board_50 : decode cX10_board 50 = .ok (.iload_n 1, 1) := by decide +kernel
theorem dX10_board_51 : decode cX10_board 51 = .ok (.iload_n 2, 1) := by decide +kernel
theorem dX10_board_52 : decode cX10_board 52 = .ok (.invokevirtual 186, 3) := by decide +kernel
theorem dX10_board_55 : decode cX10_board 55 = .ok (.ireturn, 1) := by decide +kernel
theorem dX10_board_56 : decode cX10_board 56 = .ok (.aload_n 0, 1) := by decide +kernel
theorem dX10_board_57 : decode cX10_board 57 = .ok (.getfield 56, 3) := by decide +kernel
theorem dX10_board_60 : decode cX10_board 60 = .ok (.iload_n 1, 1) := by decide +kernel
theorem dX10_board_61 : decode cX10_board 61 = .ok (.iload_n 2, 1) := by decide +kernel
theorem dX10_board_62 : decode cX10_board 62 = .ok (.invokevirtual 189, 3) := by decide +kernel
theorem dX10_board_65 : decode cX10_board 65 = .ok (.ireturn, 1) := by decide +kernel
theorem dX10_board_66 : decode cX10_board 66 = .ok (.iconst (-1), 1) := by decide +kernel
theorem dX10_board_67 : decode cX10_board 67 = .ok (.ireturn, 1) := by decide +kernel
theorem dX10_warp_0 : decode cX10_warp 0 = .ok (.iload_n 1, 1) := by decide +kernel
theorem dX10_warp_1 : decode cX10_warp 1 = .ok (.iload_n 2, 1) := by decide +kernel
theorem dX10_warp_2 : decode cX10_warp 2 = .ok (.invokestatic 180, 3) := by decide +kernel
theorem dX10_warp_5 : decode cX10_warp 5 = .ok (.ifCond .eq 15, 3) := by decide +kernel
theorem dX10_warp_8 : decode cX10_warp 8 = .ok (.aload_n 0, 1) := by decide +kernel
theorem dX10_warp_9 : decode cX10_warp 9 = .ok (.getfield 56, 3) := by decide +kernel
theorem dX10_warp_12 : decode cX10_warp 12 = .ok (.iload_n 1, 1) := by decide +kernel
theorem dX10_warp_13 : decode cX10_warp 13 = .ok (.iload_n 2, 1) := by decide +kernel
theorem dX10_warp_14 : decode cX10_warp 14 = .ok (.invokevirtual 192, 3) := by decide +kernel
theorem dX10_warp_17 : decode cX10_warp 17 = .ok (.goto 5, 3) := by decide +kernel
theorem dX10_warp_20 : decode cX10_warp 20 = .ok (.ldc 195, 2) := by decide +kernel
theorem dX10_warp_22 : decode cX10_warp 22 = .ok (.ireturn, 1) := by decide +kernel
theorem dX10_best_0 : decode cX10_best 0 = .ok (.iload_n 1, 1) := by decide +kernel
theorem dX10_best_1 : decode cX10_best 1 = .ok (.iconst 1, 1) := by decide +kernel
theorem dX10_best_2 : decode cX10_best 2 = .ok (.bipush 9, 2) := by decide +kernel
theorem dX10_best_4 : decode cX10_best 4 = .ok (.invokestatic 90, 3) := by decide +kernel
theorem dX10_best_7 : decode cX10_best 7 = .ok (.ifCond .eq 9, 3) := by decide +kernel
theorem dX10_best_10 : decode cX10_best 10 = .ok (.iload_n 1, 1) := by decide +kernel
theorem dX10_best_11 : decode cX10_best 11 = .ok (.iconst 2, 1) := by decide +kernel
theorem dX10_best_12 : decode cX10_best 12 = .ok (.irem, 1) := by decide +kernel
theorem dX10_best_13 : decode cX10_best 13 = .ok (.ifCond .ne 5, 3) := by decide +kernel
theorem dX10_best_16 : decode cX10_best 16 = .ok (.iconst (-1), 1) := by decide +kernel
theorem dX10_best_17 : decode cX10_best 17 = .ok (.ireturn, 1) := by decide +kernel
theorem dX10_best_18 : decode cX10_best 18 = .ok (.aload_n 0, 1) := by decide +kernel
theorem dX10_best_19 : decode cX10_best 19 = .ok (.getfield 56, 3) := by decide +kernel
theorem dX10_best_22 : decode cX10_best 22 = .ok (.iload_n 1, 1) := by decide +kernel
theorem dX10_best_23 : decode cX10_best 23 = .ok (.iload_n 2, 1) := by decide +kernel
theorem dX10_best_24 : decode cX10_best 24 = .ok (.iload_n 3, 1) := by decide +kernel
theorem dX10_best_25 : decode cX10_best 25 = .ok (.invokevirtual 196, 3) := by decide +kernel
theorem dX10_best_28 : decode cX10_best 28 = .ok (.ireturn, 1) := by decide +kernel
theorem dX10_press_0 : decode cX10_press 0 = .ok (.iload_n 1, 1) := by decide +kernel
theorem dX10_press_1 : decode cX10_press 1 = .ok (.iconst 1, 1) := by decide +kernel
theorem dX10_press_2 : decode cX10_press 2 = .ok (.bipush 10, 2) := by decide +kernel
theorem dX10_press_4 : decode cX10_press 4 = .ok (.invokestatic 90, 3) := by decide +kernel
theorem dX10_press_7 : decode cX10_press 7 = .ok (.ifCond .eq 13, 3) := by decide +kernel
theorem dX10_press_10 : decode cX10_press 10 = .ok (.iload_n 2, 1) := by decide +kernel
theorem dX10_press_11 : decode cX10_press 11 = .ok (.iconst 0, 1) := by decide +kernel
theorem dX10_press_12 : decode cX10_press 12 = .ok (.bipush 100, 2) := by decide +kernel
theorem dX10_press_14 : decode cX10_press 14 = .ok (.invokestatic 90, 3) := by decide +kernel
theorem dX10_press_17 : decode cX10_press 17 = .ok (.ifCond .ne 5, 3) := by decide +kernel
theorem dX10_press_20 : decode cX10_press 20 = .ok (.iconst 0, 1) := by decide +kernel
theorem dX10_press_21 : decode cX10_press 21 = .ok (.ireturn, 1) := by decide +kernel
theorem dX10_press_22 : decode cX10_press 22 = .ok (.iload_n 3, 1) := by decide +kernel
theorem dX10_press_23 : decode cX10_press 23 = .ok (.iconst 0, 1) := by decide +kernel
theorem dX10_press_24 : decode cX10_press 24 = .ok (.bipush 10, 2) := by decide +kernel
theorem dX10_press_26 : decode cX10_press 26 = .ok (.invokestatic 90, 3) := by decide +kernel
theorem dX10_press_29 : decode cX10_press 29 = .ok (.ifCond .eq 15, 3) := by decide +kernel
theorem dX10_press_32 : decode cX10_press 32 = .ok (.iload 4, 2) := by decide +kernel
theorem dX10_press_34 : decode cX10_press 34 = .ok (.iconst 1, 1) := by decide +kernel
theorem dX10_press_35 : decode cX10_press 35 = .ok (.sipush 1000, 3) := by decide +kernel
theorem dX10_press_38 : decode cX10_press 38 = .ok (.invokestatic 90, 3) := by decide +kernel
theorem dX10_press_41 : decode cX10_press 41 = .ok (.ifCond .ne 5, 3) := by decide +kernel
theorem dX10_press_44 : decode cX10_press 44 = .ok (.iconst 0, 1) := by decide +kernel
theorem dX10_press_45 : decode cX10_press 45 = .ok (.ireturn, 1) := by decide +kernel
theorem dX10_press_46 : decode cX10_press 46 = .ok (.aload_n 0, 1) := by decide +kernel
theorem dX10_press_47 : decode cX10_press 47 = .ok (.getfield 63, 3) := by decide +kernel
theorem dX10_press_50 : decode cX10_press 50 = .ok (.iload_n 1, 1) := by decide +kernel
theorem dX10_press_51 : decode cX10_press 51 = .ok (.iload_n 2, 1) := by decide +kernel
theorem dX10_press_52 : decode cX10_press 52 = .ok (.iload_n 3, 1) := by decide +kernel
theorem dX10_press_53 : decode cX10_press 53 = .ok (.iload 4, 2) := by decide +kernel
theorem dX10_press_55 : decode cX10_press 55 = .ok (.invokevirtual 200, 3) := by decide +kernel
theorem dX10_press_58 : decode cX10_press 58 = .ok (.iconst 1, 1) := by decide +kernel
theorem dX10_press_59 : decode cX10_press 59 = .ok (.ireturn, 1) := by decide +kernel
theorem dX10_glue_0 : decode cX10_glue 0 = .ok (.iload_n 1, 1) := by decide +kernel
theorem dX10_glue_1 : decode cX10_glue 1 = .ok (.iconst 1, 1) := by decide +kernel
theorem dX10_glue_2 : decode cX10_glue 2 = .ok (.sipush 500, 3) := by decide +kernel
theorem dX10_glue_5 : decode cX10_glue 5 = .ok (.invokestatic 90, 3) := by decide +kernel
theorem dX10_glue_8 : decode cX10_glue 8 = .ok (.ifCond .eq 14, 3) := by decide +kernel
theorem dX10_glue_11 : decode cX10_glue 11 = .ok (.iload_n 2, 1) := by decide +kernel
theorem dX10_glue_12 : decode cX10_glue 12 = .ok (.iconst 0, 1) := by decide +kernel
theorem dX10_glue_13 : decode cX10_glue 13 = .ok (.sipush 10000, 3) := by decide +kernel
theorem dX10_glue_16 : decode cX10_glue 16 = .ok (.invokestatic 90, 3) := by decide +kernel
theorem dX10_glue_19 : decode cX10_glue 19 = .ok (.ifCond .ne 5, 3) := by decide +kernel
theorem dX10_glue_22 : decode cX10_glue 22 = .ok (.iconst (-1), 1) := by decide +kernel
theorem dX10_glue_23 : decode cX10_glue 23 = .ok (.ireturn, 1) := by decide +kernel
theorem dX10_glue_24 : decode cX10_glue 24 = .ok (.aload_n 0, 1) := by decide +kernel
theorem dX10_glue_25 : decode cX10_glue 25 = .ok (.getfield 63, 3) := by decide +kernel
theorem dX10_glue_28 : decode cX10_glue 28 = .ok (.iload_n 1, 1) := by decide +kernel
theorem dX10_glue_29 : decode cX10_glue 29 = .ok (.iload_n 2, 1) := by decide +kernel
theorem dX10_glue_30 : decode cX10_glue 30 = .ok (.invokevirtual 203, 3) := by decide +kernel
theorem dX10_glue_33 : decode cX10_glue 33 = .ok (.ireturn, 1) := by decide +kernel
theorem dX10_drop_0 : decode cX10_drop 0 = .ok (.aload_n 0, 1) := by decide +kernel
theorem dX10_drop_1 : decode cX10_drop 1 = .ok (.getfield 63, 3) := by decide +kernel
theorem dX10_drop_4 : decode cX10_drop 4 = .ok (.invokevirtual 206, 3) := by decide +kernel
end
section
theorem dX10_drop_7 : decode cX10_drop 7 = .ok (.ireturn, 1) := by decide +kernel
theorem dX10_plan_0 : decode cX10_plan 0 = .ok (.aload_n 0, 1) := by decide +kernel
theorem dX10_plan_1 : decode cX10_plan 1 = .ok (.getfield 63, 3) := by decide +kernel
theorem dX10_plan_4 : decode cX10_plan 4 = .ok (.invokevirtual 209, 3) := by decide +kernel
theorem dX10_plan_7 : decode cX10_plan 7 = .ok (.iload_n 1, 1) := by decide +kernel
theorem dX10_plan_8 : decode cX10_plan 8 = .ok (.tableswitch 74 0 3 #[32, 43, 51, 66], 32) := by decide +kernel
theorem dX10_plan_40 : decode cX10_plan 40 = .ok (.aload_n 0, 1) := by decide +kernel
theorem dX10_plan_41 : decode cX10_plan 41 = .ok (.getfield 63, 3) := by decide +kernel
theorem dX10_plan_44 : decode cX10_plan 44 = .ok (.getfield 210, 3) := by decide +kernel
theorem dX10_plan_47 : decode cX10_plan 47 = .ok (.invokestatic 213, 3) := by decide +kernel
theorem dX10_plan_50 : decode cX10_plan 50 = .ok (.ireturn, 1) := by decide +kernel
theorem dX10_plan_51 : decode cX10_plan 51 = .ok (.aload_n 0, 1) := by decide +kernel
theorem dX10_plan_52 : decode cX10_plan 52 = .ok (.getfield 63, 3) := by decide +kernel
theorem dX10_plan_55 : decode cX10_plan 55 = .ok (.getfield 210, 3) := by decide +kernel
theorem dX10_plan_58 : decode cX10_plan 58 = .ok (.ireturn, 1) := by decide +kernel
theorem dX10_plan_59 : decode cX10_plan 59 = .ok (.aload_n 0, 1) := by decide +kernel
theorem dX10_plan_60 : decode cX10_plan 60 = .ok (.getfield 63, 3) := by decide +kernel
theorem dX10_plan_63 : decode cX10_plan 63 = .ok (.aload_n 0, 1) := by decide +kernel
theorem dX10_plan_64 : decode cX10_plan 64 = .ok (.getfield 63, 3) := by decide +kernel
theorem dX10_plan_67 : decode cX10_plan 67 = .ok (.getfield 210, 3) := by decide +kernel
theorem dX10_plan_70 : decode cX10_plan 70 = .ok (.invokevirtual 218, 3) := by decide +kernel
theorem dX10_plan_73 : decode cX10_plan 73 = .ok (.ireturn, 1) := by decide +kernel
theorem dX10_plan_74 : decode cX10_plan 74 = .ok (.aload_n 0, 1) := by decide +kernel
theorem dX10_plan_75 : decode cX10_plan 75 = .ok (.getfield 63, 3) := by decide +kernel
theorem dX10_plan_78 : decode cX10_plan 78 = .ok (.getfield 221, 3) := by decide +kernel
theorem dX10_plan_81 : decode cX10_plan 81 = .ok (.ireturn, 1) := by decide +kernel
theorem dX10_plan_82 : decode cX10_plan 82 = .ok (.iconst (-1), 1) := by decide +kernel
theorem dX10_plan_83 : decode cX10_plan 83 = .ok (.ireturn, 1) := by decide +kernel
theorem dX10_load_0 : decode cX10_load 0 = .ok (.aload_n 0, 1) := by decide +kernel
theorem dX10_load_1 : decode cX10_load 1 = .ok (.getfield 63, 3) := by decide +kernel
theorem dX10_load_4 : decode cX10_load 4 = .ok (.invokevirtual 209, 3) := by decide +kernel
theorem dX10_load_7 : decode cX10_load 7 = .ok (.aload_n 0, 1) := by decide +kernel
theorem dX10_load_8 : decode cX10_load 8 = .ok (.getfield 63, 3) := by decide +kernel
theorem dX10_load_11 : decode cX10_load 11 = .ok (.iload_n 1, 1) := by decide +kernel
theorem dX10_load_12 : decode cX10_load 12 = .ok (.iload_n 2, 1) := by decide +kernel
theorem dX10_load_13 : decode cX10_load 13 = .ok (.invokevirtual 224, 3) := by decide +kernel
theorem dX10_load_16 : decode cX10_load 16 = .ok (.ireturn, 1) := by decide +kernel
theorem dX10_about_0 : decode cX10_about 0 = .ok (.iload_n 1, 1) := by decide +kernel
theorem dX10_about_1 : decode cX10_about 1 = .ok (.tableswitch 63 0 3 #[31, 39, 47, 55], 31) := by decide +kernel
theorem dX10_about_32 : decode cX10_about 32 = .ok (.aload_n 0, 1) := by decide +kernel
theorem dX10_about_33 : decode cX10_about 33 = .ok (.getfield 33, 3) := by decide +kernel
theorem dX10_about_36 : decode cX10_about 36 = .ok (.getfield 134, 3) := by decide +kernel
theorem dX10_about_39 : decode cX10_about 39 = .ok (.ireturn, 1) := by decide +kernel
theorem dX10_about_40 : decode cX10_about 40 = .ok (.aload_n 0, 1) := by decide +kernel
theorem dX10_about_41 : decode cX10_about 41 = .ok (.getfield 40, 3) := by decide +kernel
theorem dX10_about_44 : decode cX10_about 44 = .ok (.getfield 145, 3) := by decide +kernel
theorem dX10_about_47 : decode cX10_about 47 = .ok (.ireturn, 1) := by decide +kernel
theorem dX10_about_48 : decode cX10_about 48 = .ok (.aload_n 0, 1) := by decide +kernel
theorem dX10_about_49 : decode cX10_about 49 = .ok (.getfield 63, 3) := by decide +kernel
theorem dX10_about_52 : decode cX10_about 52 = .ok (.getfield 225, 3) := by decide +kernel
theorem dX10_about_55 : decode cX10_about 55 = .ok (.ireturn, 1) := by decide +kernel
theorem dX10_about_56 : decode cX10_about 56 = .ok (.aload_n 0, 1) := by decide +kernel
theorem dX10_about_57 : decode cX10_about 57 = .ok (.getfield 19, 3) := by decide +kernel
theorem dX10_about_60 : decode cX10_about 60 = .ok (.getfield 106, 3) := by decide +kernel
theorem dX10_about_63 : decode cX10_about 63 = .ok (.ireturn, 1) := by decide +kernel
theorem dX10_about_64 : decode cX10_about 64 = .ok (.iconst (-1), 1) := by decide +kernel
theorem dX10_about_65 : decode cX10_about 65 = .ok (.ireturn, 1) := by decide +kernel
theorem dX10_within_0 : decode cX10_within 0 = .ok (.iload_n 1, 1) := by decide +kernel
theorem dX10_within_1 : decode cX10_within 1 = .ok (.iload_n 0, 1) := by decide +kernel
theorem dX10_within_2 : decode cX10_within 2 = .ok (.if_icmp .gt 12, 3) := by decide +kernel
theorem dX10_within_5 : decode cX10_within 5 = .ok (.iload_n 0, 1) := by decide +kernel
theorem dX10_within_6 : decode cX10_within 6 = .ok (.iload_n 2, 1) := by decide +kernel
theorem dX10_within_7 : decode cX10_within 7 = .ok (.if_icmp .gt 7, 3) := by decide +kernel
theorem dX10_within_10 : decode cX10_within 10 = .ok (.iconst 1, 1) := by decide +kernel
theorem dX10_within_11 : decode cX10_within 11 = .ok (.goto 4, 3) := by decide +kernel
theorem dX10_within_14 : decode cX10_within 14 = .ok (.iconst 0, 1) := by decide +kernel
theorem dX10_within_15 : decode cX10_within 15 = .ok (.ireturn, 1) := by decide +kernel
theorem dX11_init_0 : decode cX11_init 0 = .ok (.aload_n 0, 1) := by decide +kernel
theorem dX11_init_1 : decode cX11_init 1 = .ok (.invokespecial 1, 3) := by decide +kernel
theorem dX11_init_4 : decode cX11_init 4 = .ok (.aload_n 0, 1) := by decide +kernel
theorem dX11_init_5 : decode cX11_init 5 = .ok (.bipush 24, 2) := by decide +kernel
theorem dX11_init_7 : decode cX11_init 7 = .ok (.newarray .int, 2) := by decide +kernel
theorem dX11_init_9 : decode cX11_init 9 = .ok (.putfield 7, 3) := by decide +kernel
theorem dX11_init_12 : decode cX11_init 12 = .ok (.aload_n 0, 1) := by decide +kernel
theorem dX11_init_13 : decode cX11_init 13 = .ok (.sipush 600, 3) := by decide +kernel
theorem dX11_init_16 : decode cX11_init 16 = .ok (.newarray .int, 2) := by decide +kernel
theorem dX11_init_18 : decode cX11_init 18 = .ok (.putfield 13, 3) := by decide +kernel
theorem dX11_init_21 : decode cX11_init 21 = .ok (.aload_n 0, 1) := by decide +kernel
theorem dX11_init_22 : decode cX11_init 22 = .ok (.iconst (-1), 1) := by decide +kernel
theorem dX11_init_23 : decode cX11_init 23 = .ok (.putfield 16, 3) := by decide +kernel
theorem dX11_init_26 : decode cX11_init 26 = .ok (.aload_n 0, 1) := by decide +kernel
theorem dX11_init_27 : decode cX11_init 27 = .ok (.bipush 8, 2) := by decide +kernel
theorem dX11_init_29 : decode cX11_init 29 = .ok (.newarray .int, 2) := by decide +kernel
theorem dX11_init_31 : decode cX11_init 31 = .ok (.putfield 20, 3) := by decide +kernel
theorem dX11_init_34 : decode cX11_init 34 = .ok (.aload_n 0, 1) := by decide +kernel
theorem dX11_init_35 : decode cX11_init 35 = .ok (.bipush 8, 2) := by decide +kernel
theorem dX11_init_37 : decode cX11_init 37 = .ok (.newarray .int, 2) := by decide +kernel
theorem dX11_init_39 : decode cX11_init 39 = .ok (.putfield 23, 3) := by decide +kernel
theorem dX11_init_42 : decode cX11_init 42 = .ok (.aload_n 0, 1) := by decide +kernel
theorem dX11_init_43 : decode cX11_init 43 = .ok (.sipush 600, 3) := by decide +kernel
theorem dX11_init_46 : decode cX11_init 46 = .ok (.newarray .int, 2) := by decide +kernel
theorem dX11_init_48 : decode cX11_init 48 = .ok (.putfield 26, 3) := by decide +kernel
theorem dX11_init_51 : decode cX11_init 51 = .ok (.aload_n 0, 1) := by decide +kernel
theorem dX11_init_52 : decode cX11_init 52 = .ok (.sipush 600, 3) := by decide +kernel
theorem dX11_init_55 : decode cX11_init 55 = .ok (.newarray .int, 2) := by decide +kernel
theorem dX11_init_57 : decode cX11_init 57 = .ok (.putfield 29, 3) := by decide +kernel
theorem dX11_init_60 : decode cX11_init 60 = .ok (.aload_n 0, 1) := by decide +kernel
theorem dX11_init_61 : decode cX11_init 61 = .ok (.bipush 9, 2) := by decide +kernel
theorem dX11_init_63 : decode cX11_init 63 = .ok (.newarray .int, 2) := by decide +kernel
theorem dX11_init_65 : decode cX11_init 65 = .ok (.putfield 32, 3) := by decide +kernel
theorem dX11_init_68 : decode cX11_init 68 = .ok (.aload_n 0, 1) := by decide +kernel
theorem dX11_init_69 : decode cX11_init 69 = .ok (.bipush 8, 2) := by decide +kernel
theorem dX11_init_71 : decode cX11_init 71 = .ok (.newarray .int, 2) := by decide +kernel
theorem dX11_init_73 : decode cX11_init 73 = .ok (.putfield 35, 3) := by decide +kernel
theorem dX11_init_76 : decode cX11_init 76 = .ok (.aload_n 0, 1) := by decide +kernel
theorem dX11_init_77 : decode cX11_init 77 = .ok (.bipush 8, 2) := by decide +kernel
theorem dX11_init_79 : decode cX11_init 79 = .ok (.newarray .int, 2) := by decide +kernel
theorem dX11_init_81 : decode cX11_init 81 = .ok (.putfield 38, 3) := by decide +kernel
theorem dX11_init_84 : decode cX11_init 84 = .ok (.aload_n 0, 1) := by decide +kernel
theorem dX11_init_85 : decode cX11_init 85 = .ok (.sipush 600, 3) := by decide +kernel
theorem dX11_init_88 : decode cX11_init 88 = .ok (.newarray .int, 2) := by decide +kernel
theorem dX11_init_90 : decode cX11_init 90 = .ok (.putfield 41, 3) := by decide +kernel
theorem dX11_init_93 : decode cX11_init 93 = .ok (.aload_n 0, 1) := by decide +kernel
theorem dX11_init_94 : decode cX11_init 94 = .ok (.sipush 600, 3) := by decide +kernel
theorem dX11_init_97 : decode cX11_init 97 = .ok (.newarray .int, 2) := by decide +kernel
theorem dX11_init_99 : decode cX11_init 99 = .ok (.putfield 44, 3) := by decide +kernel
theorem dX11_init_102 : decode cX11_init 102 = .ok (.aload_n 0, 1) := by decide +kernel
theorem dX11_init_103 : decode cX11_init 103 = .ok (.bipush 9, 2) := by decide +kernel
theorem dX11_init_105 : decode cX11_init 105 = .ok (.newarray .int, 2) := by decide +kernel
theorem dX11_init_107 : decode cX11_init 107 = .ok (.putfield 47, 3) := by decide +kernel
theorem dX11_init_110 : decode cX11_init 110 = .ok (.aload_n 0, 1) := by decide +kernel
theorem dX11_init_111 : decode cX11_init 111 = .ok (.sipush 300, 3) := by decide +kernel
theorem dX11_init_114 : decode cX11_init 114 = .ok (.newarray .int, 2) := by decide +kernel
theorem dX11_init_116 : decode cX11_init 116 = .ok (.putfield 50, 3) := by decide +kernel
theorem dX11_init_119 : decode cX11_init 119 = .ok (.aload_n 0, 1) := by decide +kernel
theorem dX11_init_120 : decode cX11_init 120 = .ok (.sipush 300, 3) := by decide +kernel
theorem dX11_init_123 : decode cX11_init 123 = .ok (.newarray .int, 2) := by decide +kernel
theorem dX11_init_125 : decode cX11_init 125 = .ok (.putfield 53, 3) := by decide +kernel
theorem dX11_init_128 : decode cX11_init 128 = .ok (.aload_n 0, 1) := by decide +kernel
theorem dX11_init_129 : decode cX11_init 129 = .ok (.iconst 1, 1) := by decide +kernel
theorem dX11_init_130 : decode cX11_init 130 = .ok (.putfield 56, 3) := by decide +kernel
theorem dX11_init_133 : decode cX11_init 133 = .ok (.aload_n 0, 1) := by decide +kernel
theorem dX11_init_134 : decode cX11_init 134 = .ok (.iconst 5, 1) := by decide +kernel
theorem dX11_init_135 : decode cX11_init 135 = .ok (.newarray .int, 2) := by decide +kernel
theorem dX11_init_137 : decode cX11_init 137 = .ok (.putfield 59, 3) := by decide +kernel
theorem dX11_init_140 : decode cX11_init 140 = .ok (.aload_n 0, 1) := by decide +kernel
theorem dX11_init_141 : decode cX11_init 141 = .ok (.sipush 200, 3) := by decide +kernel
theorem dX11_init_144 : decode cX11_init 144 = .ok (.newarray .int, 2) := by decide +kernel
theorem dX11_init_146 : decode cX11_init 146 = .ok (.putfield 62, 3) := by decide +kernel
theorem dX11_init_149 : decode cX11_init 149 = .ok (.aload_n 0, 1) := by decide +kernel
theorem dX11_init_150 : decode cX11_init 150 = .ok (.sipush 301, 3) := by decide +kernel
theorem dX11_init_153 : decode cX11_init 153 = .ok (.newarray .int, 2) := by decide +kernel
theorem dX11_init_155 : decode cX11_init 155 = .ok (.putfield 65, 3) := by decide +kernel
theorem dX11_init_158 : decode cX11_init 158 = .ok (.aload_n 0, 1) := by decide +kernel
theorem dX11_init_159 : decode cX11_init 159 = .ok (.sipush 301, 3) := by decide +kernel
theorem dX11_init_162 : decode cX11_init 162 = .ok (.newarray .int, 2) := by decide +kernel
theorem dX11_init_164 : decode cX11_init 164 = .ok (.putfield 68, 3) := by decide +kernel
theorem dX11_init_167 : decode cX11_init 167 = .ok (.aload_n 0, 1) := by decide +kernel
theorem dX11_init_168 : decode cX11_init 168 = .ok (.sipush 300, 3) := by decide +kernel
theorem dX11_init_171 : decode cX11_init 171 = .ok (.newarray .int, 2) := by decide +kernel
theorem dX11_init_173 : decode cX11_init 173 = .ok (.putfield 71, 3) := by decide +kernel
theorem dX11_init_176 : decode cX11_init 176 = .ok (.aload_n 0, 1) := by decide +kernel
theorem dX11_init_177 : decode cX11_init 177 = .ok (.sipush 300, 3) := by decide +kernel
theorem dX11_init_180 : decode cX11_init 180 = .ok (.newarray .int, 2) := by decide +kernel
theorem dX11_init_182 : decode cX11_init 182 = .ok (.putfield 74, 3) := by decide +kernel
theorem dX11_init_185 : decode cX11_init 185 = .ok (.aload_n 0, 1) := by decide +kernel
theorem dX11_init_186 : decode cX11_init 186 = .ok (.sipush 300, 3) := by decide +kernel
theorem dX11_init_189 : decode cX11_init 189 = .ok (.newarray .int, 2) := by decide +kernel
theorem dX11_init_191 : decode cX11_init 191 = .ok (.putfield 77, 3) := by decide +kernel
theorem dX11_init_194 : decode cX11_init 194 = .ok (.aload_n 0, 1) := by decide +kernel
theorem dX11_init_195 : decode cX11_init 195 = .ok (.sipush 9600, 3) := by decide +kernel
theorem dX11_init_198 : decode cX11_init 198 = .ok (.newarray .boolean, 2) := by decide +kernel
theorem dX11_init_200 : decode cX11_init 200 = .ok (.putfield 80, 3) := by decide +kernel
theorem dX11_init_203 : decode cX11_init 203 = .ok (.aload_n 0, 1) := by decide +kernel
theorem dX11_init_204 : decode cX11_init 204 = .ok (.bipush 6, 2) := by decide +kernel
theorem dX11_init_206 : decode cX11_init 206 = .ok (.newarray .int, 2) := by decide +kernel
theorem dX11_init_208 : decode cX11_init 208 = .ok (.putfield 84, 3) := by decide +kernel
theorem dX11_init_211 : decode cX11_init 211 = .ok (.aload_n 0, 1) := by decide +kernel
theorem dX11_init_212 : decode cX11_init 212 = .ok (.bipush 6, 2) := by decide +kernel
theorem dX11_init_214 : decode cX11_init 214 = .ok (.newarray .int, 2) := by decide +kernel
theorem dX11_init_216 : decode cX11_init 216 = .ok (.putfield 87, 3) := by decide +kernel
theorem dX11_init_219 : decode cX11_init 219 = .ok (.aload_n 0, 1) := by decide +kernel
theorem dX11_init_220 : decode cX11_init 220 = .ok (.bipush 6, 2) := by decide +kernel
theorem dX11_init_222 : decode cX11_init 222 = .ok (.newarray .int, 2) := by decide +kernel
theorem dX11_init_224 : decode cX11_init 224 = .ok (.putfield 90, 3) := by decide +kernel
theorem dX11_init_227 : decode cX11_init 227 = .ok (.aload_n 0, 1) := by decide +kernel
theorem dX11_init_228 : decode cX11_init 228 = .ok (.bipush 9, 2) := by decide +kernel
theorem dX11_init_230 : decode cX11_init 230 = .ok (.newarray .int, 2) := by decide +kernel
theorem dX11_init_232 : decode cX11_init 232 = .ok (.putfield 93, 3) := by decide +kernel
theorem dX11_init_235 : decode cX11_init 235 = .ok (.aload_n 0, 1) := by decide +kernel
theorem dX11_init_236 : decode cX11_init 236 = .ok (.bipush 6, 2) := by decide +kernel
theorem dX11_init_238 : decode cX11_init 238 = .ok (.newarray .boolean, 2) := by decide +kernel
theorem dX11_init_240 : decode cX11_init 240 = .ok (.putfield 96, 3) := by decide +kernel
theorem dX11_init_243 : decode cX11_init 243 = .ok (.aload_n 0, 1) := by decide +kernel
theorem dX11_init_244 : decode cX11_init 244 = .ok (.iconst 1, 1) := by decide +kernel
theorem dX11_init_245 : decode cX11_init 245 = .ok (.putfield 99, 3) := by decide +kernel
theorem dX11_init_248 : decode cX11_init 248 = .ok (.aload_n 0, 1) := by decide +kernel
theorem dX11_init_249 : decode cX11_init 249 = .ok (.bipush 10, 2) := by decide +kernel
theorem dX11_init_251 : decode cX11_init 251 = .ok (.putfield 102, 3) := by decide +kernel
theorem dX11_init_254 : decode cX11_init 254 = .ok (.aload_n 0, 1) := by decide +kernel
theorem dX11_init_255 : decode cX11_init 255 = .ok (.iconst 1, 1) := by decide +kernel
theorem dX11_init_256 : decode cX11_init 256 = .ok (.putfield 105, 3) := by decide +kernel
theorem dX11_init_259 : decode cX11_init 259 = .ok (.aload_n 0, 1) := by decide +kernel
theorem dX11_init_260 : decode cX11_init 260 = .ok (.bipush 60, 2) := by decide +kernel
theorem dX11_init_262 : decode cX11_init 262 = .ok (.putfield 108, 3) := by decide +kernel
theorem dX11_init_265 : decode cX11_init 265 = .ok (.aload_n 0, 1) := by decide +kernel
theorem dX11_init_266 : decode cX11_init 266 = .ok (.bipush 10, 2) := by decide +kernel
theorem dX11_init_268 : decode cX11_init 268 = .ok (.newarray .int, 2) := by decide +kernel
theorem dX11_init_270 : decode cX11_init 270 = .ok (.putfield 111, 3) := by decide +kernel
theorem dX11_init_273 : decode cX11_init 273 = .ok (.aload_n 0, 1) := by decide +kernel
theorem dX11_init_274 : decode cX11_init 274 = .ok (.bipush 10, 2) := by decide +kernel
theorem dX11_init_276 : decode cX11_init 276 = .ok (.newarray .int, 2) := by decide +kernel
theorem dX11_init_278 : decode cX11_init 278 = .ok (.putfield 114, 3) := by decide +kernel
theorem dX11_init_281 : decode cX11_init 281 = .ok (.aload_n 0, 1) := by decide +kernel
theorem dX11_init_282 : decode cX11_init 282 = .ok (.sipush 1024, 3) := by decide +kernel
theorem dX11_init_285 : decode cX11_init 285 = .ok (.newarray .int, 2) := by decide +kernel
theorem dX11_init_287 : decode cX11_init 287 = .ok (.putfield 117, 3) := by decide +kernel
theorem dX11_init_290 : decode cX11_init 290 = .ok (.aload_n 0, 1) := by decide +kernel
theorem dX11_init_291 : decode cX11_init 291 = .ok (.bipush 10, 2) := by decide +kernel
theorem dX11_init_293 : decode cX11_init 293 = .ok (.newarray .int, 2) := by decide +kernel
theorem dX11_init_295 : decode cX11_init 295 = .ok (.putfield 120, 3) := by decide +kernel
theorem dX11_init_298 : decode cX11_init 298 = .ok (.aload_n 0, 1) := by decide +kernel
theorem dX11_init_299 : decode cX11_init 299 = .ok (.bipush 10, 2) := by decide +kernel
theorem dX11_init_301 : decode cX11_init 301 = .ok (.newarray .int, 2) := by decide +kernel
theorem dX11_init_303 : decode cX11_init 303 = .ok (.putfield 123, 3) := by decide +kernel
theorem dX11_init_306 : decode cX11_init 306 = .ok (.iconst 0, 1) := by decide +kernel
theorem dX11_init_307 : decode cX11_init 307 = .ok (.istore_n 1, 1) := by decide +kernel
theorem dX11_init_308 : decode cX11_init 308 = .ok (.iload_n 1, 1) := by decide +kernel
theorem dX11_init_309 : decode cX11_init 309 = .ok (.bipush 6, 2) := by decide +kernel
theorem dX11_init_311 : decode cX11_init 311 = .ok (.if_icmp .ge 31, 3) := by decide +kernel
theorem dX11_init_314 : decode cX11_init 314 = .ok (.aload_n 0, 1) := by decide +kernel
theorem dX11_init_315 : decode cX11_init 315 = .ok (.getfield 84, 3) := by decide +kernel
theorem dX11_init_318 : decode cX11_init 318 = .ok (.iload_n 1, 1) := by decide +kernel
theorem dX11_init_319 : decode cX11_init 319 = .ok (.bipush 10, 2) := by decide +kernel
theorem dX11_init_321 : decode cX11_init 321 = .ok (.iastore, 1) := by decide +kernel
theorem dX11_init_322 : decode cX11_init 322 = .ok (.aload_n 0, 1) := by decide +kernel
theorem dX11_init_323 : decode cX11_init 323 = .ok (.getfield 90, 3) := by decide +kernel
theorem dX11_init_326 : decode cX11_init 326 = .ok (.iload_n 1, 1) := by decide +kernel
theorem dX11_init_327 : decode cX11_init 327 = .ok (.iconst 1, 1) := by decide +kernel
theorem dX11_init_328 : decode cX11_init 328 = .ok (.iastore, 1) := by decide +kernel
theorem dX11_init_329 : decode cX11_init 329 = .ok (.aload_n 0, 1) := by decide +kernel
theorem dX11_init_330 : decode cX11_init 330 = .ok (.getfield 96, 3) := by decide +kernel
theorem dX11_init_333 : decode cX11_init 333 = .ok (.iload_n 1, 1) := by decide +kernel
theorem dX11_init_334 : decode cX11_init 334 = .ok (.iconst 1, 1) := by decide +kernel
theorem dX11_init_335 : decode cX11_init 335 = .ok (.bastore, 1) := by decide +kernel
theorem dX11_init_336 : decode cX11_init 336 = .ok (.iinc 1 1, 3) := by decide +kernel
theorem dX11_init_339 : decode cX11_init 339 = .ok (.goto (-31), 3) := by decide +kernel
theorem dX11_init_342 : decode cX11_init 342 = .ok (.return_, 1) := by decide +kernel
theorem dX11_net_0 : decode cX11_net 0 = .ok (.iload_n 1, 1) := by decide +kernel
theorem dX11_net_1 : decode cX11_net 1 = .ok (.ifCond .lt 19, 3) := by decide +kernel
theorem dX11_net_4 : decode cX11_net 4 = .ok (.iload_n 1, 1) := by decide +kernel
theorem dX11_net_5 : decode cX11_net 5 = .ok (.bipush 24, 2) := by decide +kernel
theorem dX11_net_7 : decode cX11_net 7 = .ok (.if_icmp .ge 13, 3) := by decide +kernel
theorem dX11_net_10 : decode cX11_net 10 = .ok (.iload_n 2, 1) := by decide +kernel
theorem dX11_net_11 : decode cX11_net 11 = .ok (.ifCond .lt 9, 3) := by decide +kernel
theorem dX11_net_14 : decode cX11_net 14 = .ok (.iload_n 2, 1) := by decide +kernel
theorem dX11_net_15 : decode cX11_net 15 = .ok (.ldc 126, 2) := by decide +kernel
theorem dX11_net_17 : decode cX11_net 17 = .ok (.if_icmp .lt 5, 3) := by decide +kernel
theorem dX11_net_20 : decode cX11_net 20 = .ok (.iconst 0, 1) := by decide +kernel
theorem dX11_net_21 : decode cX11_net 21 = .ok (.ireturn, 1) := by decide +kernel
theorem dX11_net_22 : decode cX11_net 22 = .ok (.aload_n 0, 1) := by decide +kernel
theorem dX11_net_23 : decode cX11_net 23 = .ok (.getfield 7, 3) := by decide +kernel
theorem dX11_net_26 : decode cX11_net 26 = .ok (.iload_n 1, 1) := by decide +kernel
theorem dX11_net_27 : decode cX11_net 27 = .ok (.iload_n 2, 1) := by decide +kernel
theorem dX11_net_28 : decode cX11_net 28 = .ok (.iastore, 1) := by decide +kernel
theorem dX11_net_29 : decode cX11_net 29 = .ok (.iconst 1, 1) := by decide +kernel
theorem dX11_net_30 : decode cX11_net 30 = .ok (.ireturn, 1) := by decide +kernel
theorem dX11_isIn_0 : decode cX11_isIn 0 = .ok (.iload_n 1, 1) := by decide +kernel
theorem dX11_isIn_1 : decode cX11_isIn 1 = .ok (.ifCond .lt 37, 3) := by decide +kernel
theorem dX11_isIn_4 : decode cX11_isIn 4 = .ok (.iload_n 1, 1) := by decide +kernel
theorem dX11_isIn_5 : decode cX11_isIn 5 = .ok (.bipush 24, 2) := by decide +kernel
theorem dX11_isIn_7 : decode cX11_isIn 7 = .ok (.if_icmp .ge 31, 3) := by decide +kernel
theorem dX11_isIn_10 : decode cX11_isIn 10 = .ok (.iload_n 2, 1) := by decide +kernel
theorem dX11_isIn_11 : decode cX11_isIn 11 = .ok (.ifCond .lt 27, 3) := by decide +kernel
theorem dX11_isIn_14 : decode cX11_isIn 14 = .ok (.iload_n 2, 1) := by decide +kernel
theorem dX11_isIn_15 : decode cX11_isIn 15 = .ok (.bipush 24, 2) := by decide +kernel
theorem dX11_isIn_17 : decode cX11_isIn 17 = .ok (.if_icmp .ge 21, 3) := by decide +kernel
theorem dX11_isIn_20 : decode cX11_isIn 20 = .ok (.aload_n 0, 1) := by decide +kernel
theorem dX11_isIn_21 : decode cX11_isIn 21 = .ok (.getfield 7, 3) := by decide +kernel
theorem dX11_isIn_24 : decode cX11_isIn 24 = .ok (.iload_n 1, 1) := by decide +kernel
theorem dX11_isIn_25 : decode cX11_isIn 25 = .ok (.iaload, 1) := by decide +kernel
theorem dX11_isIn_26 : decode cX11_isIn 26 = .ok (.iload_n 2, 1) := by decide +kernel
theorem dX11_isIn_27 : decode cX11_isIn 27 = .ok (.ishr, 1) := by decide +kernel
theorem dX11_isIn_28 : decode cX11_isIn 28 = .ok (.iconst 1, 1) := by decide +kernel
theorem dX11_isIn_29 : decode cX11_isIn 29 = .ok (.iand, 1) := by decide +kernel
theorem dX11_isIn_30 : decode cX11_isIn 30 = .ok (.iconst 1, 1) := by decide +kernel
theorem dX11_isIn_31 : decode cX11_isIn 31 = .ok (.if_icmp .ne 7, 3) := by decide +kernel
theorem dX11_isIn_34 : decode cX11_isIn 34 = .ok (.iconst 1, 1) := by decide +kernel
theorem dX11_isIn_35 : decode cX11_isIn 35 = .ok (.goto 4, 3) := by decide +kernel
theorem dX11_isIn_38 : decode cX11_isIn 38 = .ok (.iconst 0, 1) := by decide +kernel
theorem dX11_isIn_39 : decode cX11_isIn 39 = .ok (.ireturn, 1) := by decide +kernel
theorem dX11_fits_0 : decode cX11_fits 0 = .ok (.iconst 1, 1) := by decide +kernel
theorem dX11_fits_1 : decode cX11_fits 1 = .ok (.istore 4, 2) := by decide +kernel
theorem dX11_fits_3 : decode cX11_fits 3 = .ok (.iload_n 3, 1) := by decide +kernel
theorem dX11_fits_4 : decode cX11_fits 4 = .ok (.ineg, 1) := by decide +kernel
theorem dX11_fits_5 : decode cX11_fits 5 = .ok (.istore 5, 2) := by decide +kernel
theorem dX11_fits_7 : decode cX11_fits 7 = .ok (.iload 5, 2) := by decide +kernel
theorem dX11_fits_9 : decode cX11_fits 9 = .ok (.iload_n 3, 1) := by decide +kernel
theorem dX11_fits_10 : decode cX11_fits 10 = .ok (.if_icmp .gt 74, 3) := by decide +kernel
theorem dX11_fits_13 : decode cX11_fits 13 = .ok (.iload 4, 2) := by decide +kernel
theorem dX11_fits_15 : decode cX11_fits 15 = .ok (.ifCond .eq 69, 3) := by decide +kernel
theorem dX11_fits_18 : decode cX11_fits 18 = .ok (.iload_n 3, 1) := by decide +kernel
theorem dX11_fits_19 : decode cX11_fits 19 = .ok (.ineg, 1) := by decide +kernel
theorem dX11_fits_20 : decode cX11_fits 20 = .ok (.istore 6, 2) := by decide +kernel
theorem dX11_fits_22 : decode cX11_fits 22 = .ok (.iload 6, 2) := by decide +kernel
theorem dX11_fits_24 : decode cX11_fits 24 = .ok (.iload_n 3, 1) := by decide +kernel
theorem dX11_fits_25 : decode cX11_fits 25 = .ok (.if_icmp .gt 53, 3) := by decide +kernel
theorem dX11_fits_28 : decode cX11_fits 28 = .ok (.iload 4, 2) := by decide +kernel
theorem dX11_fits_30 : decode cX11_fits 30 = .ok (.ifCond .eq 48, 3) := by decide +kernel
theorem dX11_fits_33 : decode cX11_fits 33 = .ok (.iload 5, 2) := by decide +kernel
theorem dX11_fits_35 : decode cX11_fits 35 = .ok (.iload 5, 2) := by decide +kernel
theorem dX11_fits_37 : decode cX11_fits 37 = .ok (.imul, 1) := by decide +kernel
theorem dX11_fits_38 : decode cX11_fits 38 = .ok (.iload 6, 2) := by decide +kernel
theorem dX11_fits_40 : decode cX11_fits 40 = .ok (.iload 6, 2) := by decide +kernel
theorem dX11_fits_42 : decode cX11_fits 42 = .ok (.imul, 1) := by decide +kernel
theorem dX11_fits_43 : decode cX11_fits 43 = .ok (.iadd, 1) := by decide +kernel
theorem dX11_fits_44 : decode cX11_fits 44 = .ok (.iload_n 3, 1) := by decide +kernel
theorem dX11_fits_45 : decode cX11_fits 45 = .ok (.iload_n 3, 1) := by decide +kernel
theorem dX11_fits_46 : decode cX11_fits 46 = .ok (.imul, 1) := by decide +kernel
theorem dX11_fits_47 : decode cX11_fits 47 = .ok (.if_icmp .gt 18, 3) := by decide +kernel
theorem dX11_fits_50 : decode cX11_fits 50 = .ok (.aload_n 0, 1) := by decide +kernel
theorem dX11_fits_51 : decode cX11_fits 51 = .ok (.iload_n 1, 1) := by decide +kernel
theorem dX11_fits_52 : decode cX11_fits 52 = .ok (.iload 5, 2) := by decide +kernel
theorem dX11_fits_54 : decode cX11_fits 54 = .ok (.iadd, 1) := by decide +kernel
theorem dX11_fits_55 : decode cX11_fits 55 = .ok (.iload_n 2, 1) := by decide +kernel
theorem dX11_fits_56 : decode cX11_fits 56 = .ok (.iload 6, 2) := by decide +kernel
theorem dX11_fits_58 : decode cX11_fits 58 = .ok (.iadd, 1) := by decide +kernel
theorem dX11_fits_59 : decode cX11_fits 59 = .ok (.invokevirtual 127, 3) := by decide +kernel
theorem dX11_fits_62 : decode cX11_fits 62 = .ok (.ifCond .eq 7, 3) := by decide +kernel
theorem dX11_fits_65 : decode cX11_fits 65 = .ok (.iconst 1, 1) := by decide +kernel
theorem dX11_fits_66 : decode cX11_fits 66 = .ok (.goto 4, 3) := by decide +kernel
theorem dX11_fits_69 : decode cX11_fits 69 = .ok (.iconst 0, 1) := by decide +kernel
theorem dX11_fits_70 : decode cX11_fits 70 = .ok (.istore 4, 2) := by decide +kernel
theorem dX11_fits_72 : decode cX11_fits 72 = .ok (.iinc 6 1, 3) := by decide +kernel
theorem dX11_fits_75 : decode cX11_fits 75 = .ok (.goto (-53), 3) := by decide +kernel
theorem dX11_fits_78 : decode cX11_fits 78 = .ok (.iinc 5 1, 3) := by decide +kernel
theorem dX11_fits_81 : decode cX11_fits 81 = .ok (.goto (-74), 3) := by decide +kernel
theorem dX11_fits_84 : decode cX11_fits 84 = .ok (.iload 4, 2) := by decide +kernel
theorem dX11_fits_86 : decode cX11_fits 86 = .ok (.ireturn, 1) := by decide +kernel
theorem dX11_seekCentre_0 : decode cX11_seekCentre 0 = .ok (.aload_n 0, 1) := by decide +kernel
theorem dX11_seekCentre_1 : decode cX11_seekCentre 1 = .ok (.iconst (-1), 1) := by decide +kernel
theorem dX11_seekCentre_2 : decode cX11_seekCentre 2 = .ok (.putfield 131, 3) := by decide +kernel
theorem dX11_seekCentre_5 : decode cX11_seekCentre 5 = .ok (.iconst 0, 1) := by decide +kernel
theorem dX11_seekCentre_6 : decode cX11_seekCentre 6 = .ok (.istore_n 1, 1) := by decide +kernel
theorem dX11_seekCentre_7 : decode cX11_seekCentre 7 = .ok (.iload_n 1, 1) := by decide +kernel
theorem dX11_seekCentre_8 : decode cX11_seekCentre 8 = .ok (.bipush 24, 2) := by decide +kernel
theorem dX11_seekCentre_10 : decode cX11_seekCentre 10 = .ok (.if_icmp .ge 70, 3) := by decide +kernel
theorem dX11_seekCentre_13 : decode cX11_seekCentre 13 = .ok (.iconst 0, 1) := by decide +kernel
theorem dX11_seekCentre_14 : decode cX11_seekCentre 14 = .ok (.istore_n 2, 1) := by decide +kernel
theorem dX11_seekCentre_15 : decode cX11_seekCentre 15 = .ok (.iload_n 2, 1) := by decide +kernel
theorem dX11_seekCentre_16 : decode cX11_seekCentre 16 = .ok (.bipush 24, 2) := by decide +kernel
theorem dX11_seekCentre_18 : decode cX11_seekCentre 18 = .ok (.if_icmp .ge 56, 3) := by decide +kernel
theorem dX11_seekCentre_21 : decode cX11_seekCentre 21 = .ok (.aload_n 0, 1) := by decide +kernel
theorem dX11_seekCentre_22 : decode cX11_seekCentre 22 = .ok (.getfield 131, 3) := by decide +kernel
theorem dX11_seekCentre_25 : decode cX11_seekCentre 25 = .ok (.bipush 11, 2) := by decide +kernel
theorem dX11_seekCentre_27 : decode cX11_seekCentre 27 = .ok (.if_icmp .ge 41, 3) := by decide +kernel
theorem dX11_seekCentre_30 : decode cX11_seekCentre 30 = .ok (.aload_n 0, 1) := by decide +kernel
theorem dX11_seekCentre_31 : decode cX11_seekCentre 31 = .ok (.iload_n 1, 1) := by decide +kernel
theorem dX11_seekCentre_32 : decode cX11_seekCentre 32 = .ok (.iload_n 2, 1) := by decide +kernel
theorem dX11_seekCentre_33 : decode cX11_seekCentre 33 = .ok (.aload_n 0, 1) := by decide +kernel
theorem dX11_seekCentre_34 : decode cX11_seekCentre 34 = .ok (.getfield 131, 3) := by decide +kernel
theorem dX11_seekCentre_37 : decode cX11_seekCentre 37 = .ok (.iconst 1, 1) := by decide +kernel
theorem dX11_seekCentre_38 : decode cX11_seekCentre 38 = .ok (.iadd, 1) := by decide +kernel
theorem dX11_seekCentre_39 : decode cX11_seekCentre 39 = .ok (.invokevirtual 134, 3) := by decide +kernel
theorem dX11_seekCentre_42 : decode cX11_seekCentre 42 = .ok (.ifCond .eq 26, 3) := by decide +kernel
theorem dX11_seekCentre_45 : decode cX11_seekCentre 45 = .ok (.aload_n 0, 1) := by decide +kernel
theorem dX11_seekCentre_46 : decode cX11_seekCentre 46 = .ok (.dup, 1) := by decide +kernel
theorem dX11_seekCentre_47 : decode cX11_seekCentre 47 = .ok (.getfield 131, 3) := by decide +kernel
theorem dX11_seekCentre_50 : decode cX11_seekCentre 50 = .ok (.iconst 1, 1) := by decide +kernel
theorem dX11_seekCentre_51 : decode cX11_seekCentre 51 = .ok (.iadd, 1) := by decide +kernel
theorem dX11_seekCentre_52 : decode cX11_seekCentre 52 = .ok (.putfield 131, 3) := by decide +kernel
theorem dX11_seekCentre_55 : decode cX11_seekCentre 55 = .ok (.aload_n 0, 1) := by decide +kernel
theorem dX11_seekCentre_56 : decode cX11_seekCentre 56 = .ok (.iload_n 1, 1) := by decide +kernel
theorem dX11_seekCentre_57 : decode cX11_seekCentre 57 = .ok (.putfield 138, 3) := by decide +kernel
theorem dX11_seekCentre_60 : decode cX11_seekCentre 60 = .ok (.aload_n 0, 1) := by decide +kernel
theorem dX11_seekCentre_61 : decode cX11_seekCentre 61 = .ok (.iload_n 2, 1) := by decide +kernel
theorem dX11_seekCentre_62 : decode cX11_seekCentre 62 = .ok (.putfield 141, 3) := by decide +kernel
theorem dX11_seekCentre_65 : decode cX11_seekCentre 65 = .ok (.goto (-44), 3) := by decide +kernel
theorem dX11_seekCentre_68 : decode cX11_seekCentre 68 = .ok (.iinc 2 1, 3) := by decide +kernel
theorem dX11_seekCentre_71 : decode cX11_seekCentre 71 = .ok (.goto (-56), 3) := by decide +kernel
theorem dX11_seekCentre_74 : decode cX11_seekCentre 74 = .ok (.iinc 1 1, 3) := by decide +kernel
theorem dX11_seekCentre_77 : decode cX11_seekCentre 77 = .ok (.goto (-70), 3) := by decide +kernel
theorem dX11_seekCentre_80 : decode cX11_seekCentre 80 = .ok (.return_, 1) := by decide +kernel
theorem dX11_centre_0 : decode cX11_centre 0 = .ok (.aload_n 0, 1) := by decide +kernel
theorem dX11_centre_1 : decode cX11_centre 1 = .ok (.invokevirtual 144, 3) := by decide +kernel
theorem dX11_centre_4 : decode cX11_centre 4 = .ok (.aload_n 0, 1) := by decide +kernel
theorem dX11_centre_5 : decode cX11_centre 5 = .ok (.getfield 131, 3) := by decide +kernel
theorem dX11_centre_8 : decode cX11_centre 8 = .ok (.ifCond .ge 7, 3) := by decide +kernel
theorem dX11_centre_11 : decode cX11_centre 11 = .ok (.iconst (-1), 1) := by decide +kernel
theorem dX11_centre_12 : decode cX11_centre 12 = .ok (.goto 39, 3) := by decide +kernel
theorem dX11_centre_15 : decode cX11_centre 15 = .ok (.iload_n 1, 1) := by decide +kernel
theorem dX11_centre_16 : decode cX11_centre 16 = .ok (.ifCond .ne 10, 3) := by decide +kernel
theorem dX11_centre_19 : decode cX11_centre 19 = .ok (.aload_n 0, 1) := by decide +kernel
theorem dX11_centre_20 : decode cX11_centre 20 = .ok (.getfield 138, 3) := by decide +kernel
theorem dX11_centre_23 : decode cX11_centre 23 = .ok (.goto 28, 3) := by decide +kernel
theorem dX11_centre_26 : decode cX11_centre 26 = .ok (.iload_n 1, 1) := by decide +kernel
theorem dX11_centre_27 : decode cX11_centre 27 = .ok (.iconst 1, 1) := by decide +kernel
theorem dX11_centre_28 : decode cX11_centre 28 = .ok (.if_icmp .ne 10, 3) := by decide +kernel
theorem dX11_centre_31 : decode cX11_centre 31 = .ok (.aload_n 0, 1) := by decide +kernel
theorem dX11_centre_32 : decode cX11_centre 32 = .ok (.getfield 141, 3) := by decide +kernel
theorem dX11_centre_35 : decode cX11_centre 35 = .ok (.goto 16, 3) := by decide +kernel
theorem dX11_centre_38 : decode cX11_centre 38 = .ok (.iload_n 1, 1) := by decide +kernel
theorem dX11_centre_39 : decode cX11_centre 39 = .ok (.iconst 2, 1) := by decide +kernel
theorem dX11_centre_40 : decode cX11_centre 40 = .ok (.if_icmp .ne 10, 3) := by decide +kernel
theorem dX11_centre_43 : decode cX11_centre 43 = .ok (.aload_n 0, 1) := by decide +kernel
theorem dX11_centre_44 : decode cX11_centre 44 = .ok (.getfield 131, 3) := by decide +kernel
theorem dX11_centre_47 : decode cX11_centre 47 = .ok (.goto 4, 3) := by decide +kernel
theorem dX11_centre_50 : decode cX11_centre 50 = .ok (.iconst (-1), 1) := by decide +kernel
theorem dX11_centre_51 : decode cX11_centre 51 = .ok (.ireturn, 1) := by decide +kernel
theorem dX11_full_0 : decode cX11_full 0 = .ok (.aload_n 0, 1) := by decide +kernel
theorem dX11_full_1 : decode cX11_full 1 = .ok (.invokevirtual 144, 3) := by decide +kernel
theorem dX11_full_4 : decode cX11_full 4 = .ok (.iload_n 1, 1) := by decide +kernel
theorem dX11_full_5 : decode cX11_full 5 = .ok (.iconst 1, 1) := by decide +kernel
theorem dX11_full_6 : decode cX11_full 6 = .ok (.if_icmp .lt 28, 3) := by decide +kernel
theorem dX11_full_9 : decode cX11_full 9 = .ok (.iload_n 1, 1) := by decide +kernel
theorem dX11_full_10 : decode cX11_full 10 = .ok (.sipush 200, 3) := by decide +kernel
theorem dX11_full_13 : decode cX11_full 13 = .ok (.if_icmp .gt 21, 3) := by decide +kernel
theorem dX11_full_16 : decode cX11_full 16 = .ok (.iload_n 2, 1) := by decide +kernel
theorem dX11_full_17 : decode cX11_full 17 = .ok (.iconst 1, 1) := by decide +kernel
theorem dX11_full_18 : decode cX11_full 18 = .ok (.if_icmp .lt 16, 3) := by decide +kernel
theorem dX11_full_21 : decode cX11_full 21 = .ok (.iload_n 2, 1) := by decide +kernel
theorem dX11_full_22 : decode cX11_full 22 = .ok (.bipush 50, 2) := by decide +kernel
theorem dX11_full_24 : decode cX11_full 24 = .ok (.if_icmp .gt 10, 3) := by decide +kernel
theorem dX11_full_27 : decode cX11_full 27 = .ok (.aload_n 0, 1) := by decide +kernel
theorem dX11_full_28 : decode cX11_full 28 = .ok (.getfield 131, 3) := by decide +kernel
theorem dX11_full_31 : decode cX11_full 31 = .ok (.ifCond .ge 5, 3) := by decide +kernel
theorem dX11_full_34 : decode cX11_full 34 = .ok (.iconst (-1), 1) := by decide +kernel
theorem dX11_full_35 : decode cX11_full 35 = .ok (.ireturn, 1) := by decide +kernel
theorem dX11_full_36 : decode cX11_full 36 = .ok (.bipush 10, 2) := by decide +kernel
theorem dX11_full_38 : decode cX11_full 38 = .ok (.aload_n 0, 1) := by decide +kernel
theorem dX11_full_39 : decode cX11_full 39 = .ok (.getfield 131, 3) := by decide +kernel
theorem dX11_full_42 : decode cX11_full 42 = .ok (.imul, 1) := by decide +kernel
theorem dX11_full_43 : decode cX11_full 43 = .ok (.iconst 5, 1) := by decide +kernel
theorem dX11_full_44 : decode cX11_full 44 = .ok (.iadd, 1) := by decide +kernel
theorem dX11_full_45 : decode cX11_full 45 = .ok (.istore_n 3, 1) := by decide +kernel
theorem dX11_full_46 : decode cX11_full 46 = .ok (.iload_n 1, 1) := by decide +kernel
theorem dX11_full_47 : decode cX11_full 47 = .ok (.iload_n 3, 1) := by decide +kernel
theorem dX11_full_48 : decode cX11_full 48 = .ok (.if_icmp .lt 7, 3) := by decide +kernel
theorem dX11_full_51 : decode cX11_full 51 = .ok (.iconst 0, 1) := by decide +kernel
theorem dX11_full_52 : decode cX11_full 52 = .ok (.goto 18, 3) := by decide +kernel
theorem dX11_full_55 : decode cX11_full 55 = .ok (.iload_n 3, 1) := by decide +kernel
theorem dX11_full_56 : decode cX11_full 56 = .ok (.iload_n 3, 1) := by decide +kernel
theorem dX11_full_57 : decode cX11_full 57 = .ok (.imul, 1) := by decide +kernel
theorem dX11_full_58 : decode cX11_full 58 = .ok (.iload_n 1, 1) := by decide +kernel
theorem dX11_full_59 : decode cX11_full 59 = .ok (.iload_n 1, 1) := by decide +kernel
theorem dX11_full_60 : decode cX11_full 60 = .ok (.imul, 1) := by decide +kernel
theorem dX11_full_61 : decode cX11_full 61 = .ok (.isub, 1) := by decide +kernel
theorem dX11_full_62 : decode cX11_full 62 = .ok (.bipush 22, 2) := by decide +kernel
theorem dX11_full_64 : decode cX11_full 64 = .ok (.imul, 1) := by decide +kernel
theorem dX11_full_65 : decode cX11_full 65 = .ok (.bipush 7, 2) := by decide +kernel
theorem dX11_full_67 : decode cX11_full 67 = .ok (.iload_n 2, 1) := by decide +kernel
theorem dX11_full_68 : decode cX11_full 68 = .ok (.imul, 1) := by decide +kernel
theorem dX11_full_69 : decode cX11_full 69 = .ok (.idiv, 1) := by decide +kernel
theorem dX11_full_70 : decode cX11_full 70 = .ok (.ireturn, 1) := by decide +kernel
theorem dX11_feed_0 : decode cX11_feed 0 = .ok (.aload_n 0, 1) := by decide +kernel
theorem dX11_feed_1 : decode cX11_feed 1 = .ok (.getfield 147, 3) := by decide +kernel
theorem dX11_feed_4 : decode cX11_feed 4 = .ok (.bipush 20, 2) := by decide +kernel
theorem dX11_feed_6 : decode cX11_feed 6 = .ok (.iadd, 1) := by decide +kernel
theorem dX11_feed_7 : decode cX11_feed 7 = .ok (.sipush 600, 3) := by decide +kernel
theorem dX11_feed_10 : decode cX11_feed 10 = .ok (.if_icmp .le 5, 3) := by decide +kernel
theorem dX11_feed_13 : decode cX11_feed 13 = .ok (.iconst (-1), 1) := by decide +kernel
theorem dX11_feed_14 : decode cX11_feed 14 = .ok (.ireturn, 1) := by decide +kernel
theorem dX11_feed_15 : decode cX11_feed 15 = .ok (.aload_n 0, 1) := by decide +kernel
theorem dX11_feed_16 : decode cX11_feed 16 = .ok (.iload_n 1, 1) := by decide +kernel
theorem dX11_feed_17 : decode cX11_feed 17 = .ok (.invokevirtual 150, 3) := by decide +kernel
theorem dX11_feed_20 : decode cX11_feed 20 = .ok (.aload_n 0, 1) := by decide +kernel
theorem dX11_feed_21 : decode cX11_feed 21 = .ok (.iload_n 2, 1) := by decide +kernel
theorem dX11_feed_22 : decode cX11_feed 22 = .ok (.invokevirtual 150, 3) := by decide +kernel
theorem dX11_feed_25 : decode cX11_feed 25 = .ok (.aload_n 0, 1) := by decide +kernel
theorem dX11_feed_26 : decode cX11_feed 26 = .ok (.iload_n 3, 1) := by decide +kernel
theorem dX11_feed_27 : decode cX11_feed 27 = .ok (.invokevirtual 150, 3) := by decide +kernel
theorem dX11_feed_30 : decode cX11_feed 30 = .ok (.aload_n 0, 1) := by decide +kernel
theorem dX11_feed_31 : decode cX11_feed 31 = .ok (.iload 4, 2) := by decide +kernel
theorem dX11_feed_33 : decode cX11_feed 33 = .ok (.invokevirtual 150, 3) := by decide +kernel
theorem dX11_feed_36 : decode cX11_feed 36 = .ok (.aload_n 0, 1) := by decide +kernel
theorem dX11_feed_37 : decode cX11_feed 37 = .ok (.iload 5, 2) := by decide +kernel
theorem dX11_feed_39 : decode cX11_feed 39 = .ok (.invokevirtual 150, 3) := by decide +kernel
theorem dX11_feed_42 : decode cX11_feed 42 = .ok (.aload_n 0, 1) := by decide +kernel
theorem dX11_feed_43 : decode cX11_feed 43 = .ok (.getfield 147, 3) := by decide +kernel
theorem dX11_feed_46 : decode cX11_feed 46 = .ok (.ireturn, 1) := by decide +kernel
theorem dX11_four_0 : decode cX11_four 0 = .ok (.bipush 24, 2) := by decide +kernel
theorem dX11_four_2 : decode cX11_four 2 = .ok (.istore_n 2, 1) := by decide +kernel
theorem dX11_four_3 : decode cX11_four 3 = .ok (.iload_n 2, 1) := by decide +kernel
theorem dX11_four_4 : decode cX11_four 4 = .ok (.ifCond .lt 35, 3) := by decide +kernel
theorem dX11_four_7 : decode cX11_four 7 = .ok (.aload_n 0, 1) := by decide +kernel
theorem dX11_four_8 : decode cX11_four 8 = .ok (.getfield 13, 3) := by decide +kernel
theorem dX11_four_11 : decode cX11_four 11 = .ok (.aload_n 0, 1) := by decide +kernel
theorem dX11_four_12 : decode cX11_four 12 = .ok (.getfield 147, 3) := by decide +kernel
theorem dX11_four_15 : decode cX11_four 15 = .ok (.iload_n 1, 1) := by decide +kernel
theorem dX11_four_16 : decode cX11_four 16 = .ok (.iload_n 2, 1) := by decide +kernel
theorem dX11_four_17 : decode cX11_four 17 = .ok (.ishr, 1) := by decide +kernel
theorem dX11_four_18 : decode cX11_four 18 = .ok (.sipush 255, 3) := by decide +kernel
theorem dX11_four_21 : decode cX11_four 21 = .ok (.iand, 1) := by decide +kernel
theorem dX11_four_22 : decode cX11_four 22 = .ok (.iastore, 1) := by decide +kernel
theorem dX11_four_23 : decode cX11_four 23 = .ok (.aload_n 0, 1) := by decide +kernel
theorem dX11_four_24 : decode cX11_four 24 = .ok (.dup, 1) := by decide +kernel
theorem dX11_four_25 : decode cX11_four 25 = .ok (.getfield 147, 3) := by decide +kernel
theorem dX11_four_28 : decode cX11_four 28 = .ok (.iconst 1, 1) := by decide +kernel
theorem dX11_four_29 : decode cX11_four 29 = .ok (.iadd, 1) := by decide +kernel
theorem dX11_four_30 : decode cX11_four 30 = .ok (.putfield 147, 3) := by decide +kernel
theorem dX11_four_33 : decode cX11_four 33 = .ok (.iinc 2 (-8), 3) := by decide +kernel
theorem dX11_four_36 : decode cX11_four 36 = .ok (.goto (-33), 3) := by decide +kernel
theorem dX11_four_39 : decode cX11_four 39 = .ok (.return_, 1) := by decide +kernel
theorem dX11_end_0 : decode cX11_end 0 = .ok (.iload_n 1, 1) := by decide +kernel
theorem dX11_end_1 : decode cX11_end 1 = .ok (.ifCond .lt 11, 3) := by decide +kernel
theorem dX11_end_4 : decode cX11_end 4 = .ok (.iload_n 1, 1) := by decide +kernel
theorem dX11_end_5 : decode cX11_end 5 = .ok (.aload_n 0, 1) := by decide +kernel
theorem dX11_end_6 : decode cX11_end 6 = .ok (.getfield 147, 3) := by decide +kernel
theorem dX11_end_9 : decode cX11_end 9 = .ok (.if_icmp .le 5, 3) := by decide +kernel
theorem dX11_end_12 : decode cX11_end 12 = .ok (.iconst (-1), 1) := by decide +kernel
theorem dX11_end_13 : decode cX11_end 13 = .ok (.ireturn, 1) := by decide +kernel
theorem dX11_end_14 : decode cX11_end 14 = .ok (.aload_n 0, 1) := by decide +kernel
theorem dX11_end_15 : decode cX11_end 15 = .ok (.iload_n 1, 1) := by decide +kernel
theorem dX11_end_16 : decode cX11_end 16 = .ok (.putfield 147, 3) := by decide +kernel
theorem dX11_end_19 : decode cX11_end 19 = .ok (.iload_n 1, 1) := by decide +kernel
theorem dX11_end_20 : decode cX11_end 20 = .ok (.ireturn, 1) := by decide +kernel
theorem dX11_here_0 : decode cX11_here 0 = .ok (.aload_n 0, 1) := by decide +kernel
theorem dX11_here_1 : decode cX11_here 1 = .ok (.getfield 154, 3) := by decide +kernel
theorem dX11_here_4 : decode cX11_here 4 = .ok (.iload_n 1, 1) := by decide +kernel
theorem dX11_here_5 : decode cX11_here 5 = .ok (.iadd, 1) := by decide +kernel
theorem dX11_here_6 : decode cX11_here 6 = .ok (.aload_n 0, 1) := by decide +kernel
theorem dX11_here_7 : decode cX11_here 7 = .ok (.getfield 157, 3) := by decide +kernel
theorem dX11_here_10 : decode cX11_here 10 = .ok (.if_icmp .ge 17, 3) := by decide +kernel
theorem dX11_here_13 : decode cX11_here 13 = .ok (.aload_n 0, 1) := by decide +kernel
theorem dX11_here_14 : decode cX11_here 14 = .ok (.getfield 13, 3) := by decide +kernel
theorem dX11_here_17 : decode cX11_here 17 = .ok (.aload_n 0, 1) := by decide +kernel
theorem dX11_here_18 : decode cX11_here 18 = .ok (.getfield 154, 3) := by decide +kernel
theorem dX11_here_21 : decode cX11_here 21 = .ok (.iload_n 1, 1) := by decide +kernel
theorem dX11_here_22 : decode cX11_here 22 = .ok (.iadd, 1) := by decide +kernel
theorem dX11_here_23 : decode cX11_here 23 = .ok (.iaload, 1) := by decide +kernel
theorem dX11_here_24 : decode cX11_here 24 = .ok (.goto 4, 3) := by decide +kernel
theorem dX11_here_27 : decode cX11_here 27 = .ok (.iconst (-1), 1) := by decide +kernel
theorem dX11_here_28 : decode cX11_here 28 = .ok (.ireturn, 1) := by decide +kernel
theorem dX11_isLetter_0 : decode cX11_isLetter 0 = .ok (.iload_n 0, 1) := by decide +kernel
theorem dX11_isLetter_1 : decode cX11_isLetter 1 = .ok (.bipush 97, 2) := by decide +kernel
theorem dX11_isLetter_3 : decode cX11_isLetter 3 = .ok (.if_icmp .lt 13, 3) := by decide +kernel
theorem dX11_isLetter_6 : decode cX11_isLetter 6 = .ok (.iload_n 0, 1) := by decide +kernel
theorem dX11_isLetter_7 : decode cX11_isLetter 7 = .ok (.bipush 122, 2) := by decide +kernel
theorem dX11_isLetter_9 : decode cX11_isLetter 9 = .ok (.if_icmp .gt 7, 3) := by decide +kernel
theorem dX11_isLetter_12 : decode cX11_isLetter 12 = .ok (.iconst 1, 1) := by decide +kernel
theorem dX11_isLetter_13 : decode cX11_isLetter 13 = .ok (.goto 4, 3) := by decide +kernel
theorem dX11_isLetter_16 : decode cX11_isLetter 16 = .ok (.iconst 0, 1) := by decide +kernel
theorem dX11_isLetter_17 : decode cX11_isLetter 17 = .ok (.ireturn, 1) := by decide +kernel
theorem dX11_isDigit_0 : decode cX11_isDigit 0 = .ok (.iload_n 0, 1) := by decide +kernel
theorem dX11_isDigit_1 : decode cX11_isDigit 1 = .ok (.bipush 48, 2) := by decide +kernel
theorem dX11_isDigit_3 : decode cX11_isDigit 3 = .ok (.if_icmp .lt 13, 3) := by decide +kernel
theorem dX11_isDigit_6 : decode cX11_isDigit 6 = .ok (.iload_n 0, 1) := by decide +kernel
theorem dX11_isDigit_7 : decode cX11_isDigit 7 = .ok (.bipush 57, 2) := by decide +kernel
theorem dX11_isDigit_9 : decode cX11_isDigit 9 = .ok (.if_icmp .gt 7, 3) := by decide +kernel
theorem dX11_isDigit_12 : decode cX11_isDigit 12 = .ok (.iconst 1, 1) := by decide +kernel
theorem dX11_isDigit_13 : decode cX11_isDigit 13 = .ok (.goto 4, 3) := by decide +kernel
theorem dX11_isDigit_16 : decode cX11_isDigit 16 = .ok (.iconst 0, 1) := by decide +kernel
theorem dX11_isDigit_17 : decode cX11_isDigit 17 = .ok (.ireturn, 1) := by decide +kernel
theorem dX11_isSign_0 : decode cX11_isSign 0 = .ok (.iload_n 0, 1) := by decide +kernel
theorem dX11_isSign_1 : decode cX11_isSign 1 = .ok (.bipush 59, 2) := by decide +kernel
theorem dX11_isSign_3 : decode cX11_isSign 3 = .ok (.if_icmp .eq 45, 3) := by decide +kernel
theorem dX11_isSign_6 : decode cX11_isSign 6 = .ok (.iload_n 0, 1) := by decide +kernel
theorem dX11_isSign_7 : decode cX11_isSign 7 = .ok (.bipush 40, 2) := by decide +kernel
theorem dX11_isSign_9 : decode cX11_isSign 9 = .ok (.if_icmp .eq 39, 3) := by decide +kernel
theorem dX11_isSign_12 : decode cX11_isSign 12 = .ok (.iload_n 0, 1) := by decide +kernel
theorem dX11_isSign_13 : decode cX11_isSign 13 = .ok (.bipush 41, 2) := by decide +kernel
theorem dX11_isSign_15 : decode cX11_isSign 15 = .ok (.if_icmp .eq 33, 3) := by decide +kernel
theorem dX11_isSign_18 : decode cX11_isSign 18 = .ok (.iload_n 0, 1) := by decide +kernel
theorem dX11_isSign_19 : decode cX11_isSign 19 = .ok (.bipush 60, 2) := by decide +kernel
theorem dX11_isSign_21 : decode cX11_isSign 21 = .ok (.if_icmp .eq 27, 3) := by decide +kernel
theorem dX11_isSign_24 : decode cX11_isSign 24 = .ok (.iload_n 0, 1) := by decide +kernel
theorem dX11_isSign_25 : decode cX11_isSign 25 = .ok (.bipush 62, 2) := by decide +kernel
theorem dX11_isSign_27 : decode cX11_isSign 27 = .ok (.if_icmp .eq 21, 3) := by decide +kernel
theorem dX11_isSign_30 : decode cX11_isSign 30 = .ok (.iload_n 0, 1) := by decide +kernel
theorem dX11_isSign_31 : decode cX11_isSign 31 = .ok (.bipush 61, 2) := by decide +kernel
theorem dX11_isSign_33 : decode cX11_isSign 33 = .ok (.if_icmp .eq 15, 3) := by decide +kernel
theorem dX11_isSign_36 : decode cX11_isSign 36 = .ok (.iload_n 0, 1) := by decide +kernel
theorem dX11_isSign_37 : decode cX11_isSign 37 = .ok (.bipush 43, 2) := by decide +kernel
theorem dX11_isSign_39 : decode cX11_isSign 39 = .ok (.if_icmp .eq 9, 3) := by decide +kernel
theorem dX11_isSign_42 : decode cX11_isSign 42 = .ok (.iload_n 0, 1) := by decide +kernel
theorem dX11_isSign_43 : decode cX11_isSign 43 = .ok (.bipush 45, 2) := by decide +kernel
theorem dX11_isSign_45 : decode cX11_isSign 45 = .ok (.if_icmp .ne 7, 3) := by decide +kernel
theorem dX11_isSign_48 : decode cX11_isSign 48 = .ok (.iconst 1, 1) := by decide +kernel
theorem dX11_isSign_49 : decode cX11_isSign 49 = .ok (.goto 4, 3) := by decide +kernel
theorem dX11_isSign_52 : decode cX11_isSign 52 = .ok (.iconst 0, 1) := by decide +kernel
theorem dX11_isSign_53 : decode cX11_isSign 53 = .ok (.ireturn, 1) := by decide +kernel
theorem dX11_next_0 : decode cX11_next 0 = .ok (.aload_n 0, 1) := by decide +kernel
theorem dX11_next_1 : decode cX11_next 1 = .ok (.iconst 0, 1) := by decide +kernel
theorem dX11_next_2 : decode cX11_next 2 = .ok (.invokevirtual 160, 3) := by decide +kernel
theorem dX11_next_5 : decode cX11_next 5 = .ok (.bipush 32, 2) := by decide +kernel
theorem dX11_next_7 : decode cX11_next 7 = .ok (.if_icmp .eq 13, 3) := by decide +kernel
theorem dX11_next_10 : decode cX11_next 10 = .ok (.aload_n 0, 1) := by decide +kernel
theorem dX11_next_11 : decode cX11_next 11 = .ok (.iconst 0, 1) := by decide +kernel
theorem dX11_next_12 : decode cX11_next 12 = .ok (.invokevirtual 160, 3) := by decide +kernel
theorem dX11_next_15 : decode cX11_next 15 = .ok (.bipush 10, 2) := by decide +kernel
theorem dX11_next_17 : decode cX11_next 17 = .ok (.if_icmp .ne 16, 3) := by decide +kernel
theorem dX11_next_20 : decode cX11_next 20 = .ok (.aload_n 0, 1) := by decide +kernel
theorem dX11_next_21 : decode cX11_next 21 = .ok (.dup, 1) := by decide +kernel
theorem dX11_next_22 : decode cX11_next 22 = .ok (.getfield 154, 3) := by decide +kernel
theorem dX11_next_25 : decode cX11_next 25 = .ok (.iconst 1, 1) := by decide +kernel
theorem dX11_next_26 : decode cX11_next 26 = .ok (.iadd, 1) := by decide +kernel
theorem dX11_next_27 : decode cX11_next 27 = .ok (.putfield 154, 3) := by decide +kernel
theorem dX11_next_30 : decode cX11_next 30 = .ok (.goto (-30), 3) := by decide +kernel
theorem dX11_next_33 : decode cX11_next 33 = .ok (.aload_n 0, 1) := by decide +kernel
theorem dX11_next_34 : decode cX11_next 34 = .ok (.aload_n 0, 1) := by decide +kernel
theorem dX11_next_35 : decode cX11_next 35 = .ok (.getfield 154, 3) := by decide +kernel
theorem dX11_next_38 : decode cX11_next 38 = .ok (.putfield 164, 3) := by decide +kernel
theorem dX11_next_41 : decode cX11_next 41 = .ok (.aload_n 0, 1) := by decide +kernel
theorem dX11_next_42 : decode cX11_next 42 = .ok (.iconst 0, 1) := by decide +kernel
theorem dX11_next_43 : decode cX11_next 43 = .ok (.invokevirtual 160, 3) := by decide +kernel
theorem dX11_next_46 : decode cX11_next 46 = .ok (.istore_n 1, 1) := by decide +kernel
theorem dX11_next_47 : decode cX11_next 47 = .ok (.iconst 0, 1) := by decide +kernel
theorem dX11_next_48 : decode cX11_next 48 = .ok (.istore_n 2, 1) := by decide +kernel
theorem dX11_next_49 : decode cX11_next 49 = .ok (.aload_n 0, 1) := by decide +kernel
theorem dX11_next_50 : decode cX11_next 50 = .ok (.lconst 0, 1) := by decide +kernel
theorem dX11_next_51 : decode cX11_next 51 = .ok (.putfield 167, 3) := by decide +kernel
theorem dX11_next_54 : decode cX11_next 54 = .ok (.aload_n 0, 1) := by decide +kernel
theorem dX11_next_55 : decode cX11_next 55 = .ok (.iconst 0, 1) := by decide +kernel
theorem dX11_next_56 : decode cX11_next 56 = .ok (.putfield 171, 3) := by decide +kernel
theorem dX11_next_59 : decode cX11_next 59 = .ok (.iload_n 1, 1) := by decide +kernel
theorem dX11_next_60 : decode cX11_next 60 = .ok (.ifCond .ge 11, 3) := by decide +kernel
theorem dX11_next_63 : decode cX11_next 63 = .ok (.aload_n 0, 1) := by decide +kernel
theorem dX11_next_64 : decode cX11_next 64 = .ok (.iconst 0, 1) := by decide +kernel
theorem dX11_next_65 : decode cX11_next 65 = .ok (.putfield 174, 3) := by decide +kernel
theorem dX11_next_68 : decode cX11_next 68 = .ok (.goto 164, 3) := by decide +kernel
theorem dX11_next_71 : decode cX11_next 71 = .ok (.iload_n 1, 1) := by decide +kernel
theorem dX11_next_72 : decode cX11_next 72 = .ok (.invokestatic 177, 3) := by decide +kernel
theorem dX11_next_75 : decode cX11_next 75 = .ok (.ifCond .eq 62, 3) := by decide +kernel
theorem dX11_next_78 : decode cX11_next 78 = .ok (.aload_n 0, 1) := by decide +kernel
theorem dX11_next_79 : decode cX11_next 79 = .ok (.iload_n 2, 1) := by decide +kernel
theorem dX11_next_80 : decode cX11_next 80 = .ok (.invokevirtual 160, 3) := by decide +kernel
theorem dX11_next_83 : decode cX11_next 83 = .ok (.invokestatic 177, 3) := by decide +kernel
theorem dX11_next_86 : decode cX11_next 86 = .ok (.ifCond .eq 33, 3) := by decide +kernel
theorem dX11_next_89 : decode cX11_next 89 = .ok (.iload_n 2, 1) := by decide +kernel
theorem dX11_next_90 : decode cX11_next 90 = .ok (.bipush 8, 2) := by decide +kernel
theorem dX11_next_92 : decode cX11_next 92 = .ok (.if_icmp .ge 21, 3) := by decide +kernel
theorem dX11_next_95 : decode cX11_next 95 = .ok (.aload_n 0, 1) := by decide +kernel
theorem dX11_next_96 : decode cX11_next 96 = .ok (.aload_n 0, 1) := by decide +kernel
theorem dX11_next_97 : decode cX11_next 97 = .ok (.getfield 167, 3) := by decide +kernel
theorem dX11_next_100 : decode cX11_next 100 = .ok (.bipush 8, 2) := by decide +kernel
theorem dX11_next_102 : decode cX11_next 102 = .ok (.lshl, 1) := by decide +kernel
theorem dX11_next_103 : decode cX11_next 103 = .ok (.aload_n 0, 1) := by decide +kernel
theorem dX11_next_104 : decode cX11_next 104 = .ok (.iload_n 2, 1) := by decide +kernel
theorem dX11_next_105 : decode cX11_next 105 = .ok (.invokevirtual 160, 3) := by decide +kernel
theorem dX11_next_108 : decode cX11_next 108 = .ok (.i2l, 1) := by decide +kernel
theorem dX11_next_109 : decode cX11_next 109 = .ok (.lor, 1) := by decide +kernel
theorem dX11_next_110 : decode cX11_next 110 = .ok (.putfield 167, 3) := by decide +kernel
theorem dX11_next_113 : decode cX11_next 113 = .ok (.iinc 2 1, 3) := by decide +kernel
theorem dX11_next_116 : decode cX11_next 116 = .ok (.goto (-38), 3) := by decide +kernel
theorem dX11_next_119 : decode cX11_next 119 = .ok (.aload_n 0, 1) := by decide +kernel
theorem dX11_next_120 : decode cX11_next 120 = .ok (.iload_n 2, 1) := by decide +kernel
theorem dX11_next_121 : decode cX11_next 121 = .ok (.bipush 8, 2) := by decide +kernel
theorem dX11_next_123 : decode cX11_next 123 = .ok (.if_icmp .le 7, 3) := by decide +kernel
theorem dX11_next_126 : decode cX11_next 126 = .ok (.iconst 3, 1) := by decide +kernel
theorem dX11_next_127 : decode cX11_next 127 = .ok (.goto 4, 3) := by decide +kernel
theorem dX11_next_130 : decode cX11_next 130 = .ok (.iconst 1, 1) := by decide +kernel
theorem dX11_next_131 : decode cX11_next 131 = .ok (.putfield 174, 3) := by decide +kernel
theorem dX11_next_134 : decode cX11_next 134 = .ok (.goto 98, 3) := by decide +kernel
theorem dX11_next_137 : decode cX11_next 137 = .ok (.iload_n 1, 1) := by decide +kernel
theorem dX11_next_138 : decode cX11_next 138 = .ok (.invokestatic 181, 3) := by decide +kernel
theorem dX11_next_141 : decode cX11_next 141 = .ok (.ifCond .eq 73, 3) := by decide +kernel
theorem dX11_next_144 : decode cX11_next 144 = .ok (.aload_n 0, 1) := by decide +kernel
theorem dX11_next_145 : decode cX11_next 145 = .ok (.iload_n 2, 1) := by decide +kernel
theorem dX11_next_146 : decode cX11_next 146 = .ok (.invokevirtual 160, 3) := by decide +kernel
theorem dX11_next_149 : decode cX11_next 149 = .ok (.invokestatic 181, 3) := by decide +kernel
theorem dX11_next_152 : decode cX11_next 152 = .ok (.ifCond .eq 34, 3) := by decide +kernel
theorem dX11_next_155 : decode cX11_next 155 = .ok (.iload_n 2, 1) := by decide +kernel
theorem dX11_next_156 : decode cX11_next 156 = .ok (.iconst 4, 1) := by decide +kernel
theorem dX11_next_157 : decode cX11_next 157 = .ok (.if_icmp .ge 23, 3) := by decide +kernel
theorem dX11_next_160 : decode cX11_next 160 = .ok (.aload_n 0, 1) := by decide +kernel
theorem dX11_next_161 : decode cX11_next 161 = .ok (.bipush 10, 2) := by decide +kernel
theorem dX11_next_163 : decode cX11_next 163 = .ok (.aload_n 0, 1) := by decide +kernel
theorem dX11_next_164 : decode cX11_next 164 = .ok (.getfield 171, 3) := by decide +kernel
theorem dX11_next_167 : decode cX11_next 167 = .ok (.imul, 1) := by decide +kernel
theorem dX11_next_168 : decode cX11_next 168 = .ok (.aload_n 0, 1) := by decide +kernel
theorem dX11_next_169 : decode cX11_next 169 = .ok (.iload_n 2, 1) := by decide +kernel
theorem dX11_next_170 : decode cX11_next 170 = .ok (.invokevirtual 160, 3) := by decide +kernel
theorem dX11_next_173 : decode cX11_next 173 = .ok (.iadd, 1) := by decide +kernel
theorem dX11_next_174 : decode cX11_next 174 = .ok (.bipush 48, 2) := by decide +kernel
theorem dX11_next_176 : decode cX11_next 176 = .ok (.isub, 1) := by decide +kernel
theorem dX11_next_177 : decode cX11_next 177 = .ok (.putfield 171, 3) := by decide +kernel
theorem dX11_next_180 : decode cX11_next 180 = .ok (.iinc 2 1, 3) := by decide +kernel
theorem dX11_next_183 : decode cX11_next 183 = .ok (.goto (-39), 3) := by decide +kernel
theorem dX11_next_186 : decode cX11_next 186 = .ok (.aload_n 0, 1) := by decide +kernel
theorem dX11_next_187 : decode cX11_next 187 = .ok (.iload_n 2, 1) := by decide +kernel
theorem dX11_next_188 : decode cX11_next 188 = .ok (.iconst 4, 1) := by decide +kernel
theorem dX11_next_189 : decode cX11_next 189 = .ok (.if_icmp .gt 14, 3) := by decide +kernel
theorem dX11_next_192 : decode cX11_next 192 = .ok (.aload_n 0, 1) := by decide +kernel
theorem dX11_next_193 : decode cX11_next 193 = .ok (.iload_n 2, 1) := by decide +kernel
theorem dX11_next_194 : decode cX11_next 194 = .ok (.invokevirtual 160, 3) := by decide +kernel
theorem dX11_next_197 : decode cX11_next 197 = .ok (.invokestatic 177, 3) := by decide +kernel
theorem dX11_next_200 : decode cX11_next 200 = .ok (.ifCond .eq 7, 3) := by decide +kernel
theorem dX11_next_203 : decode cX11_next 203 = .ok (.iconst 3, 1) := by decide +kernel
theorem dX11_next_204 : decode cX11_next 204 = .ok (.goto 4, 3) := by decide +kernel
theorem dX11_next_207 : decode cX11_next 207 = .ok (.iconst 2, 1) := by decide +kernel
theorem dX11_next_208 : decode cX11_next 208 = .ok (.putfield 174, 3) := by decide +kernel
theorem dX11_next_211 : decode cX11_next 211 = .ok (.goto 21, 3) := by decide +kernel
theorem dX11_next_214 : decode cX11_next 214 = .ok (.iconst 1, 1) := by decide +kernel
theorem dX11_next_215 : decode cX11_next 215 = .ok (.istore_n 2, 1) := by decide +kernel
theorem dX11_next_216 : decode cX11_next 216 = .ok (.aload_n 0, 1) := by decide +kernel
theorem dX11_next_217 : decode cX11_next 217 = .ok (.iload_n 1, 1) := by decide +kernel
theorem dX11_next_218 : decode cX11_next 218 = .ok (.invokestatic 184, 3) := by decide +kernel
theorem dX11_next_221 : decode cX11_next 221 = .ok (.ifCond .eq 7, 3) := by decide +kernel
theorem dX11_next_224 : decode cX11_next 224 = .ok (.iload_n 1, 1) := by decide +kernel
theorem dX11_next_225 : decode cX11_next 225 = .ok (.goto 4, 3) := by decide +kernel
theorem dX11_next_228 : decode cX11_next 228 = .ok (.iconst 3, 1) := by decide +kernel
theorem dX11_next_229 : decode cX11_next 229 = .ok (.putfield 174, 3) := by decide +kernel
theorem dX11_next_232 : decode cX11_next 232 = .ok (.aload_n 0, 1) := by decide +kernel
theorem dX11_next_233 : decode cX11_next 233 = .ok (.getfield 174, 3) := by decide +kernel
theorem dX11_next_236 : decode cX11_next 236 = .ok (.iconst 3, 1) := by decide +kernel
theorem dX11_next_237 : decode cX11_next 237 = .ok (.if_icmp .eq 13, 3) := by decide +kernel
theorem dX11_next_240 : decode cX11_next 240 = .ok (.aload_n 0, 1) := by decide +kernel
theorem dX11_next_241 : decode cX11_next 241 = .ok (.dup, 1) := by decide +kernel
theorem dX11_next_242 : decode cX11_next 242 = .ok (.getfield 154, 3) := by decide +kernel
theorem dX11_next_245 : decode cX11_next 245 = .ok (.iload_n 2, 1) := by decide +kernel
theorem dX11_next_246 : decode cX11_next 246 = .ok (.iadd, 1) := by decide +kernel
theorem dX11_next_247 : decode cX11_next 247 = .ok (.putfield 154, 3) := by decide +kernel
theorem dX11_next_250 : decode cX11_next 250 = .ok (.return_, 1) := by decide +kernel
theorem dX11_wrong_0 : decode cX11_wrong 0 = .ok (.aload_n 0, 1) := by decide +kernel
theorem dX11_wrong_1 : decode cX11_wrong 1 = .ok (.getfield 187, 3) := by decide +kernel
theorem dX11_wrong_4 : decode cX11_wrong 4 = .ok (.ifCond .le 4, 3) := by decide +kernel
theorem dX11_wrong_7 : decode cX11_wrong 7 = .ok (.return_, 1) := by decide +kernel
theorem dX11_wrong_8 : decode cX11_wrong 8 = .ok (.aload_n 0, 1) := by decide +kernel
theorem dX11_wrong_9 : decode cX11_wrong 9 = .ok (.aload_n 0, 1) := by decide +kernel
theorem dX11_wrong_10 : decode cX11_wrong 10 = .ok (.getfield 174, 3) := by decide +kernel
theorem dX11_wrong_13 : decode cX11_wrong 13 = .ok (.iconst 3, 1) := by decide +kernel
theorem dX11_wrong_14 : decode cX11_wrong 14 = .ok (.if_icmp .ne 7, 3) := by decide +kernel
theorem dX11_wrong_17 : decode cX11_wrong 17 = .ok (.iconst 1, 1) := by decide +kernel
theorem dX11_wrong_18 : decode cX11_wrong 18 = .ok (.goto 4, 3) := by decide +kernel
theorem dX11_wrong_21 : decode cX11_wrong 21 = .ok (.iload_n 1, 1) := by decide +kernel
theorem dX11_wrong_22 : decode cX11_wrong 22 = .ok (.putfield 187, 3) := by decide +kernel
theorem dX11_wrong_25 : decode cX11_wrong 25 = .ok (.aload_n 0, 1) := by decide +kernel
theorem dX11_wrong_26 : decode cX11_wrong 26 = .ok (.aload_n 0, 1) := by decide +kernel
theorem dX11_wrong_27 : decode cX11_wrong 27 = .ok (.getfield 164, 3) := by decide +kernel
theorem dX11_wrong_30 : decode cX11_wrong 30 = .ok (.putfield 16, 3) := by decide +kernel
theorem dX11_wrong_33 : decode cX11_wrong 33 = .ok (.return_, 1) := by decide +kernel
theorem dX11_isWord_0 : decode cX11_isWord 0 = .ok (.aload_n 0, 1) := by decide +kernel
theorem dX11_isWord_1 : decode cX11_isWord 1 = .ok (.getfield 174, 3) := by decide +kernel
theorem dX11_isWord_4 : decode cX11_isWord 4 = .ok (.iconst 1, 1) := by decide +kernel
theorem dX11_isWord_5 : decode cX11_isWord 5 = .ok (.if_icmp .ne 16, 3) := by decide +kernel
theorem dX11_isWord_8 : decode cX11_isWord 8 = .ok (.aload_n 0, 1) := by decide +kernel
theorem dX11_isWord_9 : decode cX11_isWord 9 = .ok (.getfield 167, 3) := by decide +kernel
theorem dX11_isWord_12 : decode cX11_isWord 12 = .ok (.lload_n 1, 1) := by decide +kernel
theorem dX11_isWord_13 : decode cX11_isWord 13 = .ok (.lcmp, 1) := by decide +kernel
theorem dX11_isWord_14 : decode cX11_isWord 14 = .ok (.ifCond .ne 7, 3) := by decide +kernel
theorem dX11_isWord_17 : decode cX11_isWord 17 = .ok (.iconst 1, 1) := by decide +kernel
theorem dX11_isWord_18 : decode cX11_isWord 18 = .ok (.goto 4, 3) := by decide +kernel
theorem dX11_isWord_21 : decode cX11_isWord 21 = .ok (.iconst 0, 1) := by decide +kernel
theorem dX11_isWord_22 : decode cX11_isWord 22 = .ok (.ireturn, 1) := by decide +kernel
theorem dX11_named_0 : decode cX11_named 0 = .ok (.aload_n 0, 1) := by decide +kernel
theorem dX11_named_1 : decode cX11_named 1 = .ok (.getfield 174, 3) := by decide +kernel
theorem dX11_named_4 : decode cX11_named 4 = .ok (.iconst 1, 1) := by decide +kernel
theorem dX11_named_5 : decode cX11_named 5 = .ok (.if_icmp .eq 7, 3) := by decide +kernel
theorem dX11_named_8 : decode cX11_named 8 = .ok (.iconst (-1), 1) := by decide +kernel
theorem dX11_named_9 : decode cX11_named 9 = .ok (.goto 79, 3) := by decide +kernel
theorem dX11_named_12 : decode cX11_named 12 = .ok (.aload_n 0, 1) := by decide +kernel
theorem dX11_named_13 : decode cX11_named 13 = .ok (.getfield 167, 3) := by decide +kernel
theorem dX11_named_16 : decode cX11_named 16 = .ok (.ldc2_w 190, 3) := by decide +kernel
theorem dX11_named_19 : decode cX11_named 19 = .ok (.lcmp, 1) := by decide +kernel
theorem dX11_named_20 : decode cX11_named 20 = .ok (.ifCond .ne 7, 3) := by decide +kernel
theorem dX11_named_23 : decode cX11_named 23 = .ok (.iconst 0, 1) := by decide +kernel
theorem dX11_named_24 : decode cX11_named 24 = .ok (.goto 64, 3) := by decide +kernel
theorem dX11_named_27 : decode cX11_named 27 = .ok (.aload_n 0, 1) := by decide +kernel
theorem dX11_named_28 : decode cX11_named 28 = .ok (.getfield 167, 3) := by decide +kernel
theorem dX11_named_31 : decode cX11_named 31 = .ok (.ldc2_w 192, 3) := by decide +kernel
theorem dX11_named_34 : decode cX11_named 34 = .ok (.lcmp, 1) := by decide +kernel
theorem dX11_named_35 : decode cX11_named 35 = .ok (.ifCond .ne 7, 3) := by decide +kernel
theorem dX11_named_38 : decode cX11_named 38 = .ok (.iconst 1, 1) := by decide +kernel
theorem dX11_named_39 : decode cX11_named 39 = .ok (.goto 49, 3) := by decide +kernel
theorem dX11_named_42 : decode cX11_named 42 = .ok (.aload_n 0, 1) := by decide +kernel
theorem dX11_named_43 : decode cX11_named 43 = .ok (.getfield 167, 3) := by decide +kernel
theorem dX11_named_46 : decode cX11_named 46 = .ok (.ldc2_w 194, 3) := by decide +kernel
theorem dX11_named_49 : decode cX11_named 49 = .ok (.lcmp, 1) := by decide +kernel
theorem dX11_named_50 : decode cX11_named 50 = .ok (.ifCond .ne 7, 3) := by decide +kernel
theorem dX11_named_53 : decode cX11_named 53 = .ok (.iconst 2, 1) := by decide +kernel
theorem dX11_named_54 : decode cX11_named 54 = .ok (.goto 34, 3) := by decide +kernel
theorem dX11_named_57 : decode cX11_named 57 = .ok (.aload_n 0, 1) := by decide +kernel
theorem dX11_named_58 : decode cX11_named 58 = .ok (.getfield 167, 3) := by decide +kernel
theorem dX11_named_61 : decode cX11_named 61 = .ok (.ldc2_w 196, 3) := by decide +kernel
theorem dX11_named_64 : decode cX11_named 64 = .ok (.lcmp, 1) := by decide +kernel
theorem dX11_named_65 : decode cX11_named 65 = .ok (.ifCond .ne 7, 3) := by decide +kernel
theorem dX11_named_68 : decode cX11_named 68 = .ok (.iconst 3, 1) := by decide +kernel
theorem dX11_named_69 : decode cX11_named 69 = .ok (.goto 19, 3) := by decide +kernel
theorem dX11_named_72 : decode cX11_named 72 = .ok (.aload_n 0, 1) := by decide +kernel
theorem dX11_named_73 : decode cX11_named 73 = .ok (.getfield 167, 3) := by decide +kernel
theorem dX11_named_76 : decode cX11_named 76 = .ok (.ldc2_w 198, 3) := by decide +kernel
theorem dX11_named_79 : decode cX11_named 79 = .ok (.lcmp, 1) := by decide +kernel
theorem dX11_named_80 : decode cX11_named 80 = .ok (.ifCond .ne 7, 3) := by decide +kernel
theorem dX11_named_83 : decode cX11_named 83 = .ok (.iconst 4, 1) := by decide +kernel
theorem dX11_named_84 : decode cX11_named 84 = .ok (.goto 4, 3) := by decide +kernel
theorem dX11_named_87 : decode cX11_named 87 = .ok (.iconst (-1), 1) := by decide +kernel
theorem dX11_named_88 : decode cX11_named 88 = .ok (.ireturn, 1) := by decide +kernel
theorem dX11_step_0 : decode cX11_step 0 = .ok (.aload_n 0, 1) := by decide +kernel
theorem dX11_step_1 : decode cX11_step 1 = .ok (.getfield 41, 3) := by decide +kernel
theorem dX11_step_4 : decode cX11_step 4 = .ok (.aload_n 0, 1) := by decide +kernel
theorem dX11_step_5 : decode cX11_step 5 = .ok (.getfield 200, 3) := by decide +kernel
theorem dX11_step_8 : decode cX11_step 8 = .ok (.iload_n 1, 1) := by decide +kernel
theorem dX11_step_9 : decode cX11_step 9 = .ok (.iastore, 1) := by decide +kernel
theorem dX11_step_10 : decode cX11_step 10 = .ok (.aload_n 0, 1) := by decide +kernel
theorem dX11_step_11 : decode cX11_step 11 = .ok (.getfield 44, 3) := by decide +kernel
theorem dX11_step_14 : decode cX11_step 14 = .ok (.aload_n 0, 1) := by decide +kernel
theorem dX11_step_15 : decode cX11_step 15 = .ok (.getfield 200, 3) := by decide +kernel
theorem dX11_step_18 : decode cX11_step 18 = .ok (.iload_n 2, 1) := by decide +kernel
theorem dX11_step_19 : decode cX11_step 19 = .ok (.iastore, 1) := by decide +kernel
theorem dX11_step_20 : decode cX11_step 20 = .ok (.aload_n 0, 1) := by decide +kernel
theorem dX11_step_21 : decode cX11_step 21 = .ok (.dup, 1) := by decide +kernel
theorem dX11_step_22 : decode cX11_step 22 = .ok (.getfield 200, 3) := by decide +kernel
theorem dX11_step_25 : decode cX11_step 25 = .ok (.iconst 1, 1) := by decide +kernel
theorem dX11_step_26 : decode cX11_step 26 = .ok (.iadd, 1) := by decide +kernel
theorem dX11_step_27 : decode cX11_step 27 = .ok (.putfield 200, 3) := by decide +kernel
theorem dX11_step_30 : decode cX11_step 30 = .ok (.return_, 1) := by decide +kernel
theorem dX11_told_0 : decode cX11_told 0 = .ok (.aload_n 0, 1) := by decide +kernel
theorem dX11_told_1 : decode cX11_told 1 = .ok (.getfield 174, 3) := by decide +kernel
theorem dX11_told_4 : decode cX11_told 4 = .ok (.iconst 2, 1) := by decide +kernel
theorem dX11_told_5 : decode cX11_told 5 = .ok (.if_icmp .eq 11, 3) := by decide +kernel
theorem dX11_told_8 : decode cX11_told 8 = .ok (.aload_n 0, 1) := by decide +kernel
theorem dX11_told_9 : decode cX11_told 9 = .ok (.iconst 2, 1) := by decide +kernel
theorem dX11_told_10 : decode cX11_told 10 = .ok (.invokevirtual 203, 3) := by decide +kernel
theorem dX11_told_13 : decode cX11_told 13 = .ok (.goto 24, 3) := by decide +kernel
theorem dX11_told_16 : decode cX11_told 16 = .ok (.aload_n 0, 1) := by decide +kernel
theorem dX11_told_17 : decode cX11_told 17 = .ok (.getfield 171, 3) := by decide +kernel
theorem dX11_told_20 : decode cX11_told 20 = .ok (.iload_n 1, 1) := by decide +kernel
theorem dX11_told_21 : decode cX11_told 21 = .ok (.if_icmp .lt 11, 3) := by decide +kernel
theorem dX11_told_24 : decode cX11_told 24 = .ok (.aload_n 0, 1) := by decide +kernel
theorem dX11_told_25 : decode cX11_told 25 = .ok (.getfield 171, 3) := by decide +kernel
theorem dX11_told_28 : decode cX11_told 28 = .ok (.iload_n 2, 1) := by decide +kernel
theorem dX11_told_29 : decode cX11_told 29 = .ok (.if_icmp .le 8, 3) := by decide +kernel
theorem dX11_told_32 : decode cX11_told 32 = .ok (.aload_n 0, 1) := by decide +kernel
theorem dX11_told_33 : decode cX11_told 33 = .ok (.iconst 3, 1) := by decide +kernel
theorem dX11_told_34 : decode cX11_told 34 = .ok (.invokevirtual 203, 3) := by decide +kernel
theorem dX11_told_37 : decode cX11_told 37 = .ok (.aload_n 0, 1) := by decide +kernel
theorem dX11_told_38 : decode cX11_told 38 = .ok (.getfield 171, 3) := by decide +kernel
theorem dX11_told_41 : decode cX11_told 41 = .ok (.istore_n 3, 1) := by decide +kernel
theorem dX11_told_42 : decode cX11_told 42 = .ok (.aload_n 0, 1) := by decide +kernel
theorem dX11_told_43 : decode cX11_told 43 = .ok (.getfield 187, 3) := by decide +kernel
theorem dX11_told_46 : decode cX11_told 46 = .ok (.ifCond .ne 7, 3) := by decide +kernel
theorem dX11_told_49 : decode cX11_told 49 = .ok (.aload_n 0, 1) := by decide +kernel
theorem dX11_told_50 : decode cX11_told 50 = .ok (.invokevirtual 206, 3) := by decide +kernel
theorem dX11_told_53 : decode cX11_told 53 = .ok (.iload_n 3, 1) := by decide +kernel
theorem dX11_told_54 : decode cX11_told 54 = .ok (.ireturn, 1) := by decide +kernel
theorem dX11_hold_0 : decode cX11_hold 0 = .ok (.aload_n 0, 1) := by decide +kernel
theorem dX11_hold_1 : decode cX11_hold 1 = .ok (.getfield 50, 3) := by decide +kernel
theorem dX11_hold_4 : decode cX11_hold 4 = .ok (.aload_n 0, 1) := by decide +kernel
theorem dX11_hold_5 : decode cX11_hold 5 = .ok (.getfield 209, 3) := by decide +kernel
theorem dX11_hold_8 : decode cX11_hold 8 = .ok (.iload_n 1, 1) := by decide +kernel
theorem dX11_hold_9 : decode cX11_hold 9 = .ok (.iastore, 1) := by decide +kernel
theorem dX11_hold_10 : decode cX11_hold 10 = .ok (.aload_n 0, 1) := by decide +kernel
theorem dX11_hold_11 : decode cX11_hold 11 = .ok (.dup, 1) := by decide +kernel
theorem dX11_hold_12 : decode cX11_hold 12 = .ok (.getfield 209, 3) := by decide +kernel
theorem dX11_hold_15 : decode cX11_hold 15 = .ok (.iconst 1, 1) := by decide +kernel
theorem dX11_hold_16 : decode cX11_hold 16 = .ok (.iadd, 1) := by decide +kernel
theorem dX11_hold_17 : decode cX11_hold 17 = .ok (.putfield 209, 3) := by decide +kernel
theorem dX11_hold_20 : decode cX11_hold 20 = .ok (.iload_n 1, 1) := by decide +kernel
theorem dX11_hold_21 : decode cX11_hold 21 = .ok (.bipush 28, 2) := by decide +kernel
theorem dX11_hold_23 : decode cX11_hold 23 = .ok (.if_icmp .eq 9, 3) := by decide +kernel
theorem dX11_hold_26 : decode cX11_hold 26 = .ok (.iload_n 1, 1) := by decide +kernel
theorem dX11_hold_27 : decode cX11_hold 27 = .ok (.bipush 20, 2) := by decide +kernel
theorem dX11_hold_29 : decode cX11_hold 29 = .ok (.if_icmp .ne 13, 3) := by decide +kernel
theorem dX11_hold_32 : decode cX11_hold 32 = .ok (.aload_n 0, 1) := by decide +kernel
theorem dX11_hold_33 : decode cX11_hold 33 = .ok (.dup, 1) := by decide +kernel
theorem dX11_hold_34 : decode cX11_hold 34 = .ok (.getfield 212, 3) := by decide +kernel
theorem dX11_hold_37 : decode cX11_hold 37 = .ok (.iconst 1, 1) := by decide +kernel
theorem dX11_hold_38 : decode cX11_hold 38 = .ok (.iadd, 1) := by decide +kernel
theorem dX11_hold_39 : decode cX11_hold 39 = .ok (.putfield 212, 3) := by decide +kernel
theorem dX11_hold_42 : decode cX11_hold 42 = .ok (.return_, 1) := by decide +kernel
theorem dX11_pop_0 : decode cX11_pop 0 = .ok (.aload_n 0, 1) := by decide +kernel
theorem dX11_pop_1 : decode cX11_pop 1 = .ok (.dup, 1) := by decide +kernel
theorem dX11_pop_2 : decode cX11_pop 2 = .ok (.getfield 209, 3) := by decide +kernel
theorem dX11_pop_5 : decode cX11_pop 5 = .ok (.iconst 1, 1) := by decide +kernel
theorem dX11_pop_6 : decode cX11_pop 6 = .ok (.isub, 1) := by decide +kernel
theorem dX11_pop_7 : decode cX11_pop 7 = .ok (.putfield 209, 3) := by decide +kernel
theorem dX11_pop_10 : decode cX11_pop 10 = .ok (.aload_n 0, 1) := by decide +kernel
theorem dX11_pop_11 : decode cX11_pop 11 = .ok (.getfield 50, 3) := by decide +kernel
theorem dX11_pop_14 : decode cX11_pop 14 = .ok (.aload_n 0, 1) := by decide +kernel
theorem dX11_pop_15 : decode cX11_pop 15 = .ok (.getfield 209, 3) := by decide +kernel
theorem dX11_pop_18 : decode cX11_pop 18 = .ok (.iaload, 1) := by decide +kernel
theorem dX11_pop_19 : decode cX11_pop 19 = .ok (.bipush 20, 2) := by decide +kernel
theorem dX11_pop_21 : decode cX11_pop 21 = .ok (.if_icmp .ne 13, 3) := by decide +kernel
theorem dX11_pop_24 : decode cX11_pop 24 = .ok (.aload_n 0, 1) := by decide +kernel
theorem dX11_pop_25 : decode cX11_pop 25 = .ok (.dup, 1) := by decide +kernel
theorem dX11_pop_26 : decode cX11_pop 26 = .ok (.getfield 212, 3) := by decide +kernel
theorem dX11_pop_29 : decode cX11_pop 29 = .ok (.iconst 1, 1) := by decide +kernel
theorem dX11_pop_30 : decode cX11_pop 30 = .ok (.isub, 1) := by decide +kernel
theorem dX11_pop_31 : decode cX11_pop 31 = .ok (.putfield 212, 3) := by decide +kernel
theorem dX11_pop_34 : decode cX11_pop 34 = .ok (.aload_n 0, 1) := by decide +kernel
theorem dX11_pop_35 : decode cX11_pop 35 = .ok (.aload_n 0, 1) := by decide +kernel
theorem dX11_pop_36 : decode cX11_pop 36 = .ok (.getfield 50, 3) := by decide +kernel
theorem dX11_pop_39 : decode cX11_pop 39 = .ok (.aload_n 0, 1) := by decide +kernel
theorem dX11_pop_40 : decode cX11_pop 40 = .ok (.getfield 209, 3) := by decide +kernel
theorem dX11_pop_43 : decode cX11_pop 43 = .ok (.iaload, 1) := by decide +kernel
theorem dX11_pop_44 : decode cX11_pop 44 = .ok (.iconst 0, 1) := by decide +kernel
theorem dX11_pop_45 : decode cX11_pop 45 = .ok (.invokevirtual 215, 3) := by decide +kernel
theorem dX11_pop_48 : decode cX11_pop 48 = .ok (.return_, 1) := by decide +kernel
theorem dX11_settle_0 : decode cX11_settle 0 = .ok (.aload_n 0, 1) := by decide +kernel
theorem dX11_settle_1 : decode cX11_settle 1 = .ok (.getfield 209, 3) := by decide +kernel
theorem dX11_settle_4 : decode cX11_settle 4 = .ok (.ifCond .le 41, 3) := by decide +kernel
theorem dX11_settle_7 : decode cX11_settle 7 = .ok (.aload_n 0, 1) := by decide +kernel
theorem dX11_settle_8 : decode cX11_settle 8 = .ok (.getfield 50, 3) := by decide +kernel
theorem dX11_settle_11 : decode cX11_settle 11 = .ok (.aload_n 0, 1) := by decide +kernel
theorem dX11_settle_12 : decode cX11_settle 12 = .ok (.getfield 209, 3) := by decide +kernel
theorem dX11_settle_15 : decode cX11_settle 15 = .ok (.iconst 1, 1) := by decide +kernel
theorem dX11_settle_16 : decode cX11_settle 16 = .ok (.isub, 1) := by decide +kernel
theorem dX11_settle_17 : decode cX11_settle 17 = .ok (.iaload, 1) := by decide +kernel
theorem dX11_settle_18 : decode cX11_settle 18 = .ok (.bipush 28, 2) := by decide +kernel
theorem dX11_settle_20 : decode cX11_settle 20 = .ok (.if_icmp .eq 25, 3) := by decide +kernel
theorem dX11_settle_23 : decode cX11_settle 23 = .ok (.aload_n 0, 1) := by decide +kernel
theorem dX11_settle_24 : decode cX11_settle 24 = .ok (.getfield 50, 3) := by decide +kernel
theorem dX11_settle_27 : decode cX11_settle 27 = .ok (.aload_n 0, 1) := by decide +kernel
theorem dX11_settle_28 : decode cX11_settle 28 = .ok (.getfield 209, 3) := by decide +kernel
theorem dX11_settle_31 : decode cX11_settle 31 = .ok (.iconst 1, 1) := by decide +kernel
theorem dX11_settle_32 : decode cX11_settle 32 = .ok (.isub, 1) := by decide +kernel
theorem dX11_settle_33 : decode cX11_settle 33 = .ok (.iaload, 1) := by decide +kernel
theorem dX11_settle_34 : decode cX11_settle 34 = .ok (.iload_n 1, 1) := by decide +kernel
theorem dX11_settle_35 : decode cX11_settle 35 = .ok (.if_icmp .lt 10, 3) := by decide +kernel
theorem dX11_settle_38 : decode cX11_settle 38 = .ok (.aload_n 0, 1) := by decide +kernel
theorem dX11_settle_39 : decode cX11_settle 39 = .ok (.invokevirtual 219, 3) := by decide +kernel
theorem dX11_settle_42 : decode cX11_settle 42 = .ok (.goto (-42), 3) := by decide +kernel
theorem dX11_settle_45 : decode cX11_settle 45 = .ok (.return_, 1) := by decide +kernel
theorem dX11_isOpen_0 : decode cX11_isOpen 0 = .ok (.iconst 0, 1) := by decide +kernel
theorem dX11_isOpen_1 : decode cX11_isOpen 1 = .ok (.istore_n 1, 1) := by decide +kernel
theorem dX11_isOpen_2 : decode cX11_isOpen 2 = .ok (.iconst 0, 1) := by decide +kernel
theorem dX11_isOpen_3 : decode cX11_isOpen 3 = .ok (.istore_n 2, 1) := by decide +kernel
theorem dX11_isOpen_4 : decode cX11_isOpen 4 = .ok (.iload_n 2, 1) := by decide +kernel
theorem dX11_isOpen_5 : decode cX11_isOpen 5 = .ok (.aload_n 0, 1) := by decide +kernel
theorem dX11_isOpen_6 : decode cX11_isOpen 6 = .ok (.getfield 209, 3) := by decide +kernel
theorem dX11_isOpen_9 : decode cX11_isOpen 9 = .ok (.if_icmp .ge 30, 3) := by decide +kernel
theorem dX11_isOpen_12 : decode cX11_isOpen 12 = .ok (.iload_n 1, 1) := by decide +kernel
theorem dX11_isOpen_13 : decode cX11_isOpen 13 = .ok (.ifCond .ne 14, 3) := by decide +kernel
theorem dX11_isOpen_16 : decode cX11_isOpen 16 = .ok (.aload_n 0, 1) := by decide +kernel
theorem dX11_isOpen_17 : decode cX11_isOpen 17 = .ok (.getfield 50, 3) := by decide +kernel
theorem dX11_isOpen_20 : decode cX11_isOpen 20 = .ok (.iload_n 2, 1) := by decide +kernel
theorem dX11_isOpen_21 : decode cX11_isOpen 21 = .ok (.iaload, 1) := by decide +kernel
theorem dX11_isOpen_22 : decode cX11_isOpen 22 = .ok (.bipush 28, 2) := by decide +kernel
theorem dX11_isOpen_24 : decode cX11_isOpen 24 = .ok (.if_icmp .ne 7, 3) := by decide +kernel
theorem dX11_isOpen_27 : decode cX11_isOpen 27 = .ok (.iconst 1, 1) := by decide +kernel
theorem dX11_isOpen_28 : decode cX11_isOpen 28 = .ok (.goto 4, 3) := by decide +kernel
theorem dX11_isOpen_31 : decode cX11_isOpen 31 = .ok (.iconst 0, 1) := by decide +kernel
theorem dX11_isOpen_32 : decode cX11_isOpen 32 = .ok (.istore_n 1, 1) := by decide +kernel
theorem dX11_isOpen_33 : decode cX11_isOpen 33 = .ok (.iinc 2 1, 3) := by decide +kernel
theorem dX11_isOpen_36 : decode cX11_isOpen 36 = .ok (.goto (-32), 3) := by decide +kernel
theorem dX11_isOpen_39 : decode cX11_isOpen 39 = .ok (.iload_n 1, 1) := by decide +kernel
theorem dX11_isOpen_40 : decode cX11_isOpen 40 = .ok (.ireturn, 1) := by decide +kernel
theorem dX11_readE_0 : decode cX11_readE 0 = .ok (.aload_n 0, 1) := by decide +kernel
theorem dX11_readE_1 : decode cX11_readE 1 = .ok (.iconst 0, 1) := by decide +kernel
theorem dX11_readE_2 : decode cX11_readE 2 = .ok (.putfield 209, 3) := by decide +kernel
theorem dX11_readE_5 : decode cX11_readE 5 = .ok (.aload_n 0, 1) := by decide +kernel
theorem dX11_readE_6 : decode cX11_readE 6 = .ok (.iconst 0, 1) := by decide +kernel
theorem dX11_readE_7 : decode cX11_readE 7 = .ok (.putfield 212, 3) := by decide +kernel
theorem dX11_readE_10 : decode cX11_readE 10 = .ok (.iconst 0, 1) := by decide +kernel
theorem dX11_readE_11 : decode cX11_readE 11 = .ok (.istore_n 1, 1) := by decide +kernel
theorem dX11_readE_12 : decode cX11_readE 12 = .ok (.iconst 1, 1) := by decide +kernel
theorem dX11_readE_13 : decode cX11_readE 13 = .ok (.istore_n 2, 1) := by decide +kernel
theorem dX11_readE_14 : decode cX11_readE 14 = .ok (.aload_n 0, 1) := by decide +kernel
theorem dX11_readE_15 : decode cX11_readE 15 = .ok (.getfield 187, 3) := by decide +kernel
theorem dX11_readE_18 : decode cX11_readE 18 = .ok (.ifCond .ne 82, 3) := by decide +kernel
theorem dX11_readE_21 : decode cX11_readE 21 = .ok (.iload_n 2, 1) := by decide +kernel
theorem dX11_readE_22 : decode cX11_readE 22 = .ok (.ifCond .eq 78, 3) := by decide +kernel
theorem dX11_readE_25 : decode cX11_readE 25 = .ok (.iload_n 1, 1) := by decide +kernel
theorem dX11_readE_26 : decode cX11_readE 26 = .ok (.iconst 4, 1) := by decide +kernel
theorem dX11_readE_27 : decode cX11_readE 27 = .ok (.if_icmp .eq 8, 3) := by decide +kernel
theorem dX11_readE_30 : decode cX11_readE 30 = .ok (.iload_n 1, 1) := by decide +kernel
theorem dX11_readE_31 : decode cX11_readE 31 = .ok (.iconst 5, 1) := by decide +kernel
theorem dX11_readE_32 : decode cX11_readE 32 = .ok (.if_icmp .ne 7, 3) := by decide +kernel
theorem dX11_readE_35 : decode cX11_readE 35 = .ok (.iconst 1, 1) := by decide +kernel
theorem dX11_readE_36 : decode cX11_readE 36 = .ok (.goto 4, 3) := by decide +kernel
theorem dX11_readE_39 : decode cX11_readE 39 = .ok (.iconst 0, 1) := by decide +kernel
theorem dX11_readE_40 : decode cX11_readE 40 = .ok (.istore_n 3, 1) := by decide +kernel
theorem dX11_readE_41 : decode cX11_readE 41 = .ok (.iload_n 3, 1) := by decide +kernel
theorem dX11_readE_42 : decode cX11_readE 42 = .ok (.ifCond .eq 19, 3) := by decide +kernel
theorem dX11_readE_45 : decode cX11_readE 45 = .ok (.aload_n 0, 1) := by decide +kernel
theorem dX11_readE_46 : decode cX11_readE 46 = .ok (.getfield 174, 3) := by decide +kernel
theorem dX11_readE_49 : decode cX11_readE 49 = .ok (.bipush 59, 2) := by decide +kernel
theorem dX11_readE_51 : decode cX11_readE 51 = .ok (.if_icmp .ne 10, 3) := by decide +kernel
theorem dX11_readE_54 : decode cX11_readE 54 = .ok (.aload_n 0, 1) := by decide +kernel
theorem dX11_readE_55 : decode cX11_readE 55 = .ok (.invokevirtual 222, 3) := by decide +kernel
theorem dX11_readE_58 : decode cX11_readE 58 = .ok (.ifCond .eq 7, 3) := by decide +kernel
theorem dX11_readE_61 : decode cX11_readE 61 = .ok (.iconst 1, 1) := by decide +kernel
theorem dX11_readE_62 : decode cX11_readE 62 = .ok (.goto 4, 3) := by decide +kernel
theorem dX11_readE_65 : decode cX11_readE 65 = .ok (.iconst 0, 1) := by decide +kernel
theorem dX11_readE_66 : decode cX11_readE 66 = .ok (.istore_n 2, 1) := by decide +kernel
theorem dX11_readE_67 : decode cX11_readE 67 = .ok (.iload_n 2, 1) := by decide +kernel
theorem dX11_readE_68 : decode cX11_readE 68 = .ok (.ifCond .ne 6, 3) := by decide +kernel
theorem dX11_readE_71 : decode cX11_readE 71 = .ok (.goto (-57), 3) := by decide +kernel
theorem dX11_readE_74 : decode cX11_readE 74 = .ok (.iload_n 1, 1) := by decide +kernel
theorem dX11_readE_75 : decode cX11_readE 75 = .ok (.iconst 3, 1) := by decide +kernel
theorem dX11_readE_76 : decode cX11_readE 76 = .ok (.if_icmp .eq 7, 3) := by decide +kernel
theorem dX11_readE_79 : decode cX11_readE 79 = .ok (.iload_n 3, 1) := by decide +kernel
theorem dX11_readE_80 : decode cX11_readE 80 = .ok (.ifCond .eq 11, 3) := by decide +kernel
theorem dX11_readE_83 : decode cX11_readE 83 = .ok (.aload_n 0, 1) := by decide +kernel
theorem dX11_readE_84 : decode cX11_readE 84 = .ok (.iload_n 1, 1) := by decide +kernel
theorem dX11_readE_85 : decode cX11_readE 85 = .ok (.invokevirtual 226, 3) := by decide +kernel
theorem dX11_readE_88 : decode cX11_readE 88 = .ok (.goto 8, 3) := by decide +kernel
theorem dX11_readE_91 : decode cX11_readE 91 = .ok (.aload_n 0, 1) := by decide +kernel
theorem dX11_readE_92 : decode cX11_readE 92 = .ok (.iload_n 1, 1) := by decide +kernel
theorem dX11_readE_93 : decode cX11_readE 93 = .ok (.invokevirtual 229, 3) := by decide +kernel
theorem dX11_readE_96 : decode cX11_readE 96 = .ok (.istore_n 1, 1) := by decide +kernel
theorem dX11_readE_97 : decode cX11_readE 97 = .ok (.goto (-83), 3) := by decide +kernel
theorem dX11_readE_100 : decode cX11_readE 100 = .ok (.aload_n 0, 1) := by decide +kernel
theorem dX11_readE_101 : decode cX11_readE 101 = .ok (.getfield 187, 3) := by decide +kernel
theorem dX11_readE_104 : decode cX11_readE 104 = .ok (.ifCond .ne 8, 3) := by decide +kernel
theorem dX11_readE_107 : decode cX11_readE 107 = .ok (.aload_n 0, 1) := by decide +kernel
theorem dX11_readE_108 : decode cX11_readE 108 = .ok (.iconst 0, 1) := by decide +kernel
theorem dX11_readE_109 : decode cX11_readE 109 = .ok (.invokevirtual 232, 3) := by decide +kernel
theorem dX11_readE_112 : decode cX11_readE 112 = .ok (.return_, 1) := by decide +kernel
theorem dX11_operand_0 : decode cX11_operand 0 = .ok (.aload_n 0, 1) := by decide +kernel
theorem dX11_operand_1 : decode cX11_operand 1 = .ok (.invokevirtual 235, 3) := by decide +kernel
theorem dX11_operand_4 : decode cX11_operand 4 = .ok (.istore_n 2, 1) := by decide +kernel
theorem dX11_operand_5 : decode cX11_operand 5 = .ok (.aload_n 0, 1) := by decide +kernel
theorem dX11_operand_6 : decode cX11_operand 6 = .ok (.getfield 174, 3) := by decide +kernel
theorem dX11_operand_9 : decode cX11_operand 9 = .ok (.iconst 2, 1) := by decide +kernel
theorem dX11_operand_10 : decode cX11_operand 10 = .ok (.if_icmp .eq 7, 3) := by decide +kernel
theorem dX11_operand_13 : decode cX11_operand 13 = .ok (.iload_n 2, 1) := by decide +kernel
theorem dX11_operand_14 : decode cX11_operand 14 = .ok (.ifCond .lt 7, 3) := by decide +kernel
theorem dX11_operand_17 : decode cX11_operand 17 = .ok (.iconst 1, 1) := by decide +kernel
theorem dX11_operand_18 : decode cX11_operand 18 = .ok (.goto 4, 3) := by decide +kernel
theorem dX11_operand_21 : decode cX11_operand 21 = .ok (.iconst 0, 1) := by decide +kernel
theorem dX11_operand_22 : decode cX11_operand 22 = .ok (.istore_n 3, 1) := by decide +kernel
theorem dX11_operand_23 : decode cX11_operand 23 = .ok (.iload_n 3, 1) := by decide +kernel
theorem dX11_operand_24 : decode cX11_operand 24 = .ok (.ifCond .ne 26, 3) := by decide +kernel
theorem dX11_operand_27 : decode cX11_operand 27 = .ok (.iload_n 1, 1) := by decide +kernel
theorem dX11_operand_28 : decode cX11_operand 28 = .ok (.ifCond .ne 26, 3) := by decide +kernel
theorem dX11_operand_31 : decode cX11_operand 31 = .ok (.aload_n 0, 1) := by decide +kernel
theorem dX11_operand_32 : decode cX11_operand 32 = .ok (.getfield 174, 3) := by decide +kernel
theorem dX11_operand_35 : decode cX11_operand 35 = .ok (.bipush 40, 2) := by decide +kernel
theorem dX11_operand_37 : decode cX11_operand 37 = .ok (.if_icmp .eq 13, 3) := by decide +kernel
theorem dX11_operand_40 : decode cX11_operand 40 = .ok (.aload_n 0, 1) := by decide +kernel
theorem dX11_operand_41 : decode cX11_operand 41 = .ok (.ldc2_w 239, 3) := by decide +kernel
theorem dX11_operand_44 : decode cX11_operand 44 = .ok (.invokevirtual 241, 3) := by decide +kernel
theorem dX11_operand_47 : decode cX11_operand 47 = .ok (.ifCond .eq 7, 3) := by decide +kernel
theorem dX11_operand_50 : decode cX11_operand 50 = .ok (.iconst 1, 1) := by decide +kernel
theorem dX11_operand_51 : decode cX11_operand 51 = .ok (.goto 4, 3) := by decide +kernel
theorem dX11_operand_54 : decode cX11_operand 54 = .ok (.iconst 0, 1) := by decide +kernel
theorem dX11_operand_55 : decode cX11_operand 55 = .ok (.istore 4, 2) := by decide +kernel
theorem dX11_operand_57 : decode cX11_operand 57 = .ok (.iload 4, 2) := by decide +kernel
theorem dX11_operand_59 : decode cX11_operand 59 = .ok (.ifCond .eq 29, 3) := by decide +kernel
theorem dX11_operand_62 : decode cX11_operand 62 = .ok (.iload_n 1, 1) := by decide +kernel
theorem dX11_operand_63 : decode cX11_operand 63 = .ok (.ifCond .ne 12, 3) := by decide +kernel
theorem dX11_operand_66 : decode cX11_operand 66 = .ok (.aload_n 0, 1) := by decide +kernel
theorem dX11_operand_67 : decode cX11_operand 67 = .ok (.getfield 212, 3) := by decide +kernel
theorem dX11_operand_70 : decode cX11_operand 70 = .ok (.bipush 6, 2) := by decide +kernel
theorem dX11_operand_72 : decode cX11_operand 72 = .ok (.if_icmp .ge 16, 3) := by decide +kernel
theorem dX11_operand_75 : decode cX11_operand 75 = .ok (.iload_n 3, 1) := by decide +kernel
theorem dX11_operand_76 : decode cX11_operand 76 = .ok (.ifCond .eq 17, 3) := by decide +kernel
theorem dX11_operand_79 : decode cX11_operand 79 = .ok (.aload_n 0, 1) := by decide +kernel
theorem dX11_operand_80 : decode cX11_operand 80 = .ok (.getfield 245, 3) := by decide +kernel
theorem dX11_operand_83 : decode cX11_operand 83 = .ok (.bipush 60, 2) := by decide +kernel
theorem dX11_operand_85 : decode cX11_operand 85 = .ok (.if_icmp .ne 8, 3) := by decide +kernel
theorem dX11_operand_88 : decode cX11_operand 88 = .ok (.aload_n 0, 1) := by decide +kernel
theorem dX11_operand_89 : decode cX11_operand 89 = .ok (.iconst 2, 1) := by decide +kernel
theorem dX11_operand_90 : decode cX11_operand 90 = .ok (.invokevirtual 203, 3) := by decide +kernel
theorem dX11_operand_93 : decode cX11_operand 93 = .ok (.aload_n 0, 1) := by decide +kernel
theorem dX11_operand_94 : decode cX11_operand 94 = .ok (.getfield 187, 3) := by decide +kernel
theorem dX11_operand_97 : decode cX11_operand 97 = .ok (.ifCond .le 5, 3) := by decide +kernel
theorem dX11_operand_100 : decode cX11_operand 100 = .ok (.iload_n 1, 1) := by decide +kernel
theorem dX11_operand_101 : decode cX11_operand 101 = .ok (.ireturn, 1) := by decide +kernel
theorem dX11_operand_102 : decode cX11_operand 102 = .ok (.iload_n 3, 1) := by decide +kernel
theorem dX11_operand_103 : decode cX11_operand 103 = .ok (.ifCond .ne 29, 3) := by decide +kernel
theorem dX11_operand_106 : decode cX11_operand 106 = .ok (.aload_n 0, 1) := by decide +kernel
theorem dX11_operand_107 : decode cX11_operand 107 = .ok (.aload_n 0, 1) := by decide +kernel
theorem dX11_operand_108 : decode cX11_operand 108 = .ok (.getfield 174, 3) := by decide +kernel
theorem dX11_operand_111 : decode cX11_operand 111 = .ok (.bipush 40, 2) := by decide +kernel
theorem dX11_operand_113 : decode cX11_operand 113 = .ok (.if_icmp .ne 8, 3) := by decide +kernel
theorem dX11_operand_116 : decode cX11_operand 116 = .ok (.bipush 28, 2) := by decide +kernel
theorem dX11_operand_118 : decode cX11_operand 118 = .ok (.goto 5, 3) := by decide +kernel
theorem dX11_operand_121 : decode cX11_operand 121 = .ok (.bipush 20, 2) := by decide +kernel
theorem dX11_operand_123 : decode cX11_operand 123 = .ok (.invokevirtual 248, 3) := by decide +kernel
theorem dX11_operand_126 : decode cX11_operand 126 = .ok (.aload_n 0, 1) := by decide +kernel
theorem dX11_operand_127 : decode cX11_operand 127 = .ok (.invokevirtual 206, 3) := by decide +kernel
theorem dX11_operand_130 : decode cX11_operand 130 = .ok (.iconst 0, 1) := by decide +kernel
theorem dX11_operand_131 : decode cX11_operand 131 = .ok (.ireturn, 1) := by decide +kernel
theorem dX11_operand_132 : decode cX11_operand 132 = .ok (.aload_n 0, 1) := by decide +kernel
theorem dX11_operand_133 : decode cX11_operand 133 = .ok (.iload_n 2, 1) := by decide +kernel
theorem dX11_operand_134 : decode cX11_operand 134 = .ok (.ifCond .lt 10, 3) := by decide +kernel
theorem dX11_operand_137 : decode cX11_operand 137 = .ok (.bipush 10, 2) := by decide +kernel
theorem dX11_operand_139 : decode cX11_operand 139 = .ok (.iload_n 2, 1) := by decide +kernel
theorem dX11_operand_140 : decode cX11_operand 140 = .ok (.iadd, 1) := by decide +kernel
theorem dX11_operand_141 : decode cX11_operand 141 = .ok (.goto 4, 3) := by decide +kernel
theorem dX11_operand_144 : decode cX11_operand 144 = .ok (.iconst 0, 1) := by decide +kernel
theorem dX11_operand_145 : decode cX11_operand 145 = .ok (.aload_n 0, 1) := by decide +kernel
theorem dX11_operand_146 : decode cX11_operand 146 = .ok (.getfield 171, 3) := by decide +kernel
theorem dX11_operand_149 : decode cX11_operand 149 = .ok (.invokevirtual 215, 3) := by decide +kernel
theorem dX11_operand_152 : decode cX11_operand 152 = .ok (.aload_n 0, 1) := by decide +kernel
theorem dX11_operand_153 : decode cX11_operand 153 = .ok (.dup, 1) := by decide +kernel
theorem dX11_operand_154 : decode cX11_operand 154 = .ok (.getfield 245, 3) := by decide +kernel
theorem dX11_operand_157 : decode cX11_operand 157 = .ok (.iconst 1, 1) := by decide +kernel
theorem dX11_operand_158 : decode cX11_operand 158 = .ok (.iadd, 1) := by decide +kernel
theorem dX11_operand_159 : decode cX11_operand 159 = .ok (.putfield 245, 3) := by decide +kernel
theorem dX11_operand_162 : decode cX11_operand 162 = .ok (.aload_n 0, 1) := by decide +kernel
theorem dX11_operand_163 : decode cX11_operand 163 = .ok (.invokevirtual 206, 3) := by decide +kernel
theorem dX11_operand_166 : decode cX11_operand 166 = .ok (.iload_n 1, 1) := by decide +kernel
theorem dX11_operand_167 : decode cX11_operand 167 = .ok (.iconst 2, 1) := by decide +kernel
theorem dX11_operand_168 : decode cX11_operand 168 = .ok (.if_icmp .ne 7, 3) := by decide +kernel
theorem dX11_operand_171 : decode cX11_operand 171 = .ok (.iconst 4, 1) := by decide +kernel
theorem dX11_operand_172 : decode cX11_operand 172 = .ok (.goto 4, 3) := by decide +kernel
theorem dX11_operand_175 : decode cX11_operand 175 = .ok (.iconst 3, 1) := by decide +kernel
theorem dX11_operand_176 : decode cX11_operand 176 = .ok (.ireturn, 1) := by decide +kernel
theorem dX11_sign_0 : decode cX11_sign 0 = .ok (.iload_n 1, 1) := by decide +kernel
theorem dX11_sign_1 : decode cX11_sign 1 = .ok (.iconst 5, 1) := by decide +kernel
theorem dX11_sign_2 : decode cX11_sign 2 = .ok (.if_icmp .eq 62, 3) := by decide +kernel
theorem dX11_sign_5 : decode cX11_sign 5 = .ok (.aload_n 0, 1) := by decide +kernel
theorem dX11_sign_6 : decode cX11_sign 6 = .ok (.getfield 174, 3) := by decide +kernel
theorem dX11_sign_9 : decode cX11_sign 9 = .ok (.bipush 43, 2) := by decide +kernel
theorem dX11_sign_11 : decode cX11_sign 11 = .ok (.if_icmp .eq 12, 3) := by decide +kernel
theorem dX11_sign_14 : decode cX11_sign 14 = .ok (.aload_n 0, 1) := by decide +kernel
theorem dX11_sign_15 : decode cX11_sign 15 = .ok (.getfield 174, 3) := by decide +kernel
theorem dX11_sign_18 : decode cX11_sign 18 = .ok (.bipush 45, 2) := by decide +kernel
theorem dX11_sign_20 : decode cX11_sign 20 = .ok (.if_icmp .ne 44, 3) := by decide +kernel
theorem dX11_sign_23 : decode cX11_sign 23 = .ok (.aload_n 0, 1) := by decide +kernel
theorem dX11_sign_24 : decode cX11_sign 24 = .ok (.bipush 26, 2) := by decide +kernel
theorem dX11_sign_26 : decode cX11_sign 26 = .ok (.invokevirtual 232, 3) := by decide +kernel
theorem dX11_sign_29 : decode cX11_sign 29 = .ok (.aload_n 0, 1) := by decide +kernel
theorem dX11_sign_30 : decode cX11_sign 30 = .ok (.aload_n 0, 1) := by decide +kernel
theorem dX11_sign_31 : decode cX11_sign 31 = .ok (.getfield 174, 3) := by decide +kernel
theorem dX11_sign_34 : decode cX11_sign 34 = .ok (.bipush 43, 2) := by decide +kernel
theorem dX11_sign_36 : decode cX11_sign 36 = .ok (.if_icmp .ne 8, 3) := by decide +kernel
theorem dX11_sign_39 : decode cX11_sign 39 = .ok (.bipush 26, 2) := by decide +kernel
theorem dX11_sign_41 : decode cX11_sign 41 = .ok (.goto 5, 3) := by decide +kernel
theorem dX11_sign_44 : decode cX11_sign 44 = .ok (.bipush 27, 2) := by decide +kernel
theorem dX11_sign_46 : decode cX11_sign 46 = .ok (.invokevirtual 248, 3) := by decide +kernel
theorem dX11_sign_49 : decode cX11_sign 49 = .ok (.aload_n 0, 1) := by decide +kernel
theorem dX11_sign_50 : decode cX11_sign 50 = .ok (.invokevirtual 206, 3) := by decide +kernel
theorem dX11_sign_53 : decode cX11_sign 53 = .ok (.iload_n 1, 1) := by decide +kernel
theorem dX11_sign_54 : decode cX11_sign 54 = .ok (.iconst 3, 1) := by decide +kernel
theorem dX11_sign_55 : decode cX11_sign 55 = .ok (.if_icmp .ne 7, 3) := by decide +kernel
theorem dX11_sign_58 : decode cX11_sign 58 = .ok (.iconst 1, 1) := by decide +kernel
theorem dX11_sign_59 : decode cX11_sign 59 = .ok (.goto 4, 3) := by decide +kernel
theorem dX11_sign_62 : decode cX11_sign 62 = .ok (.iconst 2, 1) := by decide +kernel
theorem dX11_sign_63 : decode cX11_sign 63 = .ok (.ireturn, 1) := by decide +kernel
theorem dX11_sign_64 : decode cX11_sign 64 = .ok (.iload_n 1, 1) := by decide +kernel
theorem dX11_sign_65 : decode cX11_sign 65 = .ok (.iconst 3, 1) := by decide +kernel
theorem dX11_sign_66 : decode cX11_sign 66 = .ok (.if_icmp .ne 76, 3) := by decide +kernel
theorem dX11_sign_69 : decode cX11_sign 69 = .ok (.aload_n 0, 1) := by decide +kernel
theorem dX11_sign_70 : decode cX11_sign 70 = .ok (.getfield 174, 3) := by decide +kernel
theorem dX11_sign_73 : decode cX11_sign 73 = .ok (.bipush 61, 2) := by decide +kernel
theorem dX11_sign_75 : decode cX11_sign 75 = .ok (.if_icmp .eq 21, 3) := by decide +kernel
theorem dX11_sign_78 : decode cX11_sign 78 = .ok (.aload_n 0, 1) := by decide +kernel
theorem dX11_sign_79 : decode cX11_sign 79 = .ok (.getfield 174, 3) := by decide +kernel
theorem dX11_sign_82 : decode cX11_sign 82 = .ok (.bipush 60, 2) := by decide +kernel
theorem dX11_sign_84 : decode cX11_sign 84 = .ok (.if_icmp .eq 12, 3) := by decide +kernel
theorem dX11_sign_87 : decode cX11_sign 87 = .ok (.aload_n 0, 1) := by decide +kernel
theorem dX11_sign_88 : decode cX11_sign 88 = .ok (.getfield 174, 3) := by decide +kernel
theorem dX11_sign_91 : decode cX11_sign 91 = .ok (.bipush 62, 2) := by decide +kernel
theorem dX11_sign_93 : decode cX11_sign 93 = .ok (.if_icmp .ne 49, 3) := by decide +kernel
theorem dX11_sign_96 : decode cX11_sign 96 = .ok (.aload_n 0, 1) := by decide +kernel
theorem dX11_sign_97 : decode cX11_sign 97 = .ok (.bipush 26, 2) := by decide +kernel
theorem dX11_sign_99 : decode cX11_sign 99 = .ok (.invokevirtual 232, 3) := by decide +kernel
theorem dX11_sign_102 : decode cX11_sign 102 = .ok (.aload_n 0, 1) := by decide +kernel
theorem dX11_sign_103 : decode cX11_sign 103 = .ok (.aload_n 0, 1) := by decide +kernel
theorem dX11_sign_104 : decode cX11_sign 104 = .ok (.getfield 174, 3) := by decide +kernel
theorem dX11_sign_107 : decode cX11_sign 107 = .ok (.bipush 61, 2) := by decide +kernel
theorem dX11_sign_109 : decode cX11_sign 109 = .ok (.if_icmp .ne 8, 3) := by decide +kernel
theorem dX11_sign_112 : decode cX11_sign 112 = .ok (.bipush 23, 2) := by decide +kernel
theorem dX11_sign_114 : decode cX11_sign 114 = .ok (.goto 19, 3) := by decide +kernel
theorem dX11_sign_117 : decode cX11_sign 117 = .ok (.aload_n 0, 1) := by decide +kernel
theorem dX11_sign_118 : decode cX11_sign 118 = .ok (.getfield 174, 3) := by decide +kernel
theorem dX11_sign_121 : decode cX11_sign 121 = .ok (.bipush 60, 2) := by decide +kernel
theorem dX11_sign_123 : decode cX11_sign 123 = .ok (.if_icmp .ne 8, 3) := by decide +kernel
theorem dX11_sign_126 : decode cX11_sign 126 = .ok (.bipush 24, 2) := by decide +kernel
theorem dX11_sign_128 : decode cX11_sign 128 = .ok (.goto 5, 3) := by decide +kernel
theorem dX11_sign_131 : decode cX11_sign 131 = .ok (.bipush 25, 2) := by decide +kernel
theorem dX11_sign_133 : decode cX11_sign 133 = .ok (.invokevirtual 248, 3) := by decide +kernel
theorem dX11_sign_136 : decode cX11_sign 136 = .ok (.aload_n 0, 1) := by decide +kernel
theorem dX11_sign_137 : decode cX11_sign 137 = .ok (.invokevirtual 206, 3) := by decide +kernel
theorem dX11_sign_140 : decode cX11_sign 140 = .ok (.iconst 2, 1) := by decide +kernel
theorem dX11_sign_141 : decode cX11_sign 141 = .ok (.ireturn, 1) := by decide +kernel
theorem dX11_sign_142 : decode cX11_sign 142 = .ok (.iload_n 1, 1) := by decide +kernel
theorem dX11_sign_143 : decode cX11_sign 143 = .ok (.iconst 3, 1) := by decide +kernel
theorem dX11_sign_144 : decode cX11_sign 144 = .ok (.if_icmp .eq 57, 3) := by decide +kernel
theorem dX11_sign_147 : decode cX11_sign 147 = .ok (.aload_n 0, 1) := by decide +kernel
theorem dX11_sign_148 : decode cX11_sign 148 = .ok (.ldc2_w 251, 3) := by decide +kernel
theorem dX11_sign_151 : decode cX11_sign 151 = .ok (.invokevirtual 241, 3) := by decide +kernel
theorem dX11_sign_154 : decode cX11_sign 154 = .ok (.ifCond .ne 13, 3) := by decide +kernel
theorem dX11_sign_157 : decode cX11_sign 157 = .ok (.aload_n 0, 1) := by decide +kernel
theorem dX11_sign_158 : decode cX11_sign 158 = .ok (.ldc2_w 253, 3) := by decide +kernel
theorem dX11_sign_161 : decode cX11_sign 161 = .ok (.invokevirtual 241, 3) := by decide +kernel
theorem dX11_sign_164 : decode cX11_sign 164 = .ok (.ifCond .eq 37, 3) := by decide +kernel
theorem dX11_sign_167 : decode cX11_sign 167 = .ok (.aload_n 0, 1) := by decide +kernel
theorem dX11_sign_168 : decode cX11_sign 168 = .ok (.ldc2_w 251, 3) := by decide +kernel
theorem dX11_sign_171 : decode cX11_sign 171 = .ok (.invokevirtual 241, 3) := by decide +kernel
theorem dX11_sign_174 : decode cX11_sign 174 = .ok (.istore_n 2, 1) := by decide +kernel
theorem dX11_sign_175 : decode cX11_sign 175 = .ok (.aload_n 0, 1) := by decide +kernel
theorem dX11_sign_176 : decode cX11_sign 176 = .ok (.iload_n 2, 1) := by decide +kernel
theorem dX11_sign_177 : decode cX11_sign 177 = .ok (.invokevirtual 255, 3) := by decide +kernel
theorem dX11_sign_180 : decode cX11_sign 180 = .ok (.aload_n 0, 1) := by decide +kernel
theorem dX11_sign_181 : decode cX11_sign 181 = .ok (.iload_n 2, 1) := by decide +kernel
theorem dX11_sign_182 : decode cX11_sign 182 = .ok (.ifCond .eq 8, 3) := by decide +kernel
theorem dX11_sign_185 : decode cX11_sign 185 = .ok (.bipush 22, 2) := by decide +kernel
theorem dX11_sign_187 : decode cX11_sign 187 = .ok (.goto 5, 3) := by decide +kernel
theorem dX11_sign_190 : decode cX11_sign 190 = .ok (.bipush 21, 2) := by decide +kernel
theorem dX11_sign_192 : decode cX11_sign 192 = .ok (.invokevirtual 248, 3) := by decide +kernel
theorem dX11_sign_195 : decode cX11_sign 195 = .ok (.aload_n 0, 1) := by decide +kernel
theorem dX11_sign_196 : decode cX11_sign 196 = .ok (.invokevirtual 206, 3) := by decide +kernel
theorem dX11_sign_199 : decode cX11_sign 199 = .ok (.iconst 0, 1) := by decide +kernel
theorem dX11_sign_200 : decode cX11_sign 200 = .ok (.ireturn, 1) := by decide +kernel
theorem dX11_sign_201 : decode cX11_sign 201 = .ok (.iload_n 1, 1) := by decide +kernel
theorem dX11_sign_202 : decode cX11_sign 202 = .ok (.iconst 3, 1) := by decide +kernel
theorem dX11_sign_203 : decode cX11_sign 203 = .ok (.if_icmp .eq 50, 3) := by decide +kernel
theorem dX11_sign_206 : decode cX11_sign 206 = .ok (.aload_n 0, 1) := by decide +kernel
theorem dX11_sign_207 : decode cX11_sign 207 = .ok (.getfield 174, 3) := by decide +kernel
theorem dX11_sign_210 : decode cX11_sign 210 = .ok (.bipush 41, 2) := by decide +kernel
theorem dX11_sign_212 : decode cX11_sign 212 = .ok (.if_icmp .ne 41, 3) := by decide +kernel
theorem dX11_sign_215 : decode cX11_sign 215 = .ok (.aload_n 0, 1) := by decide +kernel
theorem dX11_sign_216 : decode cX11_sign 216 = .ok (.invokevirtual 222, 3) := by decide +kernel
theorem dX11_sign_219 : decode cX11_sign 219 = .ok (.ifCond .eq 34, 3) := by decide +kernel
theorem dX11_sign_222 : decode cX11_sign 222 = .ok (.aload_n 0, 1) := by decide +kernel
theorem dX11_sign_223 : decode cX11_sign 223 = .ok (.iconst 0, 1) := by decide +kernel
theorem dX11_sign_224 : decode cX11_sign 224 = .ok (.invokevirtual 232, 3) := by decide +kernel
theorem dX11_sign_227 : decode cX11_sign 227 = .ok (.aload_n 0, 1) := by decide +kernel
theorem dX11_sign_228 : decode cX11_sign 228 = .ok (.dup, 1) := by decide +kernel
theorem dX11_sign_229 : decode cX11_sign 229 = .ok (.getfield 209, 3) := by decide +kernel
theorem dX11_sign_232 : decode cX11_sign 232 = .ok (.iconst 1, 1) := by decide +kernel
theorem dX11_sign_233 : decode cX11_sign 233 = .ok (.isub, 1) := by decide +kernel
theorem dX11_sign_234 : decode cX11_sign 234 = .ok (.putfield 209, 3) := by decide +kernel
theorem dX11_sign_237 : decode cX11_sign 237 = .ok (.aload_n 0, 1) := by decide +kernel
theorem dX11_sign_238 : decode cX11_sign 238 = .ok (.dup, 1) := by decide +kernel
end
section
theorem dX11_sign_239 : decode cX11_sign 239 = .ok (.getfield 212, 3) := by decide +kernel
theorem dX11_sign_242 : decode cX11_sign 242 = .ok (.iconst 1, 1) := by decide +kernel
theorem dX11_sign_243 : decode cX11_sign 243 = .ok (.isub, 1) := by decide +kernel
theorem dX11_sign_244 : decode cX11_sign 244 = .ok (.putfield 212, 3) := by decide +kernel
theorem dX11_sign_247 : decode cX11_sign 247 = .ok (.aload_n 0, 1) := by decide +kernel
theorem dX11_sign_248 : decode cX11_sign 248 = .ok (.invokevirtual 206, 3) := by decide +kernel
theorem dX11_sign_251 : decode cX11_sign 251 = .ok (.iconst 5, 1) := by decide +kernel
theorem dX11_sign_252 : decode cX11_sign 252 = .ok (.ireturn, 1) := by decide +kernel
theorem dX11_sign_253 : decode cX11_sign 253 = .ok (.aload_n 0, 1) := by decide +kernel
theorem dX11_sign_254 : decode cX11_sign 254 = .ok (.iconst 2, 1) := by decide +kernel
theorem dX11_sign_255 : decode cX11_sign 255 = .ok (.invokevirtual 203, 3) := by decide +kernel
theorem dX11_sign_258 : decode cX11_sign 258 = .ok (.iload_n 1, 1) := by decide +kernel
theorem dX11_sign_259 : decode cX11_sign 259 = .ok (.ireturn, 1) := by decide +kernel
theorem dX11_settleOnes_0 : decode cX11_settleOnes 0 = .ok (.iconst 1, 1) := by decide +kernel
theorem dX11_settleOnes_1 : decode cX11_settleOnes 1 = .ok (.istore_n 2, 1) := by decide +kernel
theorem dX11_settleOnes_2 : decode cX11_settleOnes 2 = .ok (.iload_n 2, 1) := by decide +kernel
theorem dX11_settleOnes_3 : decode cX11_settleOnes 3 = .ok (.ifCond .eq 60, 3) := by decide +kernel
theorem dX11_settleOnes_6 : decode cX11_settleOnes 6 = .ok (.aload_n 0, 1) := by decide +kernel
theorem dX11_settleOnes_7 : decode cX11_settleOnes 7 = .ok (.getfield 209, 3) := by decide +kernel
theorem dX11_settleOnes_10 : decode cX11_settleOnes 10 = .ok (.ifCond .ne 8, 3) := by decide +kernel
theorem dX11_settleOnes_13 : decode cX11_settleOnes 13 = .ok (.bipush 28, 2) := by decide +kernel
theorem dX11_settleOnes_15 : decode cX11_settleOnes 15 = .ok (.goto 14, 3) := by decide +kernel
theorem dX11_settleOnes_18 : decode cX11_settleOnes 18 = .ok (.aload_n 0, 1) := by decide +kernel
theorem dX11_settleOnes_19 : decode cX11_settleOnes 19 = .ok (.getfield 50, 3) := by decide +kernel
theorem dX11_settleOnes_22 : decode cX11_settleOnes 22 = .ok (.aload_n 0, 1) := by decide +kernel
theorem dX11_settleOnes_23 : decode cX11_settleOnes 23 = .ok (.getfield 209, 3) := by decide +kernel
theorem dX11_settleOnes_26 : decode cX11_settleOnes 26 = .ok (.iconst 1, 1) := by decide +kernel
theorem dX11_settleOnes_27 : decode cX11_settleOnes 27 = .ok (.isub, 1) := by decide +kernel
theorem dX11_settleOnes_28 : decode cX11_settleOnes 28 = .ok (.iaload, 1) := by decide +kernel
theorem dX11_settleOnes_29 : decode cX11_settleOnes 29 = .ok (.istore_n 3, 1) := by decide +kernel
theorem dX11_settleOnes_30 : decode cX11_settleOnes 30 = .ok (.iload_n 3, 1) := by decide +kernel
theorem dX11_settleOnes_31 : decode cX11_settleOnes 31 = .ok (.bipush 28, 2) := by decide +kernel
theorem dX11_settleOnes_33 : decode cX11_settleOnes 33 = .ok (.if_icmp .eq 17, 3) := by decide +kernel
theorem dX11_settleOnes_36 : decode cX11_settleOnes 36 = .ok (.iload_n 1, 1) := by decide +kernel
theorem dX11_settleOnes_37 : decode cX11_settleOnes 37 = .ok (.ifCond .eq 9, 3) := by decide +kernel
theorem dX11_settleOnes_40 : decode cX11_settleOnes 40 = .ok (.iload_n 3, 1) := by decide +kernel
theorem dX11_settleOnes_41 : decode cX11_settleOnes 41 = .ok (.bipush 21, 2) := by decide +kernel
theorem dX11_settleOnes_43 : decode cX11_settleOnes 43 = .ok (.if_icmp .eq 7, 3) := by decide +kernel
theorem dX11_settleOnes_46 : decode cX11_settleOnes 46 = .ok (.iconst 1, 1) := by decide +kernel
theorem dX11_settleOnes_47 : decode cX11_settleOnes 47 = .ok (.goto 4, 3) := by decide +kernel
theorem dX11_settleOnes_50 : decode cX11_settleOnes 50 = .ok (.iconst 0, 1) := by decide +kernel
theorem dX11_settleOnes_51 : decode cX11_settleOnes 51 = .ok (.istore_n 2, 1) := by decide +kernel
theorem dX11_settleOnes_52 : decode cX11_settleOnes 52 = .ok (.iload_n 2, 1) := by decide +kernel
theorem dX11_settleOnes_53 : decode cX11_settleOnes 53 = .ok (.ifCond .eq 7, 3) := by decide +kernel
theorem dX11_settleOnes_56 : decode cX11_settleOnes 56 = .ok (.aload_n 0, 1) := by decide +kernel
theorem dX11_settleOnes_57 : decode cX11_settleOnes 57 = .ok (.invokevirtual 219, 3) := by decide +kernel
theorem dX11_settleOnes_60 : decode cX11_settleOnes 60 = .ok (.goto (-58), 3) := by decide +kernel
theorem dX11_settleOnes_63 : decode cX11_settleOnes 63 = .ok (.return_, 1) := by decide +kernel
theorem dX11_begin_0 : decode cX11_begin 0 = .ok (.aload_n 0, 1) := by decide +kernel
theorem dX11_begin_1 : decode cX11_begin 1 = .ok (.aload_n 0, 1) := by decide +kernel
theorem dX11_begin_2 : decode cX11_begin 2 = .ok (.getfield 147, 3) := by decide +kernel
theorem dX11_begin_5 : decode cX11_begin 5 = .ok (.putfield 157, 3) := by decide +kernel
theorem dX11_begin_8 : decode cX11_begin 8 = .ok (.aload_n 0, 1) := by decide +kernel
theorem dX11_begin_9 : decode cX11_begin 9 = .ok (.iconst 0, 1) := by decide +kernel
theorem dX11_begin_10 : decode cX11_begin 10 = .ok (.putfield 147, 3) := by decide +kernel
theorem dX11_begin_13 : decode cX11_begin 13 = .ok (.aload_n 0, 1) := by decide +kernel
theorem dX11_begin_14 : decode cX11_begin 14 = .ok (.iconst 0, 1) := by decide +kernel
theorem dX11_begin_15 : decode cX11_begin 15 = .ok (.putfield 154, 3) := by decide +kernel
theorem dX11_begin_18 : decode cX11_begin 18 = .ok (.aload_n 0, 1) := by decide +kernel
theorem dX11_begin_19 : decode cX11_begin 19 = .ok (.iconst 0, 1) := by decide +kernel
theorem dX11_begin_20 : decode cX11_begin 20 = .ok (.putfield 187, 3) := by decide +kernel
theorem dX11_begin_23 : decode cX11_begin 23 = .ok (.aload_n 0, 1) := by decide +kernel
theorem dX11_begin_24 : decode cX11_begin 24 = .ok (.iconst (-1), 1) := by decide +kernel
theorem dX11_begin_25 : decode cX11_begin 25 = .ok (.putfield 16, 3) := by decide +kernel
theorem dX11_begin_28 : decode cX11_begin 28 = .ok (.return_, 1) := by decide +kernel
theorem dX11_grades_0 : decode cX11_grades 0 = .ok (.aload_n 0, 1) := by decide +kernel
theorem dX11_grades_1 : decode cX11_grades 1 = .ok (.invokevirtual 259, 3) := by decide +kernel
theorem dX11_grades_4 : decode cX11_grades 4 = .ok (.aload_n 0, 1) := by decide +kernel
theorem dX11_grades_5 : decode cX11_grades 5 = .ok (.iconst 0, 1) := by decide +kernel
theorem dX11_grades_6 : decode cX11_grades 6 = .ok (.putfield 262, 3) := by decide +kernel
theorem dX11_grades_9 : decode cX11_grades 9 = .ok (.aload_n 0, 1) := by decide +kernel
theorem dX11_grades_10 : decode cX11_grades 10 = .ok (.iconst 0, 1) := by decide +kernel
theorem dX11_grades_11 : decode cX11_grades 11 = .ok (.putfield 200, 3) := by decide +kernel
theorem dX11_grades_14 : decode cX11_grades 14 = .ok (.aload_n 0, 1) := by decide +kernel
theorem dX11_grades_15 : decode cX11_grades 15 = .ok (.iconst 0, 1) := by decide +kernel
theorem dX11_grades_16 : decode cX11_grades 16 = .ok (.putfield 245, 3) := by decide +kernel
theorem dX11_grades_19 : decode cX11_grades 19 = .ok (.aload_n 0, 1) := by decide +kernel
theorem dX11_grades_20 : decode cX11_grades 20 = .ok (.invokevirtual 206, 3) := by decide +kernel
theorem dX11_grades_23 : decode cX11_grades 23 = .ok (.aload_n 0, 1) := by decide +kernel
theorem dX11_grades_24 : decode cX11_grades 24 = .ok (.getfield 187, 3) := by decide +kernel
theorem dX11_grades_27 : decode cX11_grades 27 = .ok (.ifCond .ne 206, 3) := by decide +kernel
theorem dX11_grades_30 : decode cX11_grades 30 = .ok (.aload_n 0, 1) := by decide +kernel
theorem dX11_grades_31 : decode cX11_grades 31 = .ok (.getfield 174, 3) := by decide +kernel
theorem dX11_grades_34 : decode cX11_grades 34 = .ok (.ifCond .eq 199, 3) := by decide +kernel
theorem dX11_grades_37 : decode cX11_grades 37 = .ok (.aload_n 0, 1) := by decide +kernel
theorem dX11_grades_38 : decode cX11_grades 38 = .ok (.ldc2_w 265, 3) := by decide +kernel
theorem dX11_grades_41 : decode cX11_grades 41 = .ok (.invokevirtual 241, 3) := by decide +kernel
theorem dX11_grades_44 : decode cX11_grades 44 = .ok (.ifCond .eq 12, 3) := by decide +kernel
theorem dX11_grades_47 : decode cX11_grades 47 = .ok (.aload_n 0, 1) := by decide +kernel
theorem dX11_grades_48 : decode cX11_grades 48 = .ok (.getfield 262, 3) := by decide +kernel
theorem dX11_grades_51 : decode cX11_grades 51 = .ok (.bipush 8, 2) := by decide +kernel
theorem dX11_grades_53 : decode cX11_grades 53 = .ok (.if_icmp .ne 8, 3) := by decide +kernel
theorem dX11_grades_56 : decode cX11_grades 56 = .ok (.aload_n 0, 1) := by decide +kernel
theorem dX11_grades_57 : decode cX11_grades 57 = .ok (.iconst 2, 1) := by decide +kernel
theorem dX11_grades_58 : decode cX11_grades 58 = .ok (.invokevirtual 203, 3) := by decide +kernel
theorem dX11_grades_61 : decode cX11_grades 61 = .ok (.aload_n 0, 1) := by decide +kernel
theorem dX11_grades_62 : decode cX11_grades 62 = .ok (.getfield 187, 3) := by decide +kernel
theorem dX11_grades_65 : decode cX11_grades 65 = .ok (.ifCond .le 5, 3) := by decide +kernel
theorem dX11_grades_68 : decode cX11_grades 68 = .ok (.iconst (-1), 1) := by decide +kernel
theorem dX11_grades_69 : decode cX11_grades 69 = .ok (.ireturn, 1) := by decide +kernel
theorem dX11_grades_70 : decode cX11_grades 70 = .ok (.aload_n 0, 1) := by decide +kernel
theorem dX11_grades_71 : decode cX11_grades 71 = .ok (.invokevirtual 206, 3) := by decide +kernel
theorem dX11_grades_74 : decode cX11_grades 74 = .ok (.aload_n 0, 1) := by decide +kernel
theorem dX11_grades_75 : decode cX11_grades 75 = .ok (.iconst 1, 1) := by decide +kernel
theorem dX11_grades_76 : decode cX11_grades 76 = .ok (.bipush 100, 2) := by decide +kernel
theorem dX11_grades_78 : decode cX11_grades 78 = .ok (.invokevirtual 267, 3) := by decide +kernel
theorem dX11_grades_81 : decode cX11_grades 81 = .ok (.istore_n 1, 1) := by decide +kernel
theorem dX11_grades_82 : decode cX11_grades 82 = .ok (.aload_n 0, 1) := by decide +kernel
theorem dX11_grades_83 : decode cX11_grades 83 = .ok (.getfield 187, 3) := by decide +kernel
theorem dX11_grades_86 : decode cX11_grades 86 = .ok (.ifCond .ne 18, 3) := by decide +kernel
theorem dX11_grades_89 : decode cX11_grades 89 = .ok (.aload_n 0, 1) := by decide +kernel
theorem dX11_grades_90 : decode cX11_grades 90 = .ok (.ldc2_w 271, 3) := by decide +kernel
theorem dX11_grades_93 : decode cX11_grades 93 = .ok (.invokevirtual 241, 3) := by decide +kernel
theorem dX11_grades_96 : decode cX11_grades 96 = .ok (.ifCond .ne 8, 3) := by decide +kernel
theorem dX11_grades_99 : decode cX11_grades 99 = .ok (.aload_n 0, 1) := by decide +kernel
theorem dX11_grades_100 : decode cX11_grades 100 = .ok (.iconst 2, 1) := by decide +kernel
theorem dX11_grades_101 : decode cX11_grades 101 = .ok (.invokevirtual 203, 3) := by decide +kernel
theorem dX11_grades_104 : decode cX11_grades 104 = .ok (.aload_n 0, 1) := by decide +kernel
theorem dX11_grades_105 : decode cX11_grades 105 = .ok (.getfield 187, 3) := by decide +kernel
theorem dX11_grades_108 : decode cX11_grades 108 = .ok (.ifCond .le 5, 3) := by decide +kernel
theorem dX11_grades_111 : decode cX11_grades 111 = .ok (.iconst (-1), 1) := by decide +kernel
theorem dX11_grades_112 : decode cX11_grades 112 = .ok (.ireturn, 1) := by decide +kernel
theorem dX11_grades_113 : decode cX11_grades 113 = .ok (.aload_n 0, 1) := by decide +kernel
theorem dX11_grades_114 : decode cX11_grades 114 = .ok (.invokevirtual 206, 3) := by decide +kernel
theorem dX11_grades_117 : decode cX11_grades 117 = .ok (.aload_n 0, 1) := by decide +kernel
theorem dX11_grades_118 : decode cX11_grades 118 = .ok (.iconst 1, 1) := by decide +kernel
theorem dX11_grades_119 : decode cX11_grades 119 = .ok (.sipush 9999, 3) := by decide +kernel
theorem dX11_grades_122 : decode cX11_grades 122 = .ok (.invokevirtual 267, 3) := by decide +kernel
theorem dX11_grades_125 : decode cX11_grades 125 = .ok (.istore_n 2, 1) := by decide +kernel
theorem dX11_grades_126 : decode cX11_grades 126 = .ok (.aload_n 0, 1) := by decide +kernel
theorem dX11_grades_127 : decode cX11_grades 127 = .ok (.getfield 187, 3) := by decide +kernel
theorem dX11_grades_130 : decode cX11_grades 130 = .ok (.ifCond .le 5, 3) := by decide +kernel
theorem dX11_grades_133 : decode cX11_grades 133 = .ok (.iconst (-1), 1) := by decide +kernel
theorem dX11_grades_134 : decode cX11_grades 134 = .ok (.ireturn, 1) := by decide +kernel
theorem dX11_grades_135 : decode cX11_grades 135 = .ok (.aload_n 0, 1) := by decide +kernel
theorem dX11_grades_136 : decode cX11_grades 136 = .ok (.getfield 35, 3) := by decide +kernel
theorem dX11_grades_139 : decode cX11_grades 139 = .ok (.aload_n 0, 1) := by decide +kernel
theorem dX11_grades_140 : decode cX11_grades 140 = .ok (.getfield 262, 3) := by decide +kernel
theorem dX11_grades_143 : decode cX11_grades 143 = .ok (.iload_n 1, 1) := by decide +kernel
theorem dX11_grades_144 : decode cX11_grades 144 = .ok (.iastore, 1) := by decide +kernel
theorem dX11_grades_145 : decode cX11_grades 145 = .ok (.aload_n 0, 1) := by decide +kernel
theorem dX11_grades_146 : decode cX11_grades 146 = .ok (.getfield 38, 3) := by decide +kernel
theorem dX11_grades_149 : decode cX11_grades 149 = .ok (.aload_n 0, 1) := by decide +kernel
theorem dX11_grades_150 : decode cX11_grades 150 = .ok (.getfield 262, 3) := by decide +kernel
theorem dX11_grades_153 : decode cX11_grades 153 = .ok (.iload_n 2, 1) := by decide +kernel
theorem dX11_grades_154 : decode cX11_grades 154 = .ok (.iastore, 1) := by decide +kernel
theorem dX11_grades_155 : decode cX11_grades 155 = .ok (.aload_n 0, 1) := by decide +kernel
theorem dX11_grades_156 : decode cX11_grades 156 = .ok (.getfield 47, 3) := by decide +kernel
theorem dX11_grades_159 : decode cX11_grades 159 = .ok (.aload_n 0, 1) := by decide +kernel
theorem dX11_grades_160 : decode cX11_grades 160 = .ok (.getfield 262, 3) := by decide +kernel
theorem dX11_grades_163 : decode cX11_grades 163 = .ok (.aload_n 0, 1) := by decide +kernel
theorem dX11_grades_164 : decode cX11_grades 164 = .ok (.getfield 200, 3) := by decide +kernel
theorem dX11_grades_167 : decode cX11_grades 167 = .ok (.iastore, 1) := by decide +kernel
theorem dX11_grades_168 : decode cX11_grades 168 = .ok (.aload_n 0, 1) := by decide +kernel
theorem dX11_grades_169 : decode cX11_grades 169 = .ok (.ldc2_w 273, 3) := by decide +kernel
theorem dX11_grades_172 : decode cX11_grades 172 = .ok (.invokevirtual 241, 3) := by decide +kernel
theorem dX11_grades_175 : decode cX11_grades 175 = .ok (.ifCond .eq 11, 3) := by decide +kernel
theorem dX11_grades_178 : decode cX11_grades 178 = .ok (.aload_n 0, 1) := by decide +kernel
theorem dX11_grades_179 : decode cX11_grades 179 = .ok (.invokevirtual 206, 3) := by decide +kernel
theorem dX11_grades_182 : decode cX11_grades 182 = .ok (.aload_n 0, 1) := by decide +kernel
theorem dX11_grades_183 : decode cX11_grades 183 = .ok (.invokevirtual 275, 3) := by decide +kernel
theorem dX11_grades_186 : decode cX11_grades 186 = .ok (.aload_n 0, 1) := by decide +kernel
theorem dX11_grades_187 : decode cX11_grades 187 = .ok (.getfield 187, 3) := by decide +kernel
theorem dX11_grades_190 : decode cX11_grades 190 = .ok (.ifCond .ne 17, 3) := by decide +kernel
theorem dX11_grades_193 : decode cX11_grades 193 = .ok (.aload_n 0, 1) := by decide +kernel
theorem dX11_grades_194 : decode cX11_grades 194 = .ok (.getfield 174, 3) := by decide +kernel
theorem dX11_grades_197 : decode cX11_grades 197 = .ok (.bipush 59, 2) := by decide +kernel
theorem dX11_grades_199 : decode cX11_grades 199 = .ok (.if_icmp .eq 8, 3) := by decide +kernel
theorem dX11_grades_202 : decode cX11_grades 202 = .ok (.aload_n 0, 1) := by decide +kernel
theorem dX11_grades_203 : decode cX11_grades 203 = .ok (.iconst 2, 1) := by decide +kernel
theorem dX11_grades_204 : decode cX11_grades 204 = .ok (.invokevirtual 203, 3) := by decide +kernel
theorem dX11_grades_207 : decode cX11_grades 207 = .ok (.aload_n 0, 1) := by decide +kernel
theorem dX11_grades_208 : decode cX11_grades 208 = .ok (.getfield 187, 3) := by decide +kernel
theorem dX11_grades_211 : decode cX11_grades 211 = .ok (.ifCond .le 5, 3) := by decide +kernel
theorem dX11_grades_214 : decode cX11_grades 214 = .ok (.iconst (-1), 1) := by decide +kernel
theorem dX11_grades_215 : decode cX11_grades 215 = .ok (.ireturn, 1) := by decide +kernel
theorem dX11_grades_216 : decode cX11_grades 216 = .ok (.aload_n 0, 1) := by decide +kernel
theorem dX11_grades_217 : decode cX11_grades 217 = .ok (.invokevirtual 206, 3) := by decide +kernel
theorem dX11_grades_220 : decode cX11_grades 220 = .ok (.aload_n 0, 1) := by decide +kernel
theorem dX11_grades_221 : decode cX11_grades 221 = .ok (.dup, 1) := by decide +kernel
theorem dX11_grades_222 : decode cX11_grades 222 = .ok (.getfield 262, 3) := by decide +kernel
theorem dX11_grades_225 : decode cX11_grades 225 = .ok (.iconst 1, 1) := by decide +kernel
theorem dX11_grades_226 : decode cX11_grades 226 = .ok (.iadd, 1) := by decide +kernel
theorem dX11_grades_227 : decode cX11_grades 227 = .ok (.putfield 262, 3) := by decide +kernel
theorem dX11_grades_230 : decode cX11_grades 230 = .ok (.goto (-207), 3) := by decide +kernel
theorem dX11_grades_233 : decode cX11_grades 233 = .ok (.aload_n 0, 1) := by decide +kernel
theorem dX11_grades_234 : decode cX11_grades 234 = .ok (.getfield 187, 3) := by decide +kernel
theorem dX11_grades_237 : decode cX11_grades 237 = .ok (.ifCond .le 5, 3) := by decide +kernel
theorem dX11_grades_240 : decode cX11_grades 240 = .ok (.iconst (-1), 1) := by decide +kernel
theorem dX11_grades_241 : decode cX11_grades 241 = .ok (.ireturn, 1) := by decide +kernel
theorem dX11_grades_242 : decode cX11_grades 242 = .ok (.aload_n 0, 1) := by decide +kernel
theorem dX11_grades_243 : decode cX11_grades 243 = .ok (.getfield 47, 3) := by decide +kernel
theorem dX11_grades_246 : decode cX11_grades 246 = .ok (.aload_n 0, 1) := by decide +kernel
theorem dX11_grades_247 : decode cX11_grades 247 = .ok (.getfield 262, 3) := by decide +kernel
theorem dX11_grades_250 : decode cX11_grades 250 = .ok (.aload_n 0, 1) := by decide +kernel
theorem dX11_grades_251 : decode cX11_grades 251 = .ok (.getfield 200, 3) := by decide +kernel
theorem dX11_grades_254 : decode cX11_grades 254 = .ok (.iastore, 1) := by decide +kernel
theorem dX11_grades_255 : decode cX11_grades 255 = .ok (.iconst 0, 1) := by decide +kernel
theorem dX11_grades_256 : decode cX11_grades 256 = .ok (.istore_n 1, 1) := by decide +kernel
theorem dX11_grades_257 : decode cX11_grades 257 = .ok (.iload_n 1, 1) := by decide +kernel
theorem dX11_grades_258 : decode cX11_grades 258 = .ok (.aload_n 0, 1) := by decide +kernel
theorem dX11_grades_259 : decode cX11_grades 259 = .ok (.getfield 200, 3) := by decide +kernel
theorem dX11_grades_262 : decode cX11_grades 262 = .ok (.if_icmp .ge 33, 3) := by decide +kernel
theorem dX11_grades_265 : decode cX11_grades 265 = .ok (.aload_n 0, 1) := by decide +kernel
theorem dX11_grades_266 : decode cX11_grades 266 = .ok (.getfield 26, 3) := by decide +kernel
theorem dX11_grades_269 : decode cX11_grades 269 = .ok (.iload_n 1, 1) := by decide +kernel
theorem dX11_grades_270 : decode cX11_grades 270 = .ok (.aload_n 0, 1) := by decide +kernel
theorem dX11_grades_271 : decode cX11_grades 271 = .ok (.getfield 41, 3) := by decide +kernel
theorem dX11_grades_274 : decode cX11_grades 274 = .ok (.iload_n 1, 1) := by decide +kernel
theorem dX11_grades_275 : decode cX11_grades 275 = .ok (.iaload, 1) := by decide +kernel
theorem dX11_grades_276 : decode cX11_grades 276 = .ok (.iastore, 1) := by decide +kernel
theorem dX11_grades_277 : decode cX11_grades 277 = .ok (.aload_n 0, 1) := by decide +kernel
theorem dX11_grades_278 : decode cX11_grades 278 = .ok (.getfield 29, 3) := by decide +kernel
theorem dX11_grades_281 : decode cX11_grades 281 = .ok (.iload_n 1, 1) := by decide +kernel
theorem dX11_grades_282 : decode cX11_grades 282 = .ok (.aload_n 0, 1) := by decide +kernel
theorem dX11_grades_283 : decode cX11_grades 283 = .ok (.getfield 44, 3) := by decide +kernel
theorem dX11_grades_286 : decode cX11_grades 286 = .ok (.iload_n 1, 1) := by decide +kernel
theorem dX11_grades_287 : decode cX11_grades 287 = .ok (.iaload, 1) := by decide +kernel
theorem dX11_grades_288 : decode cX11_grades 288 = .ok (.iastore, 1) := by decide +kernel
theorem dX11_grades_289 : decode cX11_grades 289 = .ok (.iinc 1 1, 3) := by decide +kernel
theorem dX11_grades_292 : decode cX11_grades 292 = .ok (.goto (-35), 3) := by decide +kernel
theorem dX11_grades_295 : decode cX11_grades 295 = .ok (.iconst 0, 1) := by decide +kernel
theorem dX11_grades_296 : decode cX11_grades 296 = .ok (.istore_n 1, 1) := by decide +kernel
theorem dX11_grades_297 : decode cX11_grades 297 = .ok (.iload_n 1, 1) := by decide +kernel
theorem dX11_grades_298 : decode cX11_grades 298 = .ok (.aload_n 0, 1) := by decide +kernel
theorem dX11_grades_299 : decode cX11_grades 299 = .ok (.getfield 262, 3) := by decide +kernel
theorem dX11_grades_302 : decode cX11_grades 302 = .ok (.if_icmp .ge 33, 3) := by decide +kernel
theorem dX11_grades_305 : decode cX11_grades 305 = .ok (.aload_n 0, 1) := by decide +kernel
theorem dX11_grades_306 : decode cX11_grades 306 = .ok (.getfield 20, 3) := by decide +kernel
theorem dX11_grades_309 : decode cX11_grades 309 = .ok (.iload_n 1, 1) := by decide +kernel
theorem dX11_grades_310 : decode cX11_grades 310 = .ok (.aload_n 0, 1) := by decide +kernel
theorem dX11_grades_311 : decode cX11_grades 311 = .ok (.getfield 35, 3) := by decide +kernel
theorem dX11_grades_314 : decode cX11_grades 314 = .ok (.iload_n 1, 1) := by decide +kernel
theorem dX11_grades_315 : decode cX11_grades 315 = .ok (.iaload, 1) := by decide +kernel
theorem dX11_grades_316 : decode cX11_grades 316 = .ok (.iastore, 1) := by decide +kernel
theorem dX11_grades_317 : decode cX11_grades 317 = .ok (.aload_n 0, 1) := by decide +kernel
theorem dX11_grades_318 : decode cX11_grades 318 = .ok (.getfield 23, 3) := by decide +kernel
theorem dX11_grades_321 : decode cX11_grades 321 = .ok (.iload_n 1, 1) := by decide +kernel
theorem dX11_grades_322 : decode cX11_grades 322 = .ok (.aload_n 0, 1) := by decide +kernel
theorem dX11_grades_323 : decode cX11_grades 323 = .ok (.getfield 38, 3) := by decide +kernel
theorem dX11_grades_326 : decode cX11_grades 326 = .ok (.iload_n 1, 1) := by decide +kernel
theorem dX11_grades_327 : decode cX11_grades 327 = .ok (.iaload, 1) := by decide +kernel
theorem dX11_grades_328 : decode cX11_grades 328 = .ok (.iastore, 1) := by decide +kernel
theorem dX11_grades_329 : decode cX11_grades 329 = .ok (.iinc 1 1, 3) := by decide +kernel
theorem dX11_grades_332 : decode cX11_grades 332 = .ok (.goto (-35), 3) := by decide +kernel
theorem dX11_grades_335 : decode cX11_grades 335 = .ok (.iconst 0, 1) := by decide +kernel
theorem dX11_grades_336 : decode cX11_grades 336 = .ok (.istore_n 1, 1) := by decide +kernel
theorem dX11_grades_337 : decode cX11_grades 337 = .ok (.iload_n 1, 1) := by decide +kernel
theorem dX11_grades_338 : decode cX11_grades 338 = .ok (.aload_n 0, 1) := by decide +kernel
theorem dX11_grades_339 : decode cX11_grades 339 = .ok (.getfield 262, 3) := by decide +kernel
theorem dX11_grades_342 : decode cX11_grades 342 = .ok (.if_icmp .gt 21, 3) := by decide +kernel
theorem dX11_grades_345 : decode cX11_grades 345 = .ok (.aload_n 0, 1) := by decide +kernel
theorem dX11_grades_346 : decode cX11_grades 346 = .ok (.getfield 32, 3) := by decide +kernel
theorem dX11_grades_349 : decode cX11_grades 349 = .ok (.iload_n 1, 1) := by decide +kernel
theorem dX11_grades_350 : decode cX11_grades 350 = .ok (.aload_n 0, 1) := by decide +kernel
theorem dX11_grades_351 : decode cX11_grades 351 = .ok (.getfield 47, 3) := by decide +kernel
theorem dX11_grades_354 : decode cX11_grades 354 = .ok (.iload_n 1, 1) := by decide +kernel
theorem dX11_grades_355 : decode cX11_grades 355 = .ok (.iaload, 1) := by decide +kernel
theorem dX11_grades_356 : decode cX11_grades 356 = .ok (.iastore, 1) := by decide +kernel
theorem dX11_grades_357 : decode cX11_grades 357 = .ok (.iinc 1 1, 3) := by decide +kernel
theorem dX11_grades_360 : decode cX11_grades 360 = .ok (.goto (-23), 3) := by decide +kernel
theorem dX11_grades_363 : decode cX11_grades 363 = .ok (.aload_n 0, 1) := by decide +kernel
theorem dX11_grades_364 : decode cX11_grades 364 = .ok (.aload_n 0, 1) := by decide +kernel
theorem dX11_grades_365 : decode cX11_grades 365 = .ok (.getfield 262, 3) := by decide +kernel
theorem dX11_grades_368 : decode cX11_grades 368 = .ok (.putfield 278, 3) := by decide +kernel
theorem dX11_grades_371 : decode cX11_grades 371 = .ok (.aload_n 0, 1) := by decide +kernel
theorem dX11_grades_372 : decode cX11_grades 372 = .ok (.getfield 278, 3) := by decide +kernel
theorem dX11_grades_375 : decode cX11_grades 375 = .ok (.ireturn, 1) := by decide +kernel
theorem dX11_fault_0 : decode cX11_fault 0 = .ok (.iload_n 1, 1) := by decide +kernel
theorem dX11_fault_1 : decode cX11_fault 1 = .ok (.ifCond .ne 10, 3) := by decide +kernel
theorem dX11_fault_4 : decode cX11_fault 4 = .ok (.aload_n 0, 1) := by decide +kernel
theorem dX11_fault_5 : decode cX11_fault 5 = .ok (.getfield 187, 3) := by decide +kernel
theorem dX11_fault_8 : decode cX11_fault 8 = .ok (.goto 16, 3) := by decide +kernel
theorem dX11_fault_11 : decode cX11_fault 11 = .ok (.iload_n 1, 1) := by decide +kernel
theorem dX11_fault_12 : decode cX11_fault 12 = .ok (.iconst 1, 1) := by decide +kernel
theorem dX11_fault_13 : decode cX11_fault 13 = .ok (.if_icmp .ne 10, 3) := by decide +kernel
theorem dX11_fault_16 : decode cX11_fault 16 = .ok (.aload_n 0, 1) := by decide +kernel
theorem dX11_fault_17 : decode cX11_fault 17 = .ok (.getfield 16, 3) := by decide +kernel
theorem dX11_fault_20 : decode cX11_fault 20 = .ok (.goto 4, 3) := by decide +kernel
theorem dX11_fault_23 : decode cX11_fault 23 = .ok (.iconst (-1), 1) := by decide +kernel
theorem dX11_fault_24 : decode cX11_fault 24 = .ok (.ireturn, 1) := by decide +kernel
theorem dX11_markOf_0 : decode cX11_markOf 0 = .ok (.iload_n 0, 1) := by decide +kernel
theorem dX11_markOf_1 : decode cX11_markOf 1 = .ok (.bipush 46, 2) := by decide +kernel
theorem dX11_markOf_3 : decode cX11_markOf 3 = .ok (.if_icmp .ne 7, 3) := by decide +kernel
theorem dX11_markOf_6 : decode cX11_markOf 6 = .ok (.iconst 4, 1) := by decide +kernel
theorem dX11_markOf_7 : decode cX11_markOf 7 = .ok (.goto 44, 3) := by decide +kernel
theorem dX11_markOf_10 : decode cX11_markOf 10 = .ok (.iload_n 0, 1) := by decide +kernel
theorem dX11_markOf_11 : decode cX11_markOf 11 = .ok (.bipush 107, 2) := by decide +kernel
theorem dX11_markOf_13 : decode cX11_markOf 13 = .ok (.if_icmp .ne 7, 3) := by decide +kernel
theorem dX11_markOf_16 : decode cX11_markOf 16 = .ok (.iconst 0, 1) := by decide +kernel
theorem dX11_markOf_17 : decode cX11_markOf 17 = .ok (.goto 34, 3) := by decide +kernel
theorem dX11_markOf_20 : decode cX11_markOf 20 = .ok (.iload_n 0, 1) := by decide +kernel
theorem dX11_markOf_21 : decode cX11_markOf 21 = .ok (.bipush 115, 2) := by decide +kernel
theorem dX11_markOf_23 : decode cX11_markOf 23 = .ok (.if_icmp .ne 7, 3) := by decide +kernel
theorem dX11_markOf_26 : decode cX11_markOf 26 = .ok (.iconst 1, 1) := by decide +kernel
theorem dX11_markOf_27 : decode cX11_markOf 27 = .ok (.goto 24, 3) := by decide +kernel
theorem dX11_markOf_30 : decode cX11_markOf 30 = .ok (.iload_n 0, 1) := by decide +kernel
theorem dX11_markOf_31 : decode cX11_markOf 31 = .ok (.bipush 111, 2) := by decide +kernel
theorem dX11_markOf_33 : decode cX11_markOf 33 = .ok (.if_icmp .ne 7, 3) := by decide +kernel
theorem dX11_markOf_36 : decode cX11_markOf 36 = .ok (.iconst 2, 1) := by decide +kernel
theorem dX11_markOf_37 : decode cX11_markOf 37 = .ok (.goto 14, 3) := by decide +kernel
theorem dX11_markOf_40 : decode cX11_markOf 40 = .ok (.iload_n 0, 1) := by decide +kernel
theorem dX11_markOf_41 : decode cX11_markOf 41 = .ok (.bipush 112, 2) := by decide +kernel
theorem dX11_markOf_43 : decode cX11_markOf 43 = .ok (.if_icmp .ne 7, 3) := by decide +kernel
theorem dX11_markOf_46 : decode cX11_markOf 46 = .ok (.iconst 3, 1) := by decide +kernel
theorem dX11_markOf_47 : decode cX11_markOf 47 = .ok (.goto 4, 3) := by decide +kernel
theorem dX11_markOf_50 : decode cX11_markOf 50 = .ok (.iconst (-1), 1) := by decide +kernel
theorem dX11_markOf_51 : decode cX11_markOf 51 = .ok (.ireturn, 1) := by decide +kernel
theorem dX11_leaf_0 : decode cX11_leaf 0 = .ok (.aload_n 0, 1) := by decide +kernel
theorem dX11_leaf_1 : decode cX11_leaf 1 = .ok (.invokevirtual 259, 3) := by decide +kernel
theorem dX11_leaf_4 : decode cX11_leaf 4 = .ok (.iconst 0, 1) := by decide +kernel
theorem dX11_leaf_5 : decode cX11_leaf 5 = .ok (.istore_n 1, 1) := by decide +kernel
theorem dX11_leaf_6 : decode cX11_leaf 6 = .ok (.iload_n 1, 1) := by decide +kernel
theorem dX11_leaf_7 : decode cX11_leaf 7 = .ok (.aload_n 0, 1) := by decide +kernel
theorem dX11_leaf_8 : decode cX11_leaf 8 = .ok (.getfield 157, 3) := by decide +kernel
theorem dX11_leaf_11 : decode cX11_leaf 11 = .ok (.if_icmp .ge 48, 3) := by decide +kernel
theorem dX11_leaf_14 : decode cX11_leaf 14 = .ok (.aload_n 0, 1) := by decide +kernel
theorem dX11_leaf_15 : decode cX11_leaf 15 = .ok (.getfield 187, 3) := by decide +kernel
theorem dX11_leaf_18 : decode cX11_leaf 18 = .ok (.ifCond .ne 41, 3) := by decide +kernel
theorem dX11_leaf_21 : decode cX11_leaf 21 = .ok (.iload_n 1, 1) := by decide +kernel
theorem dX11_leaf_22 : decode cX11_leaf 22 = .ok (.sipush 300, 3) := by decide +kernel
theorem dX11_leaf_25 : decode cX11_leaf 25 = .ok (.if_icmp .ge 18, 3) := by decide +kernel
theorem dX11_leaf_28 : decode cX11_leaf 28 = .ok (.aload_n 0, 1) := by decide +kernel
theorem dX11_leaf_29 : decode cX11_leaf 29 = .ok (.getfield 13, 3) := by decide +kernel
theorem dX11_leaf_32 : decode cX11_leaf 32 = .ok (.iload_n 1, 1) := by decide +kernel
theorem dX11_leaf_33 : decode cX11_leaf 33 = .ok (.iaload, 1) := by decide +kernel
theorem dX11_leaf_34 : decode cX11_leaf 34 = .ok (.invokestatic 281, 3) := by decide +kernel
theorem dX11_leaf_37 : decode cX11_leaf 37 = .ok (.ifCond .lt 6, 3) := by decide +kernel
theorem dX11_leaf_40 : decode cX11_leaf 40 = .ok (.goto 13, 3) := by decide +kernel
theorem dX11_leaf_43 : decode cX11_leaf 43 = .ok (.aload_n 0, 1) := by decide +kernel
theorem dX11_leaf_44 : decode cX11_leaf 44 = .ok (.iconst 1, 1) := by decide +kernel
theorem dX11_leaf_45 : decode cX11_leaf 45 = .ok (.putfield 187, 3) := by decide +kernel
theorem dX11_leaf_48 : decode cX11_leaf 48 = .ok (.aload_n 0, 1) := by decide +kernel
theorem dX11_leaf_49 : decode cX11_leaf 49 = .ok (.iload_n 1, 1) := by decide +kernel
theorem dX11_leaf_50 : decode cX11_leaf 50 = .ok (.putfield 16, 3) := by decide +kernel
theorem dX11_leaf_53 : decode cX11_leaf 53 = .ok (.iinc 1 1, 3) := by decide +kernel
theorem dX11_leaf_56 : decode cX11_leaf 56 = .ok (.goto (-50), 3) := by decide +kernel
theorem dX11_leaf_59 : decode cX11_leaf 59 = .ok (.aload_n 0, 1) := by decide +kernel
theorem dX11_leaf_60 : decode cX11_leaf 60 = .ok (.getfield 187, 3) := by decide +kernel
theorem dX11_leaf_63 : decode cX11_leaf 63 = .ok (.ifCond .le 5, 3) := by decide +kernel
theorem dX11_leaf_66 : decode cX11_leaf 66 = .ok (.iconst (-1), 1) := by decide +kernel
theorem dX11_leaf_67 : decode cX11_leaf 67 = .ok (.ireturn, 1) := by decide +kernel
theorem dX11_leaf_68 : decode cX11_leaf 68 = .ok (.iconst 0, 1) := by decide +kernel
theorem dX11_leaf_69 : decode cX11_leaf 69 = .ok (.istore_n 1, 1) := by decide +kernel
theorem dX11_leaf_70 : decode cX11_leaf 70 = .ok (.iload_n 1, 1) := by decide +kernel
theorem dX11_leaf_71 : decode cX11_leaf 71 = .ok (.aload_n 0, 1) := by decide +kernel
theorem dX11_leaf_72 : decode cX11_leaf 72 = .ok (.getfield 157, 3) := by decide +kernel
theorem dX11_leaf_75 : decode cX11_leaf 75 = .ok (.if_icmp .ge 24, 3) := by decide +kernel
theorem dX11_leaf_78 : decode cX11_leaf 78 = .ok (.aload_n 0, 1) := by decide +kernel
theorem dX11_leaf_79 : decode cX11_leaf 79 = .ok (.getfield 53, 3) := by decide +kernel
theorem dX11_leaf_82 : decode cX11_leaf 82 = .ok (.iload_n 1, 1) := by decide +kernel
theorem dX11_leaf_83 : decode cX11_leaf 83 = .ok (.aload_n 0, 1) := by decide +kernel
theorem dX11_leaf_84 : decode cX11_leaf 84 = .ok (.getfield 13, 3) := by decide +kernel
theorem dX11_leaf_87 : decode cX11_leaf 87 = .ok (.iload_n 1, 1) := by decide +kernel
theorem dX11_leaf_88 : decode cX11_leaf 88 = .ok (.iaload, 1) := by decide +kernel
theorem dX11_leaf_89 : decode cX11_leaf 89 = .ok (.invokestatic 281, 3) := by decide +kernel
theorem dX11_leaf_92 : decode cX11_leaf 92 = .ok (.iastore, 1) := by decide +kernel
theorem dX11_leaf_93 : decode cX11_leaf 93 = .ok (.iinc 1 1, 3) := by decide +kernel
theorem dX11_leaf_96 : decode cX11_leaf 96 = .ok (.goto (-26), 3) := by decide +kernel
theorem dX11_leaf_99 : decode cX11_leaf 99 = .ok (.aload_n 0, 1) := by decide +kernel
theorem dX11_leaf_100 : decode cX11_leaf 100 = .ok (.aload_n 0, 1) := by decide +kernel
theorem dX11_leaf_101 : decode cX11_leaf 101 = .ok (.getfield 157, 3) := by decide +kernel
theorem dX11_leaf_104 : decode cX11_leaf 104 = .ok (.putfield 284, 3) := by decide +kernel
theorem dX11_leaf_107 : decode cX11_leaf 107 = .ok (.aload_n 0, 1) := by decide +kernel
theorem dX11_leaf_108 : decode cX11_leaf 108 = .ok (.getfield 284, 3) := by decide +kernel
theorem dX11_leaf_111 : decode cX11_leaf 111 = .ok (.ireturn, 1) := by decide +kernel
theorem dX11_patch_0 : decode cX11_patch 0 = .ok (.iload_n 1, 1) := by decide +kernel
theorem dX11_patch_1 : decode cX11_patch 1 = .ok (.ifCond .lt 18, 3) := by decide +kernel
theorem dX11_patch_4 : decode cX11_patch 4 = .ok (.iload_n 1, 1) := by decide +kernel
theorem dX11_patch_5 : decode cX11_patch 5 = .ok (.iconst 3, 1) := by decide +kernel
theorem dX11_patch_6 : decode cX11_patch 6 = .ok (.if_icmp .gt 13, 3) := by decide +kernel
theorem dX11_patch_9 : decode cX11_patch 9 = .ok (.iload_n 2, 1) := by decide +kernel
theorem dX11_patch_10 : decode cX11_patch 10 = .ok (.ifCond .lt 9, 3) := by decide +kernel
theorem dX11_patch_13 : decode cX11_patch 13 = .ok (.iload_n 2, 1) := by decide +kernel
theorem dX11_patch_14 : decode cX11_patch 14 = .ok (.bipush 100, 2) := by decide +kernel
theorem dX11_patch_16 : decode cX11_patch 16 = .ok (.if_icmp .le 5, 3) := by decide +kernel
theorem dX11_patch_19 : decode cX11_patch 19 = .ok (.iconst 0, 1) := by decide +kernel
theorem dX11_patch_20 : decode cX11_patch 20 = .ok (.ireturn, 1) := by decide +kernel
theorem dX11_patch_21 : decode cX11_patch 21 = .ok (.aload_n 0, 1) := by decide +kernel
theorem dX11_patch_22 : decode cX11_patch 22 = .ok (.iload_n 1, 1) := by decide +kernel
theorem dX11_patch_23 : decode cX11_patch 23 = .ok (.putfield 287, 3) := by decide +kernel
theorem dX11_patch_26 : decode cX11_patch 26 = .ok (.aload_n 0, 1) := by decide +kernel
theorem dX11_patch_27 : decode cX11_patch 27 = .ok (.iload_n 2, 1) := by decide +kernel
theorem dX11_patch_28 : decode cX11_patch 28 = .ok (.putfield 56, 3) := by decide +kernel
theorem dX11_patch_31 : decode cX11_patch 31 = .ok (.iconst 1, 1) := by decide +kernel
theorem dX11_patch_32 : decode cX11_patch 32 = .ok (.ireturn, 1) := by decide +kernel
theorem dX11_holds_0 : decode cX11_holds 0 = .ok (.iconst 0, 1) := by decide +kernel
theorem dX11_holds_1 : decode cX11_holds 1 = .ok (.istore_n 2, 1) := by decide +kernel
theorem dX11_holds_2 : decode cX11_holds 2 = .ok (.aload_n 0, 1) := by decide +kernel
theorem dX11_holds_3 : decode cX11_holds 3 = .ok (.getfield 32, 3) := by decide +kernel
theorem dX11_holds_6 : decode cX11_holds 6 = .ok (.iload_n 1, 1) := by decide +kernel
theorem dX11_holds_7 : decode cX11_holds 7 = .ok (.iaload, 1) := by decide +kernel
theorem dX11_holds_8 : decode cX11_holds 8 = .ok (.istore_n 3, 1) := by decide +kernel
theorem dX11_holds_9 : decode cX11_holds 9 = .ok (.iload_n 3, 1) := by decide +kernel
theorem dX11_holds_10 : decode cX11_holds 10 = .ok (.aload_n 0, 1) := by decide +kernel
theorem dX11_holds_11 : decode cX11_holds 11 = .ok (.getfield 32, 3) := by decide +kernel
theorem dX11_holds_14 : decode cX11_holds 14 = .ok (.iload_n 1, 1) := by decide +kernel
theorem dX11_holds_15 : decode cX11_holds 15 = .ok (.iconst 1, 1) := by decide +kernel
theorem dX11_holds_16 : decode cX11_holds 16 = .ok (.iadd, 1) := by decide +kernel
theorem dX11_holds_17 : decode cX11_holds 17 = .ok (.iaload, 1) := by decide +kernel
theorem dX11_holds_18 : decode cX11_holds 18 = .ok (.if_icmp .ge 295, 3) := by decide +kernel
theorem dX11_holds_21 : decode cX11_holds 21 = .ok (.aload_n 0, 1) := by decide +kernel
theorem dX11_holds_22 : decode cX11_holds 22 = .ok (.getfield 26, 3) := by decide +kernel
theorem dX11_holds_25 : decode cX11_holds 25 = .ok (.iload_n 3, 1) := by decide +kernel
theorem dX11_holds_26 : decode cX11_holds 26 = .ok (.iaload, 1) := by decide +kernel
theorem dX11_holds_27 : decode cX11_holds 27 = .ok (.istore 4, 2) := by decide +kernel
theorem dX11_holds_29 : decode cX11_holds 29 = .ok (.iload 4, 2) := by decide +kernel
theorem dX11_holds_31 : decode cX11_holds 31 = .ok (.bipush 20, 2) := by decide +kernel
theorem dX11_holds_33 : decode cX11_holds 33 = .ok (.if_icmp .ge 39, 3) := by decide +kernel
theorem dX11_holds_36 : decode cX11_holds 36 = .ok (.aload_n 0, 1) := by decide +kernel
theorem dX11_holds_37 : decode cX11_holds 37 = .ok (.getfield 62, 3) := by decide +kernel
theorem dX11_holds_40 : decode cX11_holds 40 = .ok (.iload_n 2, 1) := by decide +kernel
theorem dX11_holds_41 : decode cX11_holds 41 = .ok (.iload 4, 2) := by decide +kernel
theorem dX11_holds_43 : decode cX11_holds 43 = .ok (.ifCond .ne 12, 3) := by decide +kernel
theorem dX11_holds_46 : decode cX11_holds 46 = .ok (.aload_n 0, 1) := by decide +kernel
theorem dX11_holds_47 : decode cX11_holds 47 = .ok (.getfield 29, 3) := by decide +kernel
theorem dX11_holds_50 : decode cX11_holds 50 = .ok (.iload_n 3, 1) := by decide +kernel
theorem dX11_holds_51 : decode cX11_holds 51 = .ok (.iaload, 1) := by decide +kernel
theorem dX11_holds_52 : decode cX11_holds 52 = .ok (.goto 13, 3) := by decide +kernel
theorem dX11_holds_55 : decode cX11_holds 55 = .ok (.aload_n 0, 1) := by decide +kernel
theorem dX11_holds_56 : decode cX11_holds 56 = .ok (.getfield 59, 3) := by decide +kernel
theorem dX11_holds_59 : decode cX11_holds 59 = .ok (.iload 4, 2) := by decide +kernel
theorem dX11_holds_61 : decode cX11_holds 61 = .ok (.bipush 10, 2) := by decide +kernel
theorem dX11_holds_63 : decode cX11_holds 63 = .ok (.isub, 1) := by decide +kernel
theorem dX11_holds_64 : decode cX11_holds 64 = .ok (.iaload, 1) := by decide +kernel
theorem dX11_holds_65 : decode cX11_holds 65 = .ok (.iastore, 1) := by decide +kernel
theorem dX11_holds_66 : decode cX11_holds 66 = .ok (.iinc 2 1, 3) := by decide +kernel
theorem dX11_holds_69 : decode cX11_holds 69 = .ok (.goto 238, 3) := by decide +kernel
theorem dX11_holds_72 : decode cX11_holds 72 = .ok (.iload 4, 2) := by decide +kernel
theorem dX11_holds_74 : decode cX11_holds 74 = .ok (.bipush 20, 2) := by decide +kernel
theorem dX11_holds_76 : decode cX11_holds 76 = .ok (.if_icmp .ne 24, 3) := by decide +kernel
theorem dX11_holds_79 : decode cX11_holds 79 = .ok (.aload_n 0, 1) := by decide +kernel
theorem dX11_holds_80 : decode cX11_holds 80 = .ok (.getfield 62, 3) := by decide +kernel
theorem dX11_holds_83 : decode cX11_holds 83 = .ok (.iload_n 2, 1) := by decide +kernel
theorem dX11_holds_84 : decode cX11_holds 84 = .ok (.iconst 1, 1) := by decide +kernel
theorem dX11_holds_85 : decode cX11_holds 85 = .ok (.isub, 1) := by decide +kernel
theorem dX11_holds_86 : decode cX11_holds 86 = .ok (.iconst 1, 1) := by decide +kernel
theorem dX11_holds_87 : decode cX11_holds 87 = .ok (.aload_n 0, 1) := by decide +kernel
theorem dX11_holds_88 : decode cX11_holds 88 = .ok (.getfield 62, 3) := by decide +kernel
theorem dX11_holds_91 : decode cX11_holds 91 = .ok (.iload_n 2, 1) := by decide +kernel
theorem dX11_holds_92 : decode cX11_holds 92 = .ok (.iconst 1, 1) := by decide +kernel
theorem dX11_holds_93 : decode cX11_holds 93 = .ok (.isub, 1) := by decide +kernel
theorem dX11_holds_94 : decode cX11_holds 94 = .ok (.iaload, 1) := by decide +kernel
theorem dX11_holds_95 : decode cX11_holds 95 = .ok (.isub, 1) := by decide +kernel
theorem dX11_holds_96 : decode cX11_holds 96 = .ok (.iastore, 1) := by decide +kernel
theorem dX11_holds_97 : decode cX11_holds 97 = .ok (.goto 210, 3) := by decide +kernel
theorem dX11_holds_100 : decode cX11_holds 100 = .ok (.iinc 2 (-1), 3) := by decide +kernel
theorem dX11_holds_103 : decode cX11_holds 103 = .ok (.aload_n 0, 1) := by decide +kernel
theorem dX11_holds_104 : decode cX11_holds 104 = .ok (.getfield 62, 3) := by decide +kernel
theorem dX11_holds_107 : decode cX11_holds 107 = .ok (.iload_n 2, 1) := by decide +kernel
theorem dX11_holds_108 : decode cX11_holds 108 = .ok (.iconst 1, 1) := by decide +kernel
theorem dX11_holds_109 : decode cX11_holds 109 = .ok (.isub, 1) := by decide +kernel
theorem dX11_holds_110 : decode cX11_holds 110 = .ok (.iaload, 1) := by decide +kernel
theorem dX11_holds_111 : decode cX11_holds 111 = .ok (.istore 5, 2) := by decide +kernel
theorem dX11_holds_113 : decode cX11_holds 113 = .ok (.aload_n 0, 1) := by decide +kernel
theorem dX11_holds_114 : decode cX11_holds 114 = .ok (.getfield 62, 3) := by decide +kernel
theorem dX11_holds_117 : decode cX11_holds 117 = .ok (.iload_n 2, 1) := by decide +kernel
theorem dX11_holds_118 : decode cX11_holds 118 = .ok (.iaload, 1) := by decide +kernel
theorem dX11_holds_119 : decode cX11_holds 119 = .ok (.istore 6, 2) := by decide +kernel
theorem dX11_holds_121 : decode cX11_holds 121 = .ok (.iload 4, 2) := by decide +kernel
theorem dX11_holds_123 : decode cX11_holds 123 = .ok (.tableswitch 171 21 26 #[37, 61, 86, 109, 132, 155], 37) := by decide +kernel
theorem dX11_holds_160 : decode cX11_holds 160 = .ok (.aload_n 0, 1) := by decide +kernel
theorem dX11_holds_161 : decode cX11_holds 161 = .ok (.getfield 62, 3) := by decide +kernel
theorem dX11_holds_164 : decode cX11_holds 164 = .ok (.iload_n 2, 1) := by decide +kernel
theorem dX11_holds_165 : decode cX11_holds 165 = .ok (.iconst 1, 1) := by decide +kernel
theorem dX11_holds_166 : decode cX11_holds 166 = .ok (.isub, 1) := by decide +kernel
theorem dX11_holds_167 : decode cX11_holds 167 = .ok (.iload 5, 2) := by decide +kernel
theorem dX11_holds_169 : decode cX11_holds 169 = .ok (.iload 6, 2) := by decide +kernel
theorem dX11_holds_171 : decode cX11_holds 171 = .ok (.iadd, 1) := by decide +kernel
theorem dX11_holds_172 : decode cX11_holds 172 = .ok (.ifCond .le 7, 3) := by decide +kernel
theorem dX11_holds_175 : decode cX11_holds 175 = .ok (.iconst 1, 1) := by decide +kernel
theorem dX11_holds_176 : decode cX11_holds 176 = .ok (.goto 4, 3) := by decide +kernel
theorem dX11_holds_179 : decode cX11_holds 179 = .ok (.iconst 0, 1) := by decide +kernel
theorem dX11_holds_180 : decode cX11_holds 180 = .ok (.iastore, 1) := by decide +kernel
theorem dX11_holds_181 : decode cX11_holds 181 = .ok (.goto 126, 3) := by decide +kernel
theorem dX11_holds_184 : decode cX11_holds 184 = .ok (.aload_n 0, 1) := by decide +kernel
theorem dX11_holds_185 : decode cX11_holds 185 = .ok (.getfield 62, 3) := by decide +kernel
theorem dX11_holds_188 : decode cX11_holds 188 = .ok (.iload_n 2, 1) := by decide +kernel
theorem dX11_holds_189 : decode cX11_holds 189 = .ok (.iconst 1, 1) := by decide +kernel
theorem dX11_holds_190 : decode cX11_holds 190 = .ok (.isub, 1) := by decide +kernel
theorem dX11_holds_191 : decode cX11_holds 191 = .ok (.iload 5, 2) := by decide +kernel
theorem dX11_holds_193 : decode cX11_holds 193 = .ok (.iload 6, 2) := by decide +kernel
theorem dX11_holds_195 : decode cX11_holds 195 = .ok (.iadd, 1) := by decide +kernel
theorem dX11_holds_196 : decode cX11_holds 196 = .ok (.iconst 1, 1) := by decide +kernel
theorem dX11_holds_197 : decode cX11_holds 197 = .ok (.if_icmp .le 7, 3) := by decide +kernel
theorem dX11_holds_200 : decode cX11_holds 200 = .ok (.iconst 1, 1) := by decide +kernel
theorem dX11_holds_201 : decode cX11_holds 201 = .ok (.goto 4, 3) := by decide +kernel
theorem dX11_holds_204 : decode cX11_holds 204 = .ok (.iconst 0, 1) := by decide +kernel
theorem dX11_holds_205 : decode cX11_holds 205 = .ok (.iastore, 1) := by decide +kernel
theorem dX11_holds_206 : decode cX11_holds 206 = .ok (.goto 101, 3) := by decide +kernel
theorem dX11_holds_209 : decode cX11_holds 209 = .ok (.aload_n 0, 1) := by decide +kernel
theorem dX11_holds_210 : decode cX11_holds 210 = .ok (.getfield 62, 3) := by decide +kernel
theorem dX11_holds_213 : decode cX11_holds 213 = .ok (.iload_n 2, 1) := by decide +kernel
theorem dX11_holds_214 : decode cX11_holds 214 = .ok (.iconst 1, 1) := by decide +kernel
theorem dX11_holds_215 : decode cX11_holds 215 = .ok (.isub, 1) := by decide +kernel
theorem dX11_holds_216 : decode cX11_holds 216 = .ok (.iload 5, 2) := by decide +kernel
theorem dX11_holds_218 : decode cX11_holds 218 = .ok (.iload 6, 2) := by decide +kernel
theorem dX11_holds_220 : decode cX11_holds 220 = .ok (.if_icmp .ne 7, 3) := by decide +kernel
theorem dX11_holds_223 : decode cX11_holds 223 = .ok (.iconst 1, 1) := by decide +kernel
theorem dX11_holds_224 : decode cX11_holds 224 = .ok (.goto 4, 3) := by decide +kernel
theorem dX11_holds_227 : decode cX11_holds 227 = .ok (.iconst 0, 1) := by decide +kernel
theorem dX11_holds_228 : decode cX11_holds 228 = .ok (.iastore, 1) := by decide +kernel
theorem dX11_holds_229 : decode cX11_holds 229 = .ok (.goto 78, 3) := by decide +kernel
theorem dX11_holds_232 : decode cX11_holds 232 = .ok (.aload_n 0, 1) := by decide +kernel
theorem dX11_holds_233 : decode cX11_holds 233 = .ok (.getfield 62, 3) := by decide +kernel
theorem dX11_holds_236 : decode cX11_holds 236 = .ok (.iload_n 2, 1) := by decide +kernel
theorem dX11_holds_237 : decode cX11_holds 237 = .ok (.iconst 1, 1) := by decide +kernel
theorem dX11_holds_238 : decode cX11_holds 238 = .ok (.isub, 1) := by decide +kernel
theorem dX11_holds_239 : decode cX11_holds 239 = .ok (.iload 5, 2) := by decide +kernel
theorem dX11_holds_241 : decode cX11_holds 241 = .ok (.iload 6, 2) := by decide +kernel
theorem dX11_holds_243 : decode cX11_holds 243 = .ok (.if_icmp .ge 7, 3) := by decide +kernel
theorem dX11_holds_246 : decode cX11_holds 246 = .ok (.iconst 1, 1) := by decide +kernel
theorem dX11_holds_247 : decode cX11_holds 247 = .ok (.goto 4, 3) := by decide +kernel
theorem dX11_holds_250 : decode cX11_holds 250 = .ok (.iconst 0, 1) := by decide +kernel
theorem dX11_holds_251 : decode cX11_holds 251 = .ok (.iastore, 1) := by decide +kernel
theorem dX11_holds_252 : decode cX11_holds 252 = .ok (.goto 55, 3) := by decide +kernel
theorem dX11_holds_255 : decode cX11_holds 255 = .ok (.aload_n 0, 1) := by decide +kernel
theorem dX11_holds_256 : decode cX11_holds 256 = .ok (.getfield 62, 3) := by decide +kernel
theorem dX11_holds_259 : decode cX11_holds 259 = .ok (.iload_n 2, 1) := by decide +kernel
theorem dX11_holds_260 : decode cX11_holds 260 = .ok (.iconst 1, 1) := by decide +kernel
theorem dX11_holds_261 : decode cX11_holds 261 = .ok (.isub, 1) := by decide +kernel
theorem dX11_holds_262 : decode cX11_holds 262 = .ok (.iload 5, 2) := by decide +kernel
theorem dX11_holds_264 : decode cX11_holds 264 = .ok (.iload 6, 2) := by decide +kernel
theorem dX11_holds_266 : decode cX11_holds 266 = .ok (.if_icmp .le 7, 3) := by decide +kernel
theorem dX11_holds_269 : decode cX11_holds 269 = .ok (.iconst 1, 1) := by decide +kernel
theorem dX11_holds_270 : decode cX11_holds 270 = .ok (.goto 4, 3) := by decide +kernel
theorem dX11_holds_273 : decode cX11_holds 273 = .ok (.iconst 0, 1) := by decide +kernel
theorem dX11_holds_274 : decode cX11_holds 274 = .ok (.iastore, 1) := by decide +kernel
theorem dX11_holds_275 : decode cX11_holds 275 = .ok (.goto 32, 3) := by decide +kernel
theorem dX11_holds_278 : decode cX11_holds 278 = .ok (.aload_n 0, 1) := by decide +kernel
theorem dX11_holds_279 : decode cX11_holds 279 = .ok (.getfield 62, 3) := by decide +kernel
theorem dX11_holds_282 : decode cX11_holds 282 = .ok (.iload_n 2, 1) := by decide +kernel
theorem dX11_holds_283 : decode cX11_holds 283 = .ok (.iconst 1, 1) := by decide +kernel
theorem dX11_holds_284 : decode cX11_holds 284 = .ok (.isub, 1) := by decide +kernel
theorem dX11_holds_285 : decode cX11_holds 285 = .ok (.iload 5, 2) := by decide +kernel
theorem dX11_holds_287 : decode cX11_holds 287 = .ok (.iload 6, 2) := by decide +kernel
theorem dX11_holds_289 : decode cX11_holds 289 = .ok (.iadd, 1) := by decide +kernel
theorem dX11_holds_290 : decode cX11_holds 290 = .ok (.iastore, 1) := by decide +kernel
theorem dX11_holds_291 : decode cX11_holds 291 = .ok (.goto 16, 3) := by decide +kernel
theorem dX11_holds_294 : decode cX11_holds 294 = .ok (.aload_n 0, 1) := by decide +kernel
theorem dX11_holds_295 : decode cX11_holds 295 = .ok (.getfield 62, 3) := by decide +kernel
theorem dX11_holds_298 : decode cX11_holds 298 = .ok (.iload_n 2, 1) := by decide +kernel
theorem dX11_holds_299 : decode cX11_holds 299 = .ok (.iconst 1, 1) := by decide +kernel
theorem dX11_holds_300 : decode cX11_holds 300 = .ok (.isub, 1) := by decide +kernel
theorem dX11_holds_301 : decode cX11_holds 301 = .ok (.iload 5, 2) := by decide +kernel
theorem dX11_holds_303 : decode cX11_holds 303 = .ok (.iload 6, 2) := by decide +kernel
theorem dX11_holds_305 : decode cX11_holds 305 = .ok (.isub, 1) := by decide +kernel
theorem dX11_holds_306 : decode cX11_holds 306 = .ok (.iastore, 1) := by decide +kernel
theorem dX11_holds_307 : decode cX11_holds 307 = .ok (.iinc 3 1, 3) := by decide +kernel
theorem dX11_holds_310 : decode cX11_holds 310 = .ok (.goto (-301), 3) := by decide +kernel
theorem dX11_holds_313 : decode cX11_holds 313 = .ok (.iload_n 2, 1) := by decide +kernel
theorem dX11_holds_314 : decode cX11_holds 314 = .ok (.ifCond .eq 13, 3) := by decide +kernel
theorem dX11_holds_317 : decode cX11_holds 317 = .ok (.aload_n 0, 1) := by decide +kernel
theorem dX11_holds_318 : decode cX11_holds 318 = .ok (.getfield 62, 3) := by decide +kernel
theorem dX11_holds_321 : decode cX11_holds 321 = .ok (.iconst 0, 1) := by decide +kernel
theorem dX11_holds_322 : decode cX11_holds 322 = .ok (.iaload, 1) := by decide +kernel
theorem dX11_holds_323 : decode cX11_holds 323 = .ok (.iconst 1, 1) := by decide +kernel
theorem dX11_holds_324 : decode cX11_holds 324 = .ok (.if_icmp .ne 7, 3) := by decide +kernel
theorem dX11_holds_327 : decode cX11_holds 327 = .ok (.iconst 1, 1) := by decide +kernel
theorem dX11_holds_328 : decode cX11_holds 328 = .ok (.goto 4, 3) := by decide +kernel
theorem dX11_holds_331 : decode cX11_holds 331 = .ok (.iconst 0, 1) := by decide +kernel
theorem dX11_holds_332 : decode cX11_holds 332 = .ok (.ireturn, 1) := by decide +kernel
theorem dX11_isSheet_0 : decode cX11_isSheet 0 = .ok (.iconst 0, 1) := by decide +kernel
theorem dX11_isSheet_1 : decode cX11_isSheet 1 = .ok (.istore 4, 2) := by decide +kernel
theorem dX11_isSheet_3 : decode cX11_isSheet 3 = .ok (.iload 4, 2) := by decide +kernel
theorem dX11_isSheet_5 : decode cX11_isSheet 5 = .ok (.iconst 5, 1) := by decide +kernel
theorem dX11_isSheet_6 : decode cX11_isSheet 6 = .ok (.if_icmp .ge 17, 3) := by decide +kernel
theorem dX11_isSheet_9 : decode cX11_isSheet 9 = .ok (.aload_n 0, 1) := by decide +kernel
theorem dX11_isSheet_10 : decode cX11_isSheet 10 = .ok (.getfield 59, 3) := by decide +kernel
theorem dX11_isSheet_13 : decode cX11_isSheet 13 = .ok (.iload 4, 2) := by decide +kernel
theorem dX11_isSheet_15 : decode cX11_isSheet 15 = .ok (.iconst 0, 1) := by decide +kernel
theorem dX11_isSheet_16 : decode cX11_isSheet 16 = .ok (.iastore, 1) := by decide +kernel
theorem dX11_isSheet_17 : decode cX11_isSheet 17 = .ok (.iinc 4 1, 3) := by decide +kernel
theorem dX11_isSheet_20 : decode cX11_isSheet 20 = .ok (.goto (-17), 3) := by decide +kernel
theorem dX11_isSheet_23 : decode cX11_isSheet 23 = .ok (.iconst 0, 1) := by decide +kernel
theorem dX11_isSheet_24 : decode cX11_isSheet 24 = .ok (.istore 4, 2) := by decide +kernel
theorem dX11_isSheet_26 : decode cX11_isSheet 26 = .ok (.iload_n 1, 1) := by decide +kernel
theorem dX11_isSheet_27 : decode cX11_isSheet 27 = .ok (.istore 5, 2) := by decide +kernel
theorem dX11_isSheet_29 : decode cX11_isSheet 29 = .ok (.iload 5, 2) := by decide +kernel
theorem dX11_isSheet_31 : decode cX11_isSheet 31 = .ok (.iload_n 1, 1) := by decide +kernel
theorem dX11_isSheet_32 : decode cX11_isSheet 32 = .ok (.aload_n 0, 1) := by decide +kernel
theorem dX11_isSheet_33 : decode cX11_isSheet 33 = .ok (.getfield 20, 3) := by decide +kernel
theorem dX11_isSheet_36 : decode cX11_isSheet 36 = .ok (.iload_n 2, 1) := by decide +kernel
theorem dX11_isSheet_37 : decode cX11_isSheet 37 = .ok (.iaload, 1) := by decide +kernel
theorem dX11_isSheet_38 : decode cX11_isSheet 38 = .ok (.iadd, 1) := by decide +kernel
theorem dX11_isSheet_39 : decode cX11_isSheet 39 = .ok (.if_icmp .ge 85, 3) := by decide +kernel
theorem dX11_isSheet_42 : decode cX11_isSheet 42 = .ok (.aload_n 0, 1) := by decide +kernel
theorem dX11_isSheet_43 : decode cX11_isSheet 43 = .ok (.getfield 53, 3) := by decide +kernel
theorem dX11_isSheet_46 : decode cX11_isSheet 46 = .ok (.iload 5, 2) := by decide +kernel
theorem dX11_isSheet_48 : decode cX11_isSheet 48 = .ok (.iaload, 1) := by decide +kernel
theorem dX11_isSheet_49 : decode cX11_isSheet 49 = .ok (.iconst 4, 1) := by decide +kernel
theorem dX11_isSheet_50 : decode cX11_isSheet 50 = .ok (.if_icmp .ne 10, 3) := by decide +kernel
theorem dX11_isSheet_53 : decode cX11_isSheet 53 = .ok (.iload 4, 2) := by decide +kernel
theorem dX11_isSheet_55 : decode cX11_isSheet 55 = .ok (.iconst 1, 1) := by decide +kernel
theorem dX11_isSheet_56 : decode cX11_isSheet 56 = .ok (.iadd, 1) := by decide +kernel
theorem dX11_isSheet_57 : decode cX11_isSheet 57 = .ok (.goto 4, 3) := by decide +kernel
theorem dX11_isSheet_60 : decode cX11_isSheet 60 = .ok (.iconst 0, 1) := by decide +kernel
theorem dX11_isSheet_61 : decode cX11_isSheet 61 = .ok (.istore 4, 2) := by decide +kernel
theorem dX11_isSheet_63 : decode cX11_isSheet 63 = .ok (.aload_n 0, 1) := by decide +kernel
theorem dX11_isSheet_64 : decode cX11_isSheet 64 = .ok (.getfield 53, 3) := by decide +kernel
theorem dX11_isSheet_67 : decode cX11_isSheet 67 = .ok (.iload 5, 2) := by decide +kernel
theorem dX11_isSheet_69 : decode cX11_isSheet 69 = .ok (.iaload, 1) := by decide +kernel
theorem dX11_isSheet_70 : decode cX11_isSheet 70 = .ok (.iconst 4, 1) := by decide +kernel
theorem dX11_isSheet_71 : decode cX11_isSheet 71 = .ok (.if_icmp .ge 19, 3) := by decide +kernel
theorem dX11_isSheet_74 : decode cX11_isSheet 74 = .ok (.aload_n 0, 1) := by decide +kernel
theorem dX11_isSheet_75 : decode cX11_isSheet 75 = .ok (.getfield 59, 3) := by decide +kernel
theorem dX11_isSheet_78 : decode cX11_isSheet 78 = .ok (.aload_n 0, 1) := by decide +kernel
theorem dX11_isSheet_79 : decode cX11_isSheet 79 = .ok (.getfield 53, 3) := by decide +kernel
theorem dX11_isSheet_82 : decode cX11_isSheet 82 = .ok (.iload 5, 2) := by decide +kernel
theorem dX11_isSheet_84 : decode cX11_isSheet 84 = .ok (.iaload, 1) := by decide +kernel
theorem dX11_isSheet_85 : decode cX11_isSheet 85 = .ok (.dup2, 1) := by decide +kernel
theorem dX11_isSheet_86 : decode cX11_isSheet 86 = .ok (.iaload, 1) := by decide +kernel
theorem dX11_isSheet_87 : decode cX11_isSheet 87 = .ok (.iconst 1, 1) := by decide +kernel
theorem dX11_isSheet_88 : decode cX11_isSheet 88 = .ok (.iadd, 1) := by decide +kernel
theorem dX11_isSheet_89 : decode cX11_isSheet 89 = .ok (.iastore, 1) := by decide +kernel
theorem dX11_isSheet_90 : decode cX11_isSheet 90 = .ok (.aload_n 0, 1) := by decide +kernel
theorem dX11_isSheet_91 : decode cX11_isSheet 91 = .ok (.getfield 59, 3) := by decide +kernel
theorem dX11_isSheet_94 : decode cX11_isSheet 94 = .ok (.iconst 4, 1) := by decide +kernel
theorem dX11_isSheet_95 : decode cX11_isSheet 95 = .ok (.iload 4, 2) := by decide +kernel
theorem dX11_isSheet_97 : decode cX11_isSheet 97 = .ok (.aload_n 0, 1) := by decide +kernel
theorem dX11_isSheet_98 : decode cX11_isSheet 98 = .ok (.getfield 59, 3) := by decide +kernel
theorem dX11_isSheet_101 : decode cX11_isSheet 101 = .ok (.iconst 4, 1) := by decide +kernel
theorem dX11_isSheet_102 : decode cX11_isSheet 102 = .ok (.iaload, 1) := by decide +kernel
theorem dX11_isSheet_103 : decode cX11_isSheet 103 = .ok (.if_icmp .le 8, 3) := by decide +kernel
theorem dX11_isSheet_106 : decode cX11_isSheet 106 = .ok (.iload 4, 2) := by decide +kernel
theorem dX11_isSheet_108 : decode cX11_isSheet 108 = .ok (.goto 9, 3) := by decide +kernel
theorem dX11_isSheet_111 : decode cX11_isSheet 111 = .ok (.aload_n 0, 1) := by decide +kernel
theorem dX11_isSheet_112 : decode cX11_isSheet 112 = .ok (.getfield 59, 3) := by decide +kernel
theorem dX11_isSheet_115 : decode cX11_isSheet 115 = .ok (.iconst 4, 1) := by decide +kernel
theorem dX11_isSheet_116 : decode cX11_isSheet 116 = .ok (.iaload, 1) := by decide +kernel
theorem dX11_isSheet_117 : decode cX11_isSheet 117 = .ok (.iastore, 1) := by decide +kernel
theorem dX11_isSheet_118 : decode cX11_isSheet 118 = .ok (.iinc 5 1, 3) := by decide +kernel
theorem dX11_isSheet_121 : decode cX11_isSheet 121 = .ok (.goto (-92), 3) := by decide +kernel
theorem dX11_isSheet_124 : decode cX11_isSheet 124 = .ok (.iload_n 3, 1) := by decide +kernel
theorem dX11_isSheet_125 : decode cX11_isSheet 125 = .ok (.aload_n 0, 1) := by decide +kernel
theorem dX11_isSheet_126 : decode cX11_isSheet 126 = .ok (.getfield 287, 3) := by decide +kernel
theorem dX11_isSheet_129 : decode cX11_isSheet 129 = .ok (.if_icmp .gt 13, 3) := by decide +kernel
theorem dX11_isSheet_132 : decode cX11_isSheet 132 = .ok (.iload_n 3, 1) := by decide +kernel
theorem dX11_isSheet_133 : decode cX11_isSheet 133 = .ok (.aload_n 0, 1) := by decide +kernel
theorem dX11_isSheet_134 : decode cX11_isSheet 134 = .ok (.getfield 59, 3) := by decide +kernel
theorem dX11_isSheet_137 : decode cX11_isSheet 137 = .ok (.iconst 2, 1) := by decide +kernel
theorem dX11_isSheet_138 : decode cX11_isSheet 138 = .ok (.iaload, 1) := by decide +kernel
theorem dX11_isSheet_139 : decode cX11_isSheet 139 = .ok (.if_icmp .le 5, 3) := by decide +kernel
theorem dX11_isSheet_142 : decode cX11_isSheet 142 = .ok (.iconst 0, 1) := by decide +kernel
theorem dX11_isSheet_143 : decode cX11_isSheet 143 = .ok (.ireturn, 1) := by decide +kernel
theorem dX11_isSheet_144 : decode cX11_isSheet 144 = .ok (.aload_n 0, 1) := by decide +kernel
theorem dX11_isSheet_145 : decode cX11_isSheet 145 = .ok (.getfield 59, 3) := by decide +kernel
theorem dX11_isSheet_148 : decode cX11_isSheet 148 = .ok (.iconst 2, 1) := by decide +kernel
theorem dX11_isSheet_149 : decode cX11_isSheet 149 = .ok (.dup2, 1) := by decide +kernel
theorem dX11_isSheet_150 : decode cX11_isSheet 150 = .ok (.iaload, 1) := by decide +kernel
theorem dX11_isSheet_151 : decode cX11_isSheet 151 = .ok (.iload_n 3, 1) := by decide +kernel
theorem dX11_isSheet_152 : decode cX11_isSheet 152 = .ok (.isub, 1) := by decide +kernel
theorem dX11_isSheet_153 : decode cX11_isSheet 153 = .ok (.iastore, 1) := by decide +kernel
theorem dX11_isSheet_154 : decode cX11_isSheet 154 = .ok (.aload_n 0, 1) := by decide +kernel
theorem dX11_isSheet_155 : decode cX11_isSheet 155 = .ok (.getfield 59, 3) := by decide +kernel
theorem dX11_isSheet_158 : decode cX11_isSheet 158 = .ok (.iconst 3, 1) := by decide +kernel
theorem dX11_isSheet_159 : decode cX11_isSheet 159 = .ok (.dup2, 1) := by decide +kernel
theorem dX11_isSheet_160 : decode cX11_isSheet 160 = .ok (.iaload, 1) := by decide +kernel
theorem dX11_isSheet_161 : decode cX11_isSheet 161 = .ok (.iload_n 3, 1) := by decide +kernel
theorem dX11_isSheet_162 : decode cX11_isSheet 162 = .ok (.iadd, 1) := by decide +kernel
theorem dX11_isSheet_163 : decode cX11_isSheet 163 = .ok (.iastore, 1) := by decide +kernel
theorem dX11_isSheet_164 : decode cX11_isSheet 164 = .ok (.aload_n 0, 1) := by decide +kernel
theorem dX11_isSheet_165 : decode cX11_isSheet 165 = .ok (.iload_n 2, 1) := by decide +kernel
theorem dX11_isSheet_166 : decode cX11_isSheet 166 = .ok (.invokevirtual 290, 3) := by decide +kernel
theorem dX11_isSheet_169 : decode cX11_isSheet 169 = .ok (.ireturn, 1) := by decide +kernel
theorem dX11_sheet_0 : decode cX11_sheet 0 = .ok (.iload_n 2, 1) := by decide +kernel
theorem dX11_sheet_1 : decode cX11_sheet 1 = .ok (.ifCond .lt 39, 3) := by decide +kernel
theorem dX11_sheet_4 : decode cX11_sheet 4 = .ok (.iload_n 2, 1) := by decide +kernel
theorem dX11_sheet_5 : decode cX11_sheet 5 = .ok (.aload_n 0, 1) := by decide +kernel
theorem dX11_sheet_6 : decode cX11_sheet 6 = .ok (.getfield 278, 3) := by decide +kernel
theorem dX11_sheet_9 : decode cX11_sheet 9 = .ok (.if_icmp .ge 31, 3) := by decide +kernel
theorem dX11_sheet_12 : decode cX11_sheet 12 = .ok (.iload_n 1, 1) := by decide +kernel
theorem dX11_sheet_13 : decode cX11_sheet 13 = .ok (.ifCond .lt 27, 3) := by decide +kernel
theorem dX11_sheet_16 : decode cX11_sheet 16 = .ok (.iload_n 1, 1) := by decide +kernel
theorem dX11_sheet_17 : decode cX11_sheet 17 = .ok (.aload_n 0, 1) := by decide +kernel
theorem dX11_sheet_18 : decode cX11_sheet 18 = .ok (.getfield 284, 3) := by decide +kernel
theorem dX11_sheet_21 : decode cX11_sheet 21 = .ok (.aload_n 0, 1) := by decide +kernel
theorem dX11_sheet_22 : decode cX11_sheet 22 = .ok (.getfield 20, 3) := by decide +kernel
theorem dX11_sheet_25 : decode cX11_sheet 25 = .ok (.iload_n 2, 1) := by decide +kernel
theorem dX11_sheet_26 : decode cX11_sheet 26 = .ok (.iaload, 1) := by decide +kernel
theorem dX11_sheet_27 : decode cX11_sheet 27 = .ok (.isub, 1) := by decide +kernel
theorem dX11_sheet_28 : decode cX11_sheet 28 = .ok (.if_icmp .gt 12, 3) := by decide +kernel
theorem dX11_sheet_31 : decode cX11_sheet 31 = .ok (.iload_n 3, 1) := by decide +kernel
theorem dX11_sheet_32 : decode cX11_sheet 32 = .ok (.ifCond .lt 8, 3) := by decide +kernel
theorem dX11_sheet_35 : decode cX11_sheet 35 = .ok (.iload_n 3, 1) := by decide +kernel
theorem dX11_sheet_36 : decode cX11_sheet 36 = .ok (.iconst 3, 1) := by decide +kernel
theorem dX11_sheet_37 : decode cX11_sheet 37 = .ok (.if_icmp .le 5, 3) := by decide +kernel
theorem dX11_sheet_40 : decode cX11_sheet 40 = .ok (.iconst (-1), 1) := by decide +kernel
theorem dX11_sheet_41 : decode cX11_sheet 41 = .ok (.ireturn, 1) := by decide +kernel
theorem dX11_sheet_42 : decode cX11_sheet 42 = .ok (.aload_n 0, 1) := by decide +kernel
theorem dX11_sheet_43 : decode cX11_sheet 43 = .ok (.iload_n 1, 1) := by decide +kernel
theorem dX11_sheet_44 : decode cX11_sheet 44 = .ok (.iload_n 2, 1) := by decide +kernel
theorem dX11_sheet_45 : decode cX11_sheet 45 = .ok (.iload_n 3, 1) := by decide +kernel
theorem dX11_sheet_46 : decode cX11_sheet 46 = .ok (.invokevirtual 293, 3) := by decide +kernel
theorem dX11_sheet_49 : decode cX11_sheet 49 = .ok (.ifCond .eq 7, 3) := by decide +kernel
theorem dX11_sheet_52 : decode cX11_sheet 52 = .ok (.iconst 1, 1) := by decide +kernel
theorem dX11_sheet_53 : decode cX11_sheet 53 = .ok (.goto 4, 3) := by decide +kernel
theorem dX11_sheet_56 : decode cX11_sheet 56 = .ok (.iconst 0, 1) := by decide +kernel
theorem dX11_sheet_57 : decode cX11_sheet 57 = .ok (.ireturn, 1) := by decide +kernel
theorem dX11_cell_0 : decode cX11_cell 0 = .ok (.iload_n 0, 1) := by decide +kernel
theorem dX11_cell_1 : decode cX11_cell 1 = .ok (.bipush 8, 2) := by decide +kernel
theorem dX11_cell_3 : decode cX11_cell 3 = .ok (.imul, 1) := by decide +kernel
theorem dX11_cell_4 : decode cX11_cell 4 = .ok (.iload_n 1, 1) := by decide +kernel
theorem dX11_cell_5 : decode cX11_cell 5 = .ok (.iadd, 1) := by decide +kernel
theorem dX11_cell_6 : decode cX11_cell 6 = .ok (.iconst 4, 1) := by decide +kernel
theorem dX11_cell_7 : decode cX11_cell 7 = .ok (.imul, 1) := by decide +kernel
theorem dX11_cell_8 : decode cX11_cell 8 = .ok (.iload_n 2, 1) := by decide +kernel
theorem dX11_cell_9 : decode cX11_cell 9 = .ok (.iadd, 1) := by decide +kernel
theorem dX11_cell_10 : decode cX11_cell 10 = .ok (.ireturn, 1) := by decide +kernel
theorem dX11_clip_0 : decode cX11_clip 0 = .ok (.aload_n 0, 1) := by decide +kernel
theorem dX11_clip_1 : decode cX11_clip 1 = .ok (.getfield 65, 3) := by decide +kernel
theorem dX11_clip_4 : decode cX11_clip 4 = .ok (.aload_n 0, 1) := by decide +kernel
theorem dX11_clip_5 : decode cX11_clip 5 = .ok (.getfield 284, 3) := by decide +kernel
theorem dX11_clip_8 : decode cX11_clip 8 = .ok (.iconst 0, 1) := by decide +kernel
theorem dX11_clip_9 : decode cX11_clip 9 = .ok (.iastore, 1) := by decide +kernel
theorem dX11_clip_10 : decode cX11_clip 10 = .ok (.aload_n 0, 1) := by decide +kernel
theorem dX11_clip_11 : decode cX11_clip 11 = .ok (.getfield 68, 3) := by decide +kernel
theorem dX11_clip_14 : decode cX11_clip 14 = .ok (.aload_n 0, 1) := by decide +kernel
theorem dX11_clip_15 : decode cX11_clip 15 = .ok (.getfield 284, 3) := by decide +kernel
theorem dX11_clip_18 : decode cX11_clip 18 = .ok (.iconst 0, 1) := by decide +kernel
theorem dX11_clip_19 : decode cX11_clip 19 = .ok (.iastore, 1) := by decide +kernel
theorem dX11_clip_20 : decode cX11_clip 20 = .ok (.aload_n 0, 1) := by decide +kernel
theorem dX11_clip_21 : decode cX11_clip 21 = .ok (.getfield 284, 3) := by decide +kernel
theorem dX11_clip_24 : decode cX11_clip 24 = .ok (.iconst 1, 1) := by decide +kernel
theorem dX11_clip_25 : decode cX11_clip 25 = .ok (.isub, 1) := by decide +kernel
theorem dX11_clip_26 : decode cX11_clip 26 = .ok (.istore_n 1, 1) := by decide +kernel
theorem dX11_clip_27 : decode cX11_clip 27 = .ok (.iload_n 1, 1) := by decide +kernel
theorem dX11_clip_28 : decode cX11_clip 28 = .ok (.ifCond .lt 217, 3) := by decide +kernel
theorem dX11_clip_31 : decode cX11_clip 31 = .ok (.aload_n 0, 1) := by decide +kernel
theorem dX11_clip_32 : decode cX11_clip 32 = .ok (.getfield 65, 3) := by decide +kernel
theorem dX11_clip_35 : decode cX11_clip 35 = .ok (.iload_n 1, 1) := by decide +kernel
theorem dX11_clip_36 : decode cX11_clip 36 = .ok (.aload_n 0, 1) := by decide +kernel
theorem dX11_clip_37 : decode cX11_clip 37 = .ok (.getfield 65, 3) := by decide +kernel
theorem dX11_clip_40 : decode cX11_clip 40 = .ok (.iload_n 1, 1) := by decide +kernel
theorem dX11_clip_41 : decode cX11_clip 41 = .ok (.iconst 1, 1) := by decide +kernel
theorem dX11_clip_42 : decode cX11_clip 42 = .ok (.iadd, 1) := by decide +kernel
theorem dX11_clip_43 : decode cX11_clip 43 = .ok (.iaload, 1) := by decide +kernel
theorem dX11_clip_44 : decode cX11_clip 44 = .ok (.iastore, 1) := by decide +kernel
theorem dX11_clip_45 : decode cX11_clip 45 = .ok (.aload_n 0, 1) := by decide +kernel
theorem dX11_clip_46 : decode cX11_clip 46 = .ok (.getfield 68, 3) := by decide +kernel
theorem dX11_clip_49 : decode cX11_clip 49 = .ok (.iload_n 1, 1) := by decide +kernel
theorem dX11_clip_50 : decode cX11_clip 50 = .ok (.aload_n 0, 1) := by decide +kernel
theorem dX11_clip_51 : decode cX11_clip 51 = .ok (.getfield 68, 3) := by decide +kernel
theorem dX11_clip_54 : decode cX11_clip 54 = .ok (.iload_n 1, 1) := by decide +kernel
theorem dX11_clip_55 : decode cX11_clip 55 = .ok (.iconst 1, 1) := by decide +kernel
theorem dX11_clip_56 : decode cX11_clip 56 = .ok (.iadd, 1) := by decide +kernel
theorem dX11_clip_57 : decode cX11_clip 57 = .ok (.iaload, 1) := by decide +kernel
theorem dX11_clip_58 : decode cX11_clip 58 = .ok (.iastore, 1) := by decide +kernel
theorem dX11_clip_59 : decode cX11_clip 59 = .ok (.iconst 0, 1) := by decide +kernel
theorem dX11_clip_60 : decode cX11_clip 60 = .ok (.istore_n 2, 1) := by decide +kernel
theorem dX11_clip_61 : decode cX11_clip 61 = .ok (.iload_n 2, 1) := by decide +kernel
theorem dX11_clip_62 : decode cX11_clip 62 = .ok (.aload_n 0, 1) := by decide +kernel
theorem dX11_clip_63 : decode cX11_clip 63 = .ok (.getfield 278, 3) := by decide +kernel
theorem dX11_clip_66 : decode cX11_clip 66 = .ok (.if_icmp .ge 173, 3) := by decide +kernel
theorem dX11_clip_69 : decode cX11_clip 69 = .ok (.iconst 0, 1) := by decide +kernel
theorem dX11_clip_70 : decode cX11_clip 70 = .ok (.istore_n 3, 1) := by decide +kernel
theorem dX11_clip_71 : decode cX11_clip 71 = .ok (.iload_n 3, 1) := by decide +kernel
theorem dX11_clip_72 : decode cX11_clip 72 = .ok (.iconst 3, 1) := by decide +kernel
theorem dX11_clip_73 : decode cX11_clip 73 = .ok (.if_icmp .gt 160, 3) := by decide +kernel
theorem dX11_clip_76 : decode cX11_clip 76 = .ok (.iload_n 1, 1) := by decide +kernel
theorem dX11_clip_77 : decode cX11_clip 77 = .ok (.aload_n 0, 1) := by decide +kernel
theorem dX11_clip_78 : decode cX11_clip 78 = .ok (.getfield 20, 3) := by decide +kernel
theorem dX11_clip_81 : decode cX11_clip 81 = .ok (.iload_n 2, 1) := by decide +kernel
theorem dX11_clip_82 : decode cX11_clip 82 = .ok (.iaload, 1) := by decide +kernel
theorem dX11_clip_83 : decode cX11_clip 83 = .ok (.iadd, 1) := by decide +kernel
theorem dX11_clip_84 : decode cX11_clip 84 = .ok (.aload_n 0, 1) := by decide +kernel
theorem dX11_clip_85 : decode cX11_clip 85 = .ok (.getfield 284, 3) := by decide +kernel
theorem dX11_clip_88 : decode cX11_clip 88 = .ok (.if_icmp .gt 17, 3) := by decide +kernel
theorem dX11_clip_91 : decode cX11_clip 91 = .ok (.aload_n 0, 1) := by decide +kernel
theorem dX11_clip_92 : decode cX11_clip 92 = .ok (.iload_n 1, 1) := by decide +kernel
theorem dX11_clip_93 : decode cX11_clip 93 = .ok (.iload_n 2, 1) := by decide +kernel
theorem dX11_clip_94 : decode cX11_clip 94 = .ok (.iload_n 3, 1) := by decide +kernel
theorem dX11_clip_95 : decode cX11_clip 95 = .ok (.invokevirtual 293, 3) := by decide +kernel
theorem dX11_clip_98 : decode cX11_clip 98 = .ok (.ifCond .eq 7, 3) := by decide +kernel
theorem dX11_clip_101 : decode cX11_clip 101 = .ok (.iconst 1, 1) := by decide +kernel
theorem dX11_clip_102 : decode cX11_clip 102 = .ok (.goto 4, 3) := by decide +kernel
theorem dX11_clip_105 : decode cX11_clip 105 = .ok (.iconst 0, 1) := by decide +kernel
theorem dX11_clip_106 : decode cX11_clip 106 = .ok (.istore 4, 2) := by decide +kernel
theorem dX11_clip_108 : decode cX11_clip 108 = .ok (.aload_n 0, 1) := by decide +kernel
theorem dX11_clip_109 : decode cX11_clip 109 = .ok (.getfield 80, 3) := by decide +kernel
theorem dX11_clip_112 : decode cX11_clip 112 = .ok (.iload_n 1, 1) := by decide +kernel
theorem dX11_clip_113 : decode cX11_clip 113 = .ok (.iload_n 2, 1) := by decide +kernel
theorem dX11_clip_114 : decode cX11_clip 114 = .ok (.iload_n 3, 1) := by decide +kernel
theorem dX11_clip_115 : decode cX11_clip 115 = .ok (.invokestatic 296, 3) := by decide +kernel
theorem dX11_clip_118 : decode cX11_clip 118 = .ok (.iload 4, 2) := by decide +kernel
theorem dX11_clip_120 : decode cX11_clip 120 = .ok (.bastore, 1) := by decide +kernel
theorem dX11_clip_121 : decode cX11_clip 121 = .ok (.iload 4, 2) := by decide +kernel
theorem dX11_clip_123 : decode cX11_clip 123 = .ok (.ifCond .ne 6, 3) := by decide +kernel
theorem dX11_clip_126 : decode cX11_clip 126 = .ok (.goto 101, 3) := by decide +kernel
theorem dX11_clip_129 : decode cX11_clip 129 = .ok (.aload_n 0, 1) := by decide +kernel
theorem dX11_clip_130 : decode cX11_clip 130 = .ok (.getfield 23, 3) := by decide +kernel
theorem dX11_clip_133 : decode cX11_clip 133 = .ok (.iload_n 2, 1) := by decide +kernel
theorem dX11_clip_134 : decode cX11_clip 134 = .ok (.iaload, 1) := by decide +kernel
theorem dX11_clip_135 : decode cX11_clip 135 = .ok (.iload_n 3, 1) := by decide +kernel
theorem dX11_clip_136 : decode cX11_clip 136 = .ok (.aload_n 0, 1) := by decide +kernel
theorem dX11_clip_137 : decode cX11_clip 137 = .ok (.getfield 56, 3) := by decide +kernel
theorem dX11_clip_140 : decode cX11_clip 140 = .ok (.imul, 1) := by decide +kernel
theorem dX11_clip_141 : decode cX11_clip 141 = .ok (.isub, 1) := by decide +kernel
theorem dX11_clip_142 : decode cX11_clip 142 = .ok (.aload_n 0, 1) := by decide +kernel
theorem dX11_clip_143 : decode cX11_clip 143 = .ok (.getfield 65, 3) := by decide +kernel
theorem dX11_clip_146 : decode cX11_clip 146 = .ok (.iload_n 1, 1) := by decide +kernel
theorem dX11_clip_147 : decode cX11_clip 147 = .ok (.aload_n 0, 1) := by decide +kernel
theorem dX11_clip_148 : decode cX11_clip 148 = .ok (.getfield 20, 3) := by decide +kernel
theorem dX11_clip_151 : decode cX11_clip 151 = .ok (.iload_n 2, 1) := by decide +kernel
theorem dX11_clip_152 : decode cX11_clip 152 = .ok (.iaload, 1) := by decide +kernel
theorem dX11_clip_153 : decode cX11_clip 153 = .ok (.iadd, 1) := by decide +kernel
theorem dX11_clip_154 : decode cX11_clip 154 = .ok (.iaload, 1) := by decide +kernel
theorem dX11_clip_155 : decode cX11_clip 155 = .ok (.iadd, 1) := by decide +kernel
theorem dX11_clip_156 : decode cX11_clip 156 = .ok (.istore 5, 2) := by decide +kernel
theorem dX11_clip_158 : decode cX11_clip 158 = .ok (.iconst 1, 1) := by decide +kernel
theorem dX11_clip_159 : decode cX11_clip 159 = .ok (.aload_n 0, 1) := by decide +kernel
theorem dX11_clip_160 : decode cX11_clip 160 = .ok (.getfield 68, 3) := by decide +kernel
theorem dX11_clip_163 : decode cX11_clip 163 = .ok (.iload_n 1, 1) := by decide +kernel
theorem dX11_clip_164 : decode cX11_clip 164 = .ok (.aload_n 0, 1) := by decide +kernel
theorem dX11_clip_165 : decode cX11_clip 165 = .ok (.getfield 20, 3) := by decide +kernel
theorem dX11_clip_168 : decode cX11_clip 168 = .ok (.iload_n 2, 1) := by decide +kernel
theorem dX11_clip_169 : decode cX11_clip 169 = .ok (.iaload, 1) := by decide +kernel
theorem dX11_clip_170 : decode cX11_clip 170 = .ok (.iadd, 1) := by decide +kernel
theorem dX11_clip_171 : decode cX11_clip 171 = .ok (.iaload, 1) := by decide +kernel
theorem dX11_clip_172 : decode cX11_clip 172 = .ok (.iadd, 1) := by decide +kernel
theorem dX11_clip_173 : decode cX11_clip 173 = .ok (.istore 6, 2) := by decide +kernel
theorem dX11_clip_175 : decode cX11_clip 175 = .ok (.iload 5, 2) := by decide +kernel
theorem dX11_clip_177 : decode cX11_clip 177 = .ok (.aload_n 0, 1) := by decide +kernel
theorem dX11_clip_178 : decode cX11_clip 178 = .ok (.getfield 65, 3) := by decide +kernel
theorem dX11_clip_181 : decode cX11_clip 181 = .ok (.iload_n 1, 1) := by decide +kernel
theorem dX11_clip_182 : decode cX11_clip 182 = .ok (.iaload, 1) := by decide +kernel
theorem dX11_clip_183 : decode cX11_clip 183 = .ok (.if_icmp .lt 44, 3) := by decide +kernel
theorem dX11_clip_186 : decode cX11_clip 186 = .ok (.iload 5, 2) := by decide +kernel
theorem dX11_clip_188 : decode cX11_clip 188 = .ok (.aload_n 0, 1) := by decide +kernel
theorem dX11_clip_189 : decode cX11_clip 189 = .ok (.getfield 65, 3) := by decide +kernel
theorem dX11_clip_192 : decode cX11_clip 192 = .ok (.iload_n 1, 1) := by decide +kernel
theorem dX11_clip_193 : decode cX11_clip 193 = .ok (.iaload, 1) := by decide +kernel
theorem dX11_clip_194 : decode cX11_clip 194 = .ok (.if_icmp .ne 17, 3) := by decide +kernel
theorem dX11_clip_197 : decode cX11_clip 197 = .ok (.iload 6, 2) := by decide +kernel
theorem dX11_clip_199 : decode cX11_clip 199 = .ok (.aload_n 0, 1) := by decide +kernel
theorem dX11_clip_200 : decode cX11_clip 200 = .ok (.getfield 68, 3) := by decide +kernel
theorem dX11_clip_203 : decode cX11_clip 203 = .ok (.iload_n 1, 1) := by decide +kernel
theorem dX11_clip_204 : decode cX11_clip 204 = .ok (.iaload, 1) := by decide +kernel
theorem dX11_clip_205 : decode cX11_clip 205 = .ok (.if_icmp .lt 6, 3) := by decide +kernel
theorem dX11_clip_208 : decode cX11_clip 208 = .ok (.goto 19, 3) := by decide +kernel
theorem dX11_clip_211 : decode cX11_clip 211 = .ok (.aload_n 0, 1) := by decide +kernel
theorem dX11_clip_212 : decode cX11_clip 212 = .ok (.getfield 65, 3) := by decide +kernel
theorem dX11_clip_215 : decode cX11_clip 215 = .ok (.iload_n 1, 1) := by decide +kernel
theorem dX11_clip_216 : decode cX11_clip 216 = .ok (.iload 5, 2) := by decide +kernel
theorem dX11_clip_218 : decode cX11_clip 218 = .ok (.iastore, 1) := by decide +kernel
theorem dX11_clip_219 : decode cX11_clip 219 = .ok (.aload_n 0, 1) := by decide +kernel
theorem dX11_clip_220 : decode cX11_clip 220 = .ok (.getfield 68, 3) := by decide +kernel
theorem dX11_clip_223 : decode cX11_clip 223 = .ok (.iload_n 1, 1) := by decide +kernel
theorem dX11_clip_224 : decode cX11_clip 224 = .ok (.iload 6, 2) := by decide +kernel
theorem dX11_clip_226 : decode cX11_clip 226 = .ok (.iastore, 1) := by decide +kernel
theorem dX11_clip_227 : decode cX11_clip 227 = .ok (.iinc 3 1, 3) := by decide +kernel
theorem dX11_clip_230 : decode cX11_clip 230 = .ok (.goto (-159), 3) := by decide +kernel
theorem dX11_clip_233 : decode cX11_clip 233 = .ok (.iinc 2 1, 3) := by decide +kernel
theorem dX11_clip_236 : decode cX11_clip 236 = .ok (.goto (-175), 3) := by decide +kernel
theorem dX11_clip_239 : decode cX11_clip 239 = .ok (.iinc 1 (-1), 3) := by decide +kernel
theorem dX11_clip_242 : decode cX11_clip 242 = .ok (.goto (-215), 3) := by decide +kernel
theorem dX11_clip_245 : decode cX11_clip 245 = .ok (.aload_n 0, 1) := by decide +kernel
theorem dX11_clip_246 : decode cX11_clip 246 = .ok (.iconst 0, 1) := by decide +kernel
theorem dX11_clip_247 : decode cX11_clip 247 = .ok (.putfield 300, 3) := by decide +kernel
theorem dX11_clip_250 : decode cX11_clip 250 = .ok (.iconst 0, 1) := by decide +kernel
theorem dX11_clip_251 : decode cX11_clip 251 = .ok (.istore_n 1, 1) := by decide +kernel
theorem dX11_clip_252 : decode cX11_clip 252 = .ok (.iload_n 1, 1) := by decide +kernel
theorem dX11_clip_253 : decode cX11_clip 253 = .ok (.aload_n 0, 1) := by decide +kernel
theorem dX11_clip_254 : decode cX11_clip 254 = .ok (.getfield 284, 3) := by decide +kernel
theorem dX11_clip_257 : decode cX11_clip 257 = .ok (.if_icmp .ge 204, 3) := by decide +kernel
theorem dX11_clip_260 : decode cX11_clip 260 = .ok (.aload_n 0, 1) := by decide +kernel
theorem dX11_clip_261 : decode cX11_clip 261 = .ok (.getfield 300, 3) := by decide +kernel
theorem dX11_clip_264 : decode cX11_clip 264 = .ok (.istore_n 2, 1) := by decide +kernel
theorem dX11_clip_265 : decode cX11_clip 265 = .ok (.iconst 0, 1) := by decide +kernel
theorem dX11_clip_266 : decode cX11_clip 266 = .ok (.istore_n 3, 1) := by decide +kernel
theorem dX11_clip_267 : decode cX11_clip 267 = .ok (.iload_n 3, 1) := by decide +kernel
theorem dX11_clip_268 : decode cX11_clip 268 = .ok (.aload_n 0, 1) := by decide +kernel
theorem dX11_clip_269 : decode cX11_clip 269 = .ok (.getfield 278, 3) := by decide +kernel
theorem dX11_clip_272 : decode cX11_clip 272 = .ok (.if_icmp .ge 160, 3) := by decide +kernel
theorem dX11_clip_275 : decode cX11_clip 275 = .ok (.aload_n 0, 1) := by decide +kernel
theorem dX11_clip_276 : decode cX11_clip 276 = .ok (.getfield 300, 3) := by decide +kernel
theorem dX11_clip_279 : decode cX11_clip 279 = .ok (.iload_n 2, 1) := by decide +kernel
theorem dX11_clip_280 : decode cX11_clip 280 = .ok (.if_icmp .ne 152, 3) := by decide +kernel
theorem dX11_clip_283 : decode cX11_clip 283 = .ok (.iconst 0, 1) := by decide +kernel
theorem dX11_clip_284 : decode cX11_clip 284 = .ok (.istore 4, 2) := by decide +kernel
theorem dX11_clip_286 : decode cX11_clip 286 = .ok (.iload 4, 2) := by decide +kernel
theorem dX11_clip_288 : decode cX11_clip 288 = .ok (.iconst 3, 1) := by decide +kernel
theorem dX11_clip_289 : decode cX11_clip 289 = .ok (.if_icmp .gt 137, 3) := by decide +kernel
theorem dX11_clip_292 : decode cX11_clip 292 = .ok (.aload_n 0, 1) := by decide +kernel
theorem dX11_clip_293 : decode cX11_clip 293 = .ok (.getfield 300, 3) := by decide +kernel
theorem dX11_clip_296 : decode cX11_clip 296 = .ok (.iload_n 2, 1) := by decide +kernel
theorem dX11_clip_297 : decode cX11_clip 297 = .ok (.if_icmp .ne 129, 3) := by decide +kernel
theorem dX11_clip_300 : decode cX11_clip 300 = .ok (.aload_n 0, 1) := by decide +kernel
theorem dX11_clip_301 : decode cX11_clip 301 = .ok (.getfield 80, 3) := by decide +kernel
theorem dX11_clip_304 : decode cX11_clip 304 = .ok (.iload_n 1, 1) := by decide +kernel
theorem dX11_clip_305 : decode cX11_clip 305 = .ok (.iload_n 3, 1) := by decide +kernel
theorem dX11_clip_306 : decode cX11_clip 306 = .ok (.iload 4, 2) := by decide +kernel
theorem dX11_clip_308 : decode cX11_clip 308 = .ok (.invokestatic 296, 3) := by decide +kernel
theorem dX11_clip_311 : decode cX11_clip 311 = .ok (.baload, 1) := by decide +kernel
theorem dX11_clip_312 : decode cX11_clip 312 = .ok (.ifCond .eq 108, 3) := by decide +kernel
theorem dX11_clip_315 : decode cX11_clip 315 = .ok (.aload_n 0, 1) := by decide +kernel
theorem dX11_clip_316 : decode cX11_clip 316 = .ok (.getfield 23, 3) := by decide +kernel
theorem dX11_clip_319 : decode cX11_clip 319 = .ok (.iload_n 3, 1) := by decide +kernel
theorem dX11_clip_320 : decode cX11_clip 320 = .ok (.iaload, 1) := by decide +kernel
theorem dX11_clip_321 : decode cX11_clip 321 = .ok (.iload 4, 2) := by decide +kernel
theorem dX11_clip_323 : decode cX11_clip 323 = .ok (.aload_n 0, 1) := by decide +kernel
theorem dX11_clip_324 : decode cX11_clip 324 = .ok (.getfield 56, 3) := by decide +kernel
theorem dX11_clip_327 : decode cX11_clip 327 = .ok (.imul, 1) := by decide +kernel
theorem dX11_clip_328 : decode cX11_clip 328 = .ok (.isub, 1) := by decide +kernel
theorem dX11_clip_329 : decode cX11_clip 329 = .ok (.aload_n 0, 1) := by decide +kernel
theorem dX11_clip_330 : decode cX11_clip 330 = .ok (.getfield 65, 3) := by decide +kernel
theorem dX11_clip_333 : decode cX11_clip 333 = .ok (.iload_n 1, 1) := by decide +kernel
theorem dX11_clip_334 : decode cX11_clip 334 = .ok (.aload_n 0, 1) := by decide +kernel
theorem dX11_clip_335 : decode cX11_clip 335 = .ok (.getfield 20, 3) := by decide +kernel
theorem dX11_clip_338 : decode cX11_clip 338 = .ok (.iload_n 3, 1) := by decide +kernel
theorem dX11_clip_339 : decode cX11_clip 339 = .ok (.iaload, 1) := by decide +kernel
theorem dX11_clip_340 : decode cX11_clip 340 = .ok (.iadd, 1) := by decide +kernel
theorem dX11_clip_341 : decode cX11_clip 341 = .ok (.iaload, 1) := by decide +kernel
theorem dX11_clip_342 : decode cX11_clip 342 = .ok (.iadd, 1) := by decide +kernel
theorem dX11_clip_343 : decode cX11_clip 343 = .ok (.aload_n 0, 1) := by decide +kernel
theorem dX11_clip_344 : decode cX11_clip 344 = .ok (.getfield 65, 3) := by decide +kernel
theorem dX11_clip_347 : decode cX11_clip 347 = .ok (.iload_n 1, 1) := by decide +kernel
theorem dX11_clip_348 : decode cX11_clip 348 = .ok (.iaload, 1) := by decide +kernel
theorem dX11_clip_349 : decode cX11_clip 349 = .ok (.if_icmp .ne 71, 3) := by decide +kernel
theorem dX11_clip_352 : decode cX11_clip 352 = .ok (.iconst 1, 1) := by decide +kernel
theorem dX11_clip_353 : decode cX11_clip 353 = .ok (.aload_n 0, 1) := by decide +kernel
theorem dX11_clip_354 : decode cX11_clip 354 = .ok (.getfield 68, 3) := by decide +kernel
theorem dX11_clip_357 : decode cX11_clip 357 = .ok (.iload_n 1, 1) := by decide +kernel
theorem dX11_clip_358 : decode cX11_clip 358 = .ok (.aload_n 0, 1) := by decide +kernel
theorem dX11_clip_359 : decode cX11_clip 359 = .ok (.getfield 20, 3) := by decide +kernel
theorem dX11_clip_362 : decode cX11_clip 362 = .ok (.iload_n 3, 1) := by decide +kernel
theorem dX11_clip_363 : decode cX11_clip 363 = .ok (.iaload, 1) := by decide +kernel
theorem dX11_clip_364 : decode cX11_clip 364 = .ok (.iadd, 1) := by decide +kernel
theorem dX11_clip_365 : decode cX11_clip 365 = .ok (.iaload, 1) := by decide +kernel
theorem dX11_clip_366 : decode cX11_clip 366 = .ok (.iadd, 1) := by decide +kernel
theorem dX11_clip_367 : decode cX11_clip 367 = .ok (.aload_n 0, 1) := by decide +kernel
theorem dX11_clip_368 : decode cX11_clip 368 = .ok (.getfield 68, 3) := by decide +kernel
theorem dX11_clip_371 : decode cX11_clip 371 = .ok (.iload_n 1, 1) := by decide +kernel
theorem dX11_clip_372 : decode cX11_clip 372 = .ok (.iaload, 1) := by decide +kernel
theorem dX11_clip_373 : decode cX11_clip 373 = .ok (.if_icmp .eq 6, 3) := by decide +kernel
theorem dX11_clip_376 : decode cX11_clip 376 = .ok (.goto 44, 3) := by decide +kernel
theorem dX11_clip_379 : decode cX11_clip 379 = .ok (.aload_n 0, 1) := by decide +kernel
theorem dX11_clip_380 : decode cX11_clip 380 = .ok (.getfield 71, 3) := by decide +kernel
theorem dX11_clip_383 : decode cX11_clip 383 = .ok (.aload_n 0, 1) := by decide +kernel
theorem dX11_clip_384 : decode cX11_clip 384 = .ok (.getfield 300, 3) := by decide +kernel
theorem dX11_clip_387 : decode cX11_clip 387 = .ok (.iload_n 1, 1) := by decide +kernel
theorem dX11_clip_388 : decode cX11_clip 388 = .ok (.iastore, 1) := by decide +kernel
theorem dX11_clip_389 : decode cX11_clip 389 = .ok (.aload_n 0, 1) := by decide +kernel
theorem dX11_clip_390 : decode cX11_clip 390 = .ok (.getfield 74, 3) := by decide +kernel
theorem dX11_clip_393 : decode cX11_clip 393 = .ok (.aload_n 0, 1) := by decide +kernel
theorem dX11_clip_394 : decode cX11_clip 394 = .ok (.getfield 300, 3) := by decide +kernel
theorem dX11_clip_397 : decode cX11_clip 397 = .ok (.iload_n 3, 1) := by decide +kernel
theorem dX11_clip_398 : decode cX11_clip 398 = .ok (.iastore, 1) := by decide +kernel
theorem dX11_clip_399 : decode cX11_clip 399 = .ok (.aload_n 0, 1) := by decide +kernel
theorem dX11_clip_400 : decode cX11_clip 400 = .ok (.getfield 77, 3) := by decide +kernel
theorem dX11_clip_403 : decode cX11_clip 403 = .ok (.aload_n 0, 1) := by decide +kernel
theorem dX11_clip_404 : decode cX11_clip 404 = .ok (.getfield 300, 3) := by decide +kernel
theorem dX11_clip_407 : decode cX11_clip 407 = .ok (.iload 4, 2) := by decide +kernel
theorem dX11_clip_409 : decode cX11_clip 409 = .ok (.iastore, 1) := by decide +kernel
theorem dX11_clip_410 : decode cX11_clip 410 = .ok (.aload_n 0, 1) := by decide +kernel
theorem dX11_clip_411 : decode cX11_clip 411 = .ok (.dup, 1) := by decide +kernel
theorem dX11_clip_412 : decode cX11_clip 412 = .ok (.getfield 300, 3) := by decide +kernel
theorem dX11_clip_415 : decode cX11_clip 415 = .ok (.iconst 1, 1) := by decide +kernel
theorem dX11_clip_416 : decode cX11_clip 416 = .ok (.iadd, 1) := by decide +kernel
theorem dX11_clip_417 : decode cX11_clip 417 = .ok (.putfield 300, 3) := by decide +kernel
theorem dX11_clip_420 : decode cX11_clip 420 = .ok (.iinc 4 1, 3) := by decide +kernel
theorem dX11_clip_423 : decode cX11_clip 423 = .ok (.goto (-137), 3) := by decide +kernel
theorem dX11_clip_426 : decode cX11_clip 426 = .ok (.iinc 3 1, 3) := by decide +kernel
theorem dX11_clip_429 : decode cX11_clip 429 = .ok (.goto (-162), 3) := by decide +kernel
theorem dX11_clip_432 : decode cX11_clip 432 = .ok (.iload_n 1, 1) := by decide +kernel
theorem dX11_clip_433 : decode cX11_clip 433 = .ok (.aload_n 0, 1) := by decide +kernel
theorem dX11_clip_434 : decode cX11_clip 434 = .ok (.getfield 300, 3) := by decide +kernel
theorem dX11_clip_437 : decode cX11_clip 437 = .ok (.iload_n 2, 1) := by decide +kernel
theorem dX11_clip_438 : decode cX11_clip 438 = .ok (.if_icmp .le 17, 3) := by decide +kernel
theorem dX11_clip_441 : decode cX11_clip 441 = .ok (.aload_n 0, 1) := by decide +kernel
theorem dX11_clip_442 : decode cX11_clip 442 = .ok (.getfield 20, 3) := by decide +kernel
theorem dX11_clip_445 : decode cX11_clip 445 = .ok (.aload_n 0, 1) := by decide +kernel
theorem dX11_clip_446 : decode cX11_clip 446 = .ok (.getfield 74, 3) := by decide +kernel
theorem dX11_clip_449 : decode cX11_clip 449 = .ok (.iload_n 2, 1) := by decide +kernel
theorem dX11_clip_450 : decode cX11_clip 450 = .ok (.iaload, 1) := by decide +kernel
theorem dX11_clip_451 : decode cX11_clip 451 = .ok (.iaload, 1) := by decide +kernel
theorem dX11_clip_452 : decode cX11_clip 452 = .ok (.goto 4, 3) := by decide +kernel
theorem dX11_clip_455 : decode cX11_clip 455 = .ok (.iconst 1, 1) := by decide +kernel
theorem dX11_clip_456 : decode cX11_clip 456 = .ok (.iadd, 1) := by decide +kernel
theorem dX11_clip_457 : decode cX11_clip 457 = .ok (.istore_n 1, 1) := by decide +kernel
theorem dX11_clip_458 : decode cX11_clip 458 = .ok (.goto (-206), 3) := by decide +kernel
theorem dX11_clip_461 : decode cX11_clip 461 = .ok (.return_, 1) := by decide +kernel
theorem dX11_worth_0 : decode cX11_worth 0 = .ok (.aload_n 0, 1) := by decide +kernel
theorem dX11_worth_1 : decode cX11_worth 1 = .ok (.invokevirtual 303, 3) := by decide +kernel
theorem dX11_worth_4 : decode cX11_worth 4 = .ok (.aload_n 0, 1) := by decide +kernel
theorem dX11_worth_5 : decode cX11_worth 5 = .ok (.getfield 65, 3) := by decide +kernel
theorem dX11_worth_8 : decode cX11_worth 8 = .ok (.iconst 0, 1) := by decide +kernel
theorem dX11_worth_9 : decode cX11_worth 9 = .ok (.iaload, 1) := by decide +kernel
theorem dX11_worth_10 : decode cX11_worth 10 = .ok (.ireturn, 1) := by decide +kernel
theorem dX11_sheets_0 : decode cX11_sheets 0 = .ok (.aload_n 0, 1) := by decide +kernel
theorem dX11_sheets_1 : decode cX11_sheets 1 = .ok (.invokevirtual 303, 3) := by decide +kernel
theorem dX11_sheets_4 : decode cX11_sheets 4 = .ok (.aload_n 0, 1) := by decide +kernel
theorem dX11_sheets_5 : decode cX11_sheets 5 = .ok (.getfield 300, 3) := by decide +kernel
theorem dX11_sheets_8 : decode cX11_sheets 8 = .ok (.ireturn, 1) := by decide +kernel
theorem dX11_clipped_0 : decode cX11_clipped 0 = .ok (.aload_n 0, 1) := by decide +kernel
theorem dX11_clipped_1 : decode cX11_clipped 1 = .ok (.invokevirtual 303, 3) := by decide +kernel
theorem dX11_clipped_4 : decode cX11_clipped 4 = .ok (.iload_n 1, 1) := by decide +kernel
theorem dX11_clipped_5 : decode cX11_clipped 5 = .ok (.ifCond .lt 11, 3) := by decide +kernel
theorem dX11_clipped_8 : decode cX11_clipped 8 = .ok (.iload_n 1, 1) := by decide +kernel
theorem dX11_clipped_9 : decode cX11_clipped 9 = .ok (.aload_n 0, 1) := by decide +kernel
theorem dX11_clipped_10 : decode cX11_clipped 10 = .ok (.getfield 300, 3) := by decide +kernel
theorem dX11_clipped_13 : decode cX11_clipped 13 = .ok (.if_icmp .lt 7, 3) := by decide +kernel
theorem dX11_clipped_16 : decode cX11_clipped 16 = .ok (.iconst (-1), 1) := by decide +kernel
theorem dX11_clipped_17 : decode cX11_clipped 17 = .ok (.goto 45, 3) := by decide +kernel
theorem dX11_clipped_20 : decode cX11_clipped 20 = .ok (.iload_n 2, 1) := by decide +kernel
theorem dX11_clipped_21 : decode cX11_clipped 21 = .ok (.ifCond .ne 12, 3) := by decide +kernel
theorem dX11_clipped_24 : decode cX11_clipped 24 = .ok (.aload_n 0, 1) := by decide +kernel
theorem dX11_clipped_25 : decode cX11_clipped 25 = .ok (.getfield 71, 3) := by decide +kernel
theorem dX11_clipped_28 : decode cX11_clipped 28 = .ok (.iload_n 1, 1) := by decide +kernel
theorem dX11_clipped_29 : decode cX11_clipped 29 = .ok (.iaload, 1) := by decide +kernel
theorem dX11_clipped_30 : decode cX11_clipped 30 = .ok (.goto 32, 3) := by decide +kernel
theorem dX11_clipped_33 : decode cX11_clipped 33 = .ok (.iload_n 2, 1) := by decide +kernel
theorem dX11_clipped_34 : decode cX11_clipped 34 = .ok (.iconst 1, 1) := by decide +kernel
theorem dX11_clipped_35 : decode cX11_clipped 35 = .ok (.if_icmp .ne 12, 3) := by decide +kernel
theorem dX11_clipped_38 : decode cX11_clipped 38 = .ok (.aload_n 0, 1) := by decide +kernel
theorem dX11_clipped_39 : decode cX11_clipped 39 = .ok (.getfield 74, 3) := by decide +kernel
theorem dX11_clipped_42 : decode cX11_clipped 42 = .ok (.iload_n 1, 1) := by decide +kernel
theorem dX11_clipped_43 : decode cX11_clipped 43 = .ok (.iaload, 1) := by decide +kernel
theorem dX11_clipped_44 : decode cX11_clipped 44 = .ok (.goto 18, 3) := by decide +kernel
theorem dX11_clipped_47 : decode cX11_clipped 47 = .ok (.iload_n 2, 1) := by decide +kernel
theorem dX11_clipped_48 : decode cX11_clipped 48 = .ok (.iconst 2, 1) := by decide +kernel
theorem dX11_clipped_49 : decode cX11_clipped 49 = .ok (.if_icmp .ne 12, 3) := by decide +kernel
theorem dX11_clipped_52 : decode cX11_clipped 52 = .ok (.aload_n 0, 1) := by decide +kernel
theorem dX11_clipped_53 : decode cX11_clipped 53 = .ok (.getfield 77, 3) := by decide +kernel
theorem dX11_clipped_56 : decode cX11_clipped 56 = .ok (.iload_n 1, 1) := by decide +kernel
theorem dX11_clipped_57 : decode cX11_clipped 57 = .ok (.iaload, 1) := by decide +kernel
theorem dX11_clipped_58 : decode cX11_clipped 58 = .ok (.goto 4, 3) := by decide +kernel
theorem dX11_clipped_61 : decode cX11_clipped 61 = .ok (.iconst (-1), 1) := by decide +kernel
theorem dX11_clipped_62 : decode cX11_clipped 62 = .ok (.ireturn, 1) := by decide +kernel
theorem dX11_veneer_0 : decode cX11_veneer 0 = .ok (.iload_n 1, 1) := by decide +kernel
theorem dX11_veneer_1 : decode cX11_veneer 1 = .ok (.ifCond .lt 48, 3) := by decide +kernel
theorem dX11_veneer_4 : decode cX11_veneer 4 = .ok (.iload_n 1, 1) := by decide +kernel
theorem dX11_veneer_5 : decode cX11_veneer 5 = .ok (.bipush 6, 2) := by decide +kernel
theorem dX11_veneer_7 : decode cX11_veneer 7 = .ok (.if_icmp .ge 42, 3) := by decide +kernel
theorem dX11_veneer_10 : decode cX11_veneer 10 = .ok (.iload_n 2, 1) := by decide +kernel
theorem dX11_veneer_11 : decode cX11_veneer 11 = .ok (.iconst 1, 1) := by decide +kernel
theorem dX11_veneer_12 : decode cX11_veneer 12 = .ok (.if_icmp .lt 37, 3) := by decide +kernel
theorem dX11_veneer_15 : decode cX11_veneer 15 = .ok (.iload_n 2, 1) := by decide +kernel
theorem dX11_veneer_16 : decode cX11_veneer 16 = .ok (.bipush 90, 2) := by decide +kernel
theorem dX11_veneer_18 : decode cX11_veneer 18 = .ok (.if_icmp .gt 31, 3) := by decide +kernel
theorem dX11_veneer_21 : decode cX11_veneer 21 = .ok (.iload_n 3, 1) := by decide +kernel
theorem dX11_veneer_22 : decode cX11_veneer 22 = .ok (.ifCond .lt 27, 3) := by decide +kernel
theorem dX11_veneer_25 : decode cX11_veneer 25 = .ok (.iload_n 3, 1) := by decide +kernel
theorem dX11_veneer_26 : decode cX11_veneer 26 = .ok (.bipush 20, 2) := by decide +kernel
theorem dX11_veneer_28 : decode cX11_veneer 28 = .ok (.if_icmp .gt 21, 3) := by decide +kernel
theorem dX11_veneer_31 : decode cX11_veneer 31 = .ok (.iload_n 3, 1) := by decide +kernel
theorem dX11_veneer_32 : decode cX11_veneer 32 = .ok (.iload_n 2, 1) := by decide +kernel
theorem dX11_veneer_33 : decode cX11_veneer 33 = .ok (.if_icmp .gt 16, 3) := by decide +kernel
theorem dX11_veneer_36 : decode cX11_veneer 36 = .ok (.iload 4, 2) := by decide +kernel
theorem dX11_veneer_38 : decode cX11_veneer 38 = .ok (.ifCond .lt 11, 3) := by decide +kernel
theorem dX11_veneer_41 : decode cX11_veneer 41 = .ok (.iload 4, 2) := by decide +kernel
theorem dX11_veneer_43 : decode cX11_veneer 43 = .ok (.sipush 1000, 3) := by decide +kernel
theorem dX11_veneer_46 : decode cX11_veneer 46 = .ok (.if_icmp .le 5, 3) := by decide +kernel
theorem dX11_veneer_49 : decode cX11_veneer 49 = .ok (.iconst 0, 1) := by decide +kernel
theorem dX11_veneer_50 : decode cX11_veneer 50 = .ok (.ireturn, 1) := by decide +kernel
theorem dX11_veneer_51 : decode cX11_veneer 51 = .ok (.aload_n 0, 1) := by decide +kernel
theorem dX11_veneer_52 : decode cX11_veneer 52 = .ok (.getfield 84, 3) := by decide +kernel
theorem dX11_veneer_55 : decode cX11_veneer 55 = .ok (.iload_n 1, 1) := by decide +kernel
theorem dX11_veneer_56 : decode cX11_veneer 56 = .ok (.iload_n 2, 1) := by decide +kernel
theorem dX11_veneer_57 : decode cX11_veneer 57 = .ok (.iastore, 1) := by decide +kernel
theorem dX11_veneer_58 : decode cX11_veneer 58 = .ok (.aload_n 0, 1) := by decide +kernel
theorem dX11_veneer_59 : decode cX11_veneer 59 = .ok (.getfield 87, 3) := by decide +kernel
theorem dX11_veneer_62 : decode cX11_veneer 62 = .ok (.iload_n 1, 1) := by decide +kernel
theorem dX11_veneer_63 : decode cX11_veneer 63 = .ok (.iload_n 3, 1) := by decide +kernel
theorem dX11_veneer_64 : decode cX11_veneer 64 = .ok (.iastore, 1) := by decide +kernel
theorem dX11_veneer_65 : decode cX11_veneer 65 = .ok (.aload_n 0, 1) := by decide +kernel
theorem dX11_veneer_66 : decode cX11_veneer 66 = .ok (.getfield 90, 3) := by decide +kernel
theorem dX11_veneer_69 : decode cX11_veneer 69 = .ok (.iload_n 1, 1) := by decide +kernel
theorem dX11_veneer_70 : decode cX11_veneer 70 = .ok (.iload 4, 2) := by decide +kernel
theorem dX11_veneer_72 : decode cX11_veneer 72 = .ok (.iastore, 1) := by decide +kernel
theorem dX11_veneer_73 : decode cX11_veneer 73 = .ok (.aload_n 0, 1) := by decide +kernel
theorem dX11_veneer_74 : decode cX11_veneer 74 = .ok (.getfield 96, 3) := by decide +kernel
theorem dX11_veneer_77 : decode cX11_veneer 77 = .ok (.iload_n 1, 1) := by decide +kernel
theorem dX11_veneer_78 : decode cX11_veneer 78 = .ok (.iload 5, 2) := by decide +kernel
theorem dX11_veneer_80 : decode cX11_veneer 80 = .ok (.bastore, 1) := by decide +kernel
theorem dX11_veneer_81 : decode cX11_veneer 81 = .ok (.iconst 1, 1) := by decide +kernel
theorem dX11_veneer_82 : decode cX11_veneer 82 = .ok (.ireturn, 1) := by decide +kernel
theorem dX11_lays_0 : decode cX11_lays 0 = .ok (.iload_n 1, 1) := by decide +kernel
theorem dX11_lays_1 : decode cX11_lays 1 = .ok (.iconst 1, 1) := by decide +kernel
theorem dX11_lays_2 : decode cX11_lays 2 = .ok (.if_icmp .lt 21, 3) := by decide +kernel
theorem dX11_lays_5 : decode cX11_lays 5 = .ok (.iload_n 1, 1) := by decide +kernel
theorem dX11_lays_6 : decode cX11_lays 6 = .ok (.bipush 9, 2) := by decide +kernel
theorem dX11_lays_8 : decode cX11_lays 8 = .ok (.if_icmp .gt 15, 3) := by decide +kernel
theorem dX11_lays_11 : decode cX11_lays 11 = .ok (.iload_n 2, 1) := by decide +kernel
theorem dX11_lays_12 : decode cX11_lays 12 = .ok (.ifCond .lt 11, 3) := by decide +kernel
theorem dX11_lays_15 : decode cX11_lays 15 = .ok (.iload_n 2, 1) := by decide +kernel
theorem dX11_lays_16 : decode cX11_lays 16 = .ok (.iconst 3, 1) := by decide +kernel
theorem dX11_lays_17 : decode cX11_lays 17 = .ok (.iload_n 1, 1) := by decide +kernel
theorem dX11_lays_18 : decode cX11_lays 18 = .ok (.imul, 1) := by decide +kernel
theorem dX11_lays_19 : decode cX11_lays 19 = .ok (.ishr, 1) := by decide +kernel
theorem dX11_lays_20 : decode cX11_lays 20 = .ok (.ifCond .eq 5, 3) := by decide +kernel
theorem dX11_lays_23 : decode cX11_lays 23 = .ok (.iconst 0, 1) := by decide +kernel
theorem dX11_lays_24 : decode cX11_lays 24 = .ok (.ireturn, 1) := by decide +kernel
theorem dX11_lays_25 : decode cX11_lays 25 = .ok (.iconst 1, 1) := by decide +kernel
theorem dX11_lays_26 : decode cX11_lays 26 = .ok (.istore_n 3, 1) := by decide +kernel
theorem dX11_lays_27 : decode cX11_lays 27 = .ok (.iconst 0, 1) := by decide +kernel
theorem dX11_lays_28 : decode cX11_lays 28 = .ok (.istore 4, 2) := by decide +kernel
theorem dX11_lays_30 : decode cX11_lays 30 = .ok (.iload 4, 2) := by decide +kernel
theorem dX11_lays_32 : decode cX11_lays 32 = .ok (.iload_n 1, 1) := by decide +kernel
theorem dX11_lays_33 : decode cX11_lays 33 = .ok (.if_icmp .ge 47, 3) := by decide +kernel
theorem dX11_lays_36 : decode cX11_lays 36 = .ok (.aload_n 0, 1) := by decide +kernel
theorem dX11_lays_37 : decode cX11_lays 37 = .ok (.getfield 93, 3) := by decide +kernel
theorem dX11_lays_40 : decode cX11_lays 40 = .ok (.iload 4, 2) := by decide +kernel
theorem dX11_lays_42 : decode cX11_lays 42 = .ok (.iload_n 2, 1) := by decide +kernel
theorem dX11_lays_43 : decode cX11_lays 43 = .ok (.iconst 3, 1) := by decide +kernel
theorem dX11_lays_44 : decode cX11_lays 44 = .ok (.iload 4, 2) := by decide +kernel
theorem dX11_lays_46 : decode cX11_lays 46 = .ok (.imul, 1) := by decide +kernel
theorem dX11_lays_47 : decode cX11_lays 47 = .ok (.ishr, 1) := by decide +kernel
theorem dX11_lays_48 : decode cX11_lays 48 = .ok (.bipush 7, 2) := by decide +kernel
theorem dX11_lays_50 : decode cX11_lays 50 = .ok (.iand, 1) := by decide +kernel
theorem dX11_lays_51 : decode cX11_lays 51 = .ok (.iastore, 1) := by decide +kernel
theorem dX11_lays_52 : decode cX11_lays 52 = .ok (.iload_n 3, 1) := by decide +kernel
theorem dX11_lays_53 : decode cX11_lays 53 = .ok (.ifCond .eq 19, 3) := by decide +kernel
theorem dX11_lays_56 : decode cX11_lays 56 = .ok (.aload_n 0, 1) := by decide +kernel
theorem dX11_lays_57 : decode cX11_lays 57 = .ok (.getfield 93, 3) := by decide +kernel
theorem dX11_lays_60 : decode cX11_lays 60 = .ok (.iload 4, 2) := by decide +kernel
theorem dX11_lays_62 : decode cX11_lays 62 = .ok (.iaload, 1) := by decide +kernel
theorem dX11_lays_63 : decode cX11_lays 63 = .ok (.bipush 6, 2) := by decide +kernel
theorem dX11_lays_65 : decode cX11_lays 65 = .ok (.if_icmp .ge 7, 3) := by decide +kernel
theorem dX11_lays_68 : decode cX11_lays 68 = .ok (.iconst 1, 1) := by decide +kernel
theorem dX11_lays_69 : decode cX11_lays 69 = .ok (.goto 4, 3) := by decide +kernel
theorem dX11_lays_72 : decode cX11_lays 72 = .ok (.iconst 0, 1) := by decide +kernel
theorem dX11_lays_73 : decode cX11_lays 73 = .ok (.istore_n 3, 1) := by decide +kernel
theorem dX11_lays_74 : decode cX11_lays 74 = .ok (.iinc 4 1, 3) := by decide +kernel
theorem dX11_lays_77 : decode cX11_lays 77 = .ok (.goto (-47), 3) := by decide +kernel
theorem dX11_lays_80 : decode cX11_lays 80 = .ok (.iload_n 3, 1) := by decide +kernel
theorem dX11_lays_81 : decode cX11_lays 81 = .ok (.ireturn, 1) := by decide +kernel
theorem dX11_sum_0 : decode cX11_sum 0 = .ok (.iconst 0, 1) := by decide +kernel
theorem dX11_sum_1 : decode cX11_sum 1 = .ok (.istore_n 3, 1) := by decide +kernel
theorem dX11_sum_2 : decode cX11_sum 2 = .ok (.iconst 0, 1) := by decide +kernel
theorem dX11_sum_3 : decode cX11_sum 3 = .ok (.istore 4, 2) := by decide +kernel
theorem dX11_sum_5 : decode cX11_sum 5 = .ok (.iload 4, 2) := by decide +kernel
theorem dX11_sum_7 : decode cX11_sum 7 = .ok (.iload_n 1, 1) := by decide +kernel
theorem dX11_sum_8 : decode cX11_sum 8 = .ok (.if_icmp .ge 77, 3) := by decide +kernel
theorem dX11_sum_11 : decode cX11_sum 11 = .ok (.iload_n 3, 1) := by decide +kernel
theorem dX11_sum_12 : decode cX11_sum 12 = .ok (.iload_n 2, 1) := by decide +kernel
theorem dX11_sum_13 : decode cX11_sum 13 = .ok (.iconst 2, 1) := by decide +kernel
theorem dX11_sum_14 : decode cX11_sum 14 = .ok (.if_icmp .ne 18, 3) := by decide +kernel
theorem dX11_sum_17 : decode cX11_sum 17 = .ok (.aload_n 0, 1) := by decide +kernel
theorem dX11_sum_18 : decode cX11_sum 18 = .ok (.getfield 90, 3) := by decide +kernel
theorem dX11_sum_21 : decode cX11_sum 21 = .ok (.aload_n 0, 1) := by decide +kernel
theorem dX11_sum_22 : decode cX11_sum 22 = .ok (.getfield 93, 3) := by decide +kernel
theorem dX11_sum_25 : decode cX11_sum 25 = .ok (.iload 4, 2) := by decide +kernel
theorem dX11_sum_27 : decode cX11_sum 27 = .ok (.iaload, 1) := by decide +kernel
theorem dX11_sum_28 : decode cX11_sum 28 = .ok (.iaload, 1) := by decide +kernel
theorem dX11_sum_29 : decode cX11_sum 29 = .ok (.goto 48, 3) := by decide +kernel
theorem dX11_sum_32 : decode cX11_sum 32 = .ok (.aload_n 0, 1) := by decide +kernel
theorem dX11_sum_33 : decode cX11_sum 33 = .ok (.getfield 84, 3) := by decide +kernel
theorem dX11_sum_36 : decode cX11_sum 36 = .ok (.aload_n 0, 1) := by decide +kernel
theorem dX11_sum_37 : decode cX11_sum 37 = .ok (.getfield 93, 3) := by decide +kernel
theorem dX11_sum_40 : decode cX11_sum 40 = .ok (.iload 4, 2) := by decide +kernel
theorem dX11_sum_42 : decode cX11_sum 42 = .ok (.iaload, 1) := by decide +kernel
theorem dX11_sum_43 : decode cX11_sum 43 = .ok (.iaload, 1) := by decide +kernel
theorem dX11_sum_44 : decode cX11_sum 44 = .ok (.iload_n 2, 1) := by decide +kernel
theorem dX11_sum_45 : decode cX11_sum 45 = .ok (.ifCond .ne 19, 3) := by decide +kernel
theorem dX11_sum_48 : decode cX11_sum 48 = .ok (.aload_n 0, 1) := by decide +kernel
theorem dX11_sum_49 : decode cX11_sum 49 = .ok (.getfield 87, 3) := by decide +kernel
theorem dX11_sum_52 : decode cX11_sum 52 = .ok (.aload_n 0, 1) := by decide +kernel
theorem dX11_sum_53 : decode cX11_sum 53 = .ok (.getfield 93, 3) := by decide +kernel
theorem dX11_sum_56 : decode cX11_sum 56 = .ok (.iload 4, 2) := by decide +kernel
theorem dX11_sum_58 : decode cX11_sum 58 = .ok (.iaload, 1) := by decide +kernel
theorem dX11_sum_59 : decode cX11_sum 59 = .ok (.iaload, 1) := by decide +kernel
theorem dX11_sum_60 : decode cX11_sum 60 = .ok (.ineg, 1) := by decide +kernel
theorem dX11_sum_61 : decode cX11_sum 61 = .ok (.goto 15, 3) := by decide +kernel
theorem dX11_sum_64 : decode cX11_sum 64 = .ok (.aload_n 0, 1) := by decide +kernel
theorem dX11_sum_65 : decode cX11_sum 65 = .ok (.getfield 87, 3) := by decide +kernel
theorem dX11_sum_68 : decode cX11_sum 68 = .ok (.aload_n 0, 1) := by decide +kernel
theorem dX11_sum_69 : decode cX11_sum 69 = .ok (.getfield 93, 3) := by decide +kernel
theorem dX11_sum_72 : decode cX11_sum 72 = .ok (.iload 4, 2) := by decide +kernel
theorem dX11_sum_74 : decode cX11_sum 74 = .ok (.iaload, 1) := by decide +kernel
theorem dX11_sum_75 : decode cX11_sum 75 = .ok (.iaload, 1) := by decide +kernel
theorem dX11_sum_76 : decode cX11_sum 76 = .ok (.iadd, 1) := by decide +kernel
theorem dX11_sum_77 : decode cX11_sum 77 = .ok (.iadd, 1) := by decide +kernel
theorem dX11_sum_78 : decode cX11_sum 78 = .ok (.istore_n 3, 1) := by decide +kernel
theorem dX11_sum_79 : decode cX11_sum 79 = .ok (.iinc 4 1, 3) := by decide +kernel
theorem dX11_sum_82 : decode cX11_sum 82 = .ok (.goto (-77), 3) := by decide +kernel
theorem dX11_sum_85 : decode cX11_sum 85 = .ok (.iload_n 3, 1) := by decide +kernel
theorem dX11_sum_86 : decode cX11_sum 86 = .ok (.ireturn, 1) := by decide +kernel
theorem dX11_board_0 : decode cX11_board 0 = .ok (.iload_n 3, 1) := by decide +kernel
theorem dX11_board_1 : decode cX11_board 1 = .ok (.ifCond .lt 17, 3) := by decide +kernel
theorem dX11_board_4 : decode cX11_board 4 = .ok (.iload_n 3, 1) := by decide +kernel
theorem dX11_board_5 : decode cX11_board 5 = .ok (.iconst 2, 1) := by decide +kernel
theorem dX11_board_6 : decode cX11_board 6 = .ok (.if_icmp .gt 12, 3) := by decide +kernel
theorem dX11_board_9 : decode cX11_board 9 = .ok (.aload_n 0, 1) := by decide +kernel
theorem dX11_board_10 : decode cX11_board 10 = .ok (.iload_n 1, 1) := by decide +kernel
theorem dX11_board_11 : decode cX11_board 11 = .ok (.iload_n 2, 1) := by decide +kernel
theorem dX11_board_12 : decode cX11_board 12 = .ok (.invokevirtual 306, 3) := by decide +kernel
theorem dX11_board_15 : decode cX11_board 15 = .ok (.ifCond .ne 7, 3) := by decide +kernel
theorem dX11_board_18 : decode cX11_board 18 = .ok (.iconst (-1), 1) := by decide +kernel
theorem dX11_board_19 : decode cX11_board 19 = .ok (.goto 9, 3) := by decide +kernel
theorem dX11_board_22 : decode cX11_board 22 = .ok (.aload_n 0, 1) := by decide +kernel
theorem dX11_board_23 : decode cX11_board 23 = .ok (.iload_n 1, 1) := by decide +kernel
theorem dX11_board_24 : decode cX11_board 24 = .ok (.iload_n 3, 1) := by decide +kernel
theorem dX11_board_25 : decode cX11_board 25 = .ok (.invokevirtual 309, 3) := by decide +kernel
theorem dX11_board_28 : decode cX11_board 28 = .ok (.ireturn, 1) := by decide +kernel
theorem dX11_warp_0 : decode cX11_warp 0 = .ok (.aload_n 0, 1) := by decide +kernel
theorem dX11_warp_1 : decode cX11_warp 1 = .ok (.iload_n 1, 1) := by decide +kernel
theorem dX11_warp_2 : decode cX11_warp 2 = .ok (.iload_n 2, 1) := by decide +kernel
theorem dX11_warp_3 : decode cX11_warp 3 = .ok (.invokevirtual 306, 3) := by decide +kernel
theorem dX11_warp_6 : decode cX11_warp 6 = .ok (.ifCond .ne 7, 3) := by decide +kernel
end
section
theorem dX11_warp_9 : decode cX11_warp 9 = .ok (.ldc_w 312, 3) := by decide +kernel
theorem dX11_warp_12 : decode cX11_warp 12 = .ok (.ireturn, 1) := by decide +kernel
theorem dX11_warp_13 : decode cX11_warp 13 = .ok (.iconst 0, 1) := by decide +kernel
theorem dX11_warp_14 : decode cX11_warp 14 = .ok (.istore_n 3, 1) := by decide +kernel
theorem dX11_warp_15 : decode cX11_warp 15 = .ok (.iconst 0, 1) := by decide +kernel
theorem dX11_warp_16 : decode cX11_warp 16 = .ok (.istore 4, 2) := by decide +kernel
theorem dX11_warp_18 : decode cX11_warp 18 = .ok (.iload 4, 2) := by decide +kernel
theorem dX11_warp_20 : decode cX11_warp 20 = .ok (.iload_n 1, 1) := by decide +kernel
theorem dX11_warp_21 : decode cX11_warp 21 = .ok (.if_icmp .ge 109, 3) := by decide +kernel
theorem dX11_warp_24 : decode cX11_warp 24 = .ok (.iconst 0, 1) := by decide +kernel
theorem dX11_warp_25 : decode cX11_warp 25 = .ok (.istore 5, 2) := by decide +kernel
theorem dX11_warp_27 : decode cX11_warp 27 = .ok (.iconst 0, 1) := by decide +kernel
theorem dX11_warp_28 : decode cX11_warp 28 = .ok (.istore 6, 2) := by decide +kernel
theorem dX11_warp_30 : decode cX11_warp 30 = .ok (.iload 6, 2) := by decide +kernel
theorem dX11_warp_32 : decode cX11_warp 32 = .ok (.iload_n 1, 1) := by decide +kernel
theorem dX11_warp_33 : decode cX11_warp 33 = .ok (.if_icmp .ge 60, 3) := by decide +kernel
theorem dX11_warp_36 : decode cX11_warp 36 = .ok (.iload 5, 2) := by decide +kernel
theorem dX11_warp_38 : decode cX11_warp 38 = .ok (.iload 6, 2) := by decide +kernel
theorem dX11_warp_40 : decode cX11_warp 40 = .ok (.iload 4, 2) := by decide +kernel
theorem dX11_warp_42 : decode cX11_warp 42 = .ok (.if_icmp .ge 18, 3) := by decide +kernel
theorem dX11_warp_45 : decode cX11_warp 45 = .ok (.aload_n 0, 1) := by decide +kernel
theorem dX11_warp_46 : decode cX11_warp 46 = .ok (.getfield 84, 3) := by decide +kernel
theorem dX11_warp_49 : decode cX11_warp 49 = .ok (.aload_n 0, 1) := by decide +kernel
theorem dX11_warp_50 : decode cX11_warp 50 = .ok (.getfield 93, 3) := by decide +kernel
theorem dX11_warp_53 : decode cX11_warp 53 = .ok (.iload 6, 2) := by decide +kernel
theorem dX11_warp_55 : decode cX11_warp 55 = .ok (.iaload, 1) := by decide +kernel
theorem dX11_warp_56 : decode cX11_warp 56 = .ok (.iaload, 1) := by decide +kernel
theorem dX11_warp_57 : decode cX11_warp 57 = .ok (.goto 27, 3) := by decide +kernel
theorem dX11_warp_60 : decode cX11_warp 60 = .ok (.iload 6, 2) := by decide +kernel
theorem dX11_warp_62 : decode cX11_warp 62 = .ok (.iload 4, 2) := by decide +kernel
theorem dX11_warp_64 : decode cX11_warp 64 = .ok (.if_icmp .le 19, 3) := by decide +kernel
theorem dX11_warp_67 : decode cX11_warp 67 = .ok (.aload_n 0, 1) := by decide +kernel
theorem dX11_warp_68 : decode cX11_warp 68 = .ok (.getfield 84, 3) := by decide +kernel
theorem dX11_warp_71 : decode cX11_warp 71 = .ok (.aload_n 0, 1) := by decide +kernel
theorem dX11_warp_72 : decode cX11_warp 72 = .ok (.getfield 93, 3) := by decide +kernel
theorem dX11_warp_75 : decode cX11_warp 75 = .ok (.iload 6, 2) := by decide +kernel
theorem dX11_warp_77 : decode cX11_warp 77 = .ok (.iaload, 1) := by decide +kernel
theorem dX11_warp_78 : decode cX11_warp 78 = .ok (.iaload, 1) := by decide +kernel
theorem dX11_warp_79 : decode cX11_warp 79 = .ok (.ineg, 1) := by decide +kernel
theorem dX11_warp_80 : decode cX11_warp 80 = .ok (.goto 4, 3) := by decide +kernel
theorem dX11_warp_83 : decode cX11_warp 83 = .ok (.iconst 0, 1) := by decide +kernel
theorem dX11_warp_84 : decode cX11_warp 84 = .ok (.iadd, 1) := by decide +kernel
theorem dX11_warp_85 : decode cX11_warp 85 = .ok (.istore 5, 2) := by decide +kernel
theorem dX11_warp_87 : decode cX11_warp 87 = .ok (.iinc 6 1, 3) := by decide +kernel
theorem dX11_warp_90 : decode cX11_warp 90 = .ok (.goto (-60), 3) := by decide +kernel
theorem dX11_warp_93 : decode cX11_warp 93 = .ok (.iload_n 3, 1) := by decide +kernel
theorem dX11_warp_94 : decode cX11_warp 94 = .ok (.iload 4, 2) := by decide +kernel
theorem dX11_warp_96 : decode cX11_warp 96 = .ok (.iconst 2, 1) := by decide +kernel
theorem dX11_warp_97 : decode cX11_warp 97 = .ok (.irem, 1) := by decide +kernel
theorem dX11_warp_98 : decode cX11_warp 98 = .ok (.ifCond .ne 7, 3) := by decide +kernel
theorem dX11_warp_101 : decode cX11_warp 101 = .ok (.iconst 1, 1) := by decide +kernel
theorem dX11_warp_102 : decode cX11_warp 102 = .ok (.goto 4, 3) := by decide +kernel
theorem dX11_warp_105 : decode cX11_warp 105 = .ok (.iconst (-1), 1) := by decide +kernel
theorem dX11_warp_106 : decode cX11_warp 106 = .ok (.aload_n 0, 1) := by decide +kernel
theorem dX11_warp_107 : decode cX11_warp 107 = .ok (.getfield 84, 3) := by decide +kernel
theorem dX11_warp_110 : decode cX11_warp 110 = .ok (.aload_n 0, 1) := by decide +kernel
theorem dX11_warp_111 : decode cX11_warp 111 = .ok (.getfield 93, 3) := by decide +kernel
theorem dX11_warp_114 : decode cX11_warp 114 = .ok (.iload 4, 2) := by decide +kernel
theorem dX11_warp_116 : decode cX11_warp 116 = .ok (.iaload, 1) := by decide +kernel
theorem dX11_warp_117 : decode cX11_warp 117 = .ok (.iaload, 1) := by decide +kernel
theorem dX11_warp_118 : decode cX11_warp 118 = .ok (.imul, 1) := by decide +kernel
theorem dX11_warp_119 : decode cX11_warp 119 = .ok (.iload 5, 2) := by decide +kernel
theorem dX11_warp_121 : decode cX11_warp 121 = .ok (.imul, 1) := by decide +kernel
theorem dX11_warp_122 : decode cX11_warp 122 = .ok (.iadd, 1) := by decide +kernel
theorem dX11_warp_123 : decode cX11_warp 123 = .ok (.istore_n 3, 1) := by decide +kernel
theorem dX11_warp_124 : decode cX11_warp 124 = .ok (.iinc 4 1, 3) := by decide +kernel
theorem dX11_warp_127 : decode cX11_warp 127 = .ok (.goto (-109), 3) := by decide +kernel
theorem dX11_warp_130 : decode cX11_warp 130 = .ok (.iload_n 3, 1) := by decide +kernel
theorem dX11_warp_131 : decode cX11_warp 131 = .ok (.ireturn, 1) := by decide +kernel
theorem dX11_best_0 : decode cX11_best 0 = .ok (.iload_n 1, 1) := by decide +kernel
theorem dX11_best_1 : decode cX11_best 1 = .ok (.iconst 1, 1) := by decide +kernel
theorem dX11_best_2 : decode cX11_best 2 = .ok (.if_icmp .lt 15, 3) := by decide +kernel
theorem dX11_best_5 : decode cX11_best 5 = .ok (.iload_n 1, 1) := by decide +kernel
theorem dX11_best_6 : decode cX11_best 6 = .ok (.bipush 9, 2) := by decide +kernel
theorem dX11_best_8 : decode cX11_best 8 = .ok (.if_icmp .gt 9, 3) := by decide +kernel
theorem dX11_best_11 : decode cX11_best 11 = .ok (.iload_n 1, 1) := by decide +kernel
theorem dX11_best_12 : decode cX11_best 12 = .ok (.iconst 2, 1) := by decide +kernel
theorem dX11_best_13 : decode cX11_best 13 = .ok (.irem, 1) := by decide +kernel
theorem dX11_best_14 : decode cX11_best 14 = .ok (.ifCond .ne 5, 3) := by decide +kernel
theorem dX11_best_17 : decode cX11_best 17 = .ok (.iconst (-1), 1) := by decide +kernel
theorem dX11_best_18 : decode cX11_best 18 = .ok (.ireturn, 1) := by decide +kernel
theorem dX11_best_19 : decode cX11_best 19 = .ok (.iload_n 1, 1) := by decide +kernel
theorem dX11_best_20 : decode cX11_best 20 = .ok (.iconst 1, 1) := by decide +kernel
theorem dX11_best_21 : decode cX11_best 21 = .ok (.iadd, 1) := by decide +kernel
theorem dX11_best_22 : decode cX11_best 22 = .ok (.iconst 2, 1) := by decide +kernel
theorem dX11_best_23 : decode cX11_best 23 = .ok (.idiv, 1) := by decide +kernel
theorem dX11_best_24 : decode cX11_best 24 = .ok (.istore 4, 2) := by decide +kernel
theorem dX11_best_26 : decode cX11_best 26 = .ok (.iconst 1, 1) := by decide +kernel
theorem dX11_best_27 : decode cX11_best 27 = .ok (.istore 5, 2) := by decide +kernel
theorem dX11_best_29 : decode cX11_best 29 = .ok (.iconst 0, 1) := by decide +kernel
theorem dX11_best_30 : decode cX11_best 30 = .ok (.istore 6, 2) := by decide +kernel
theorem dX11_best_32 : decode cX11_best 32 = .ok (.iload 6, 2) := by decide +kernel
theorem dX11_best_34 : decode cX11_best 34 = .ok (.iload 4, 2) := by decide +kernel
theorem dX11_best_36 : decode cX11_best 36 = .ok (.if_icmp .ge 16, 3) := by decide +kernel
theorem dX11_best_39 : decode cX11_best 39 = .ok (.iload 5, 2) := by decide +kernel
theorem dX11_best_41 : decode cX11_best 41 = .ok (.bipush 6, 2) := by decide +kernel
theorem dX11_best_43 : decode cX11_best 43 = .ok (.imul, 1) := by decide +kernel
theorem dX11_best_44 : decode cX11_best 44 = .ok (.istore 5, 2) := by decide +kernel
theorem dX11_best_46 : decode cX11_best 46 = .ok (.iinc 6 1, 3) := by decide +kernel
theorem dX11_best_49 : decode cX11_best 49 = .ok (.goto (-17), 3) := by decide +kernel
theorem dX11_best_52 : decode cX11_best 52 = .ok (.iconst (-1), 1) := by decide +kernel
theorem dX11_best_53 : decode cX11_best 53 = .ok (.istore 6, 2) := by decide +kernel
theorem dX11_best_55 : decode cX11_best 55 = .ok (.iconst 0, 1) := by decide +kernel
theorem dX11_best_56 : decode cX11_best 56 = .ok (.istore 7, 2) := by decide +kernel
theorem dX11_best_58 : decode cX11_best 58 = .ok (.iconst 0, 1) := by decide +kernel
theorem dX11_best_59 : decode cX11_best 59 = .ok (.istore 8, 2) := by decide +kernel
theorem dX11_best_61 : decode cX11_best 61 = .ok (.iload 8, 2) := by decide +kernel
theorem dX11_best_63 : decode cX11_best 63 = .ok (.iload 5, 2) := by decide +kernel
theorem dX11_best_65 : decode cX11_best 65 = .ok (.if_icmp .ge 161, 3) := by decide +kernel
theorem dX11_best_68 : decode cX11_best 68 = .ok (.iload 8, 2) := by decide +kernel
theorem dX11_best_70 : decode cX11_best 70 = .ok (.istore 9, 2) := by decide +kernel
theorem dX11_best_72 : decode cX11_best 72 = .ok (.iload 4, 2) := by decide +kernel
theorem dX11_best_74 : decode cX11_best 74 = .ok (.iconst 1, 1) := by decide +kernel
theorem dX11_best_75 : decode cX11_best 75 = .ok (.isub, 1) := by decide +kernel
theorem dX11_best_76 : decode cX11_best 76 = .ok (.istore 10, 2) := by decide +kernel
theorem dX11_best_78 : decode cX11_best 78 = .ok (.iload 10, 2) := by decide +kernel
theorem dX11_best_80 : decode cX11_best 80 = .ok (.ifCond .lt 44, 3) := by decide +kernel
theorem dX11_best_83 : decode cX11_best 83 = .ok (.aload_n 0, 1) := by decide +kernel
theorem dX11_best_84 : decode cX11_best 84 = .ok (.getfield 93, 3) := by decide +kernel
theorem dX11_best_87 : decode cX11_best 87 = .ok (.iload 10, 2) := by decide +kernel
theorem dX11_best_89 : decode cX11_best 89 = .ok (.iload 9, 2) := by decide +kernel
theorem dX11_best_91 : decode cX11_best 91 = .ok (.bipush 6, 2) := by decide +kernel
theorem dX11_best_93 : decode cX11_best 93 = .ok (.irem, 1) := by decide +kernel
theorem dX11_best_94 : decode cX11_best 94 = .ok (.iastore, 1) := by decide +kernel
theorem dX11_best_95 : decode cX11_best 95 = .ok (.aload_n 0, 1) := by decide +kernel
theorem dX11_best_96 : decode cX11_best 96 = .ok (.getfield 93, 3) := by decide +kernel
theorem dX11_best_99 : decode cX11_best 99 = .ok (.iload_n 1, 1) := by decide +kernel
theorem dX11_best_100 : decode cX11_best 100 = .ok (.iconst 1, 1) := by decide +kernel
theorem dX11_best_101 : decode cX11_best 101 = .ok (.isub, 1) := by decide +kernel
theorem dX11_best_102 : decode cX11_best 102 = .ok (.iload 10, 2) := by decide +kernel
theorem dX11_best_104 : decode cX11_best 104 = .ok (.isub, 1) := by decide +kernel
theorem dX11_best_105 : decode cX11_best 105 = .ok (.iload 9, 2) := by decide +kernel
theorem dX11_best_107 : decode cX11_best 107 = .ok (.bipush 6, 2) := by decide +kernel
theorem dX11_best_109 : decode cX11_best 109 = .ok (.irem, 1) := by decide +kernel
theorem dX11_best_110 : decode cX11_best 110 = .ok (.iastore, 1) := by decide +kernel
theorem dX11_best_111 : decode cX11_best 111 = .ok (.iload 9, 2) := by decide +kernel
theorem dX11_best_113 : decode cX11_best 113 = .ok (.bipush 6, 2) := by decide +kernel
theorem dX11_best_115 : decode cX11_best 115 = .ok (.idiv, 1) := by decide +kernel
theorem dX11_best_116 : decode cX11_best 116 = .ok (.istore 9, 2) := by decide +kernel
theorem dX11_best_118 : decode cX11_best 118 = .ok (.iinc 10 (-1), 3) := by decide +kernel
theorem dX11_best_121 : decode cX11_best 121 = .ok (.goto (-43), 3) := by decide +kernel
theorem dX11_best_124 : decode cX11_best 124 = .ok (.aload_n 0, 1) := by decide +kernel
theorem dX11_best_125 : decode cX11_best 125 = .ok (.iload_n 1, 1) := by decide +kernel
theorem dX11_best_126 : decode cX11_best 126 = .ok (.iconst 2, 1) := by decide +kernel
theorem dX11_best_127 : decode cX11_best 127 = .ok (.invokevirtual 309, 3) := by decide +kernel
theorem dX11_best_130 : decode cX11_best 130 = .ok (.istore 10, 2) := by decide +kernel
theorem dX11_best_132 : decode cX11_best 132 = .ok (.aload_n 0, 1) := by decide +kernel
theorem dX11_best_133 : decode cX11_best 133 = .ok (.getfield 96, 3) := by decide +kernel
theorem dX11_best_136 : decode cX11_best 136 = .ok (.aload_n 0, 1) := by decide +kernel
theorem dX11_best_137 : decode cX11_best 137 = .ok (.getfield 93, 3) := by decide +kernel
theorem dX11_best_140 : decode cX11_best 140 = .ok (.iconst 0, 1) := by decide +kernel
theorem dX11_best_141 : decode cX11_best 141 = .ok (.iaload, 1) := by decide +kernel
theorem dX11_best_142 : decode cX11_best 142 = .ok (.baload, 1) := by decide +kernel
theorem dX11_best_143 : decode cX11_best 143 = .ok (.ifCond .eq 77, 3) := by decide +kernel
theorem dX11_best_146 : decode cX11_best 146 = .ok (.aload_n 0, 1) := by decide +kernel
theorem dX11_best_147 : decode cX11_best 147 = .ok (.iload_n 1, 1) := by decide +kernel
theorem dX11_best_148 : decode cX11_best 148 = .ok (.iconst 0, 1) := by decide +kernel
theorem dX11_best_149 : decode cX11_best 149 = .ok (.invokevirtual 309, 3) := by decide +kernel
theorem dX11_best_152 : decode cX11_best 152 = .ok (.iload_n 2, 1) := by decide +kernel
theorem dX11_best_153 : decode cX11_best 153 = .ok (.if_icmp .lt 67, 3) := by decide +kernel
theorem dX11_best_156 : decode cX11_best 156 = .ok (.aload_n 0, 1) := by decide +kernel
theorem dX11_best_157 : decode cX11_best 157 = .ok (.iload_n 1, 1) := by decide +kernel
theorem dX11_best_158 : decode cX11_best 158 = .ok (.iconst 1, 1) := by decide +kernel
theorem dX11_best_159 : decode cX11_best 159 = .ok (.invokevirtual 309, 3) := by decide +kernel
theorem dX11_best_162 : decode cX11_best 162 = .ok (.iload_n 3, 1) := by decide +kernel
theorem dX11_best_163 : decode cX11_best 163 = .ok (.if_icmp .gt 57, 3) := by decide +kernel
theorem dX11_best_166 : decode cX11_best 166 = .ok (.iload 6, 2) := by decide +kernel
theorem dX11_best_168 : decode cX11_best 168 = .ok (.ifCond .lt 13, 3) := by decide +kernel
theorem dX11_best_171 : decode cX11_best 171 = .ok (.iload 10, 2) := by decide +kernel
theorem dX11_best_173 : decode cX11_best 173 = .ok (.iload 7, 2) := by decide +kernel
theorem dX11_best_175 : decode cX11_best 175 = .ok (.if_icmp .lt 6, 3) := by decide +kernel
theorem dX11_best_178 : decode cX11_best 178 = .ok (.goto 42, 3) := by decide +kernel
theorem dX11_best_181 : decode cX11_best 181 = .ok (.iload 10, 2) := by decide +kernel
theorem dX11_best_183 : decode cX11_best 183 = .ok (.istore 7, 2) := by decide +kernel
theorem dX11_best_185 : decode cX11_best 185 = .ok (.iconst 0, 1) := by decide +kernel
theorem dX11_best_186 : decode cX11_best 186 = .ok (.istore 6, 2) := by decide +kernel
theorem dX11_best_188 : decode cX11_best 188 = .ok (.iconst 0, 1) := by decide +kernel
theorem dX11_best_189 : decode cX11_best 189 = .ok (.istore 11, 2) := by decide +kernel
theorem dX11_best_191 : decode cX11_best 191 = .ok (.iload 11, 2) := by decide +kernel
theorem dX11_best_193 : decode cX11_best 193 = .ok (.iload_n 1, 1) := by decide +kernel
theorem dX11_best_194 : decode cX11_best 194 = .ok (.if_icmp .ge 26, 3) := by decide +kernel
theorem dX11_best_197 : decode cX11_best 197 = .ok (.iload 6, 2) := by decide +kernel
theorem dX11_best_199 : decode cX11_best 199 = .ok (.aload_n 0, 1) := by decide +kernel
theorem dX11_best_200 : decode cX11_best 200 = .ok (.getfield 93, 3) := by decide +kernel
theorem dX11_best_203 : decode cX11_best 203 = .ok (.iload 11, 2) := by decide +kernel
theorem dX11_best_205 : decode cX11_best 205 = .ok (.iaload, 1) := by decide +kernel
theorem dX11_best_206 : decode cX11_best 206 = .ok (.iconst 3, 1) := by decide +kernel
theorem dX11_best_207 : decode cX11_best 207 = .ok (.iload 11, 2) := by decide +kernel
theorem dX11_best_209 : decode cX11_best 209 = .ok (.imul, 1) := by decide +kernel
theorem dX11_best_210 : decode cX11_best 210 = .ok (.ishl, 1) := by decide +kernel
theorem dX11_best_211 : decode cX11_best 211 = .ok (.ior, 1) := by decide +kernel
theorem dX11_best_212 : decode cX11_best 212 = .ok (.istore 6, 2) := by decide +kernel
theorem dX11_best_214 : decode cX11_best 214 = .ok (.iinc 11 1, 3) := by decide +kernel
theorem dX11_best_217 : decode cX11_best 217 = .ok (.goto (-26), 3) := by decide +kernel
theorem dX11_best_220 : decode cX11_best 220 = .ok (.iinc 8 1, 3) := by decide +kernel
theorem dX11_best_223 : decode cX11_best 223 = .ok (.goto (-162), 3) := by decide +kernel
theorem dX11_best_226 : decode cX11_best 226 = .ok (.iload 6, 2) := by decide +kernel
theorem dX11_best_228 : decode cX11_best 228 = .ok (.ireturn, 1) := by decide +kernel
theorem dX11_press_0 : decode cX11_press 0 = .ok (.iload_n 1, 1) := by decide +kernel
theorem dX11_press_1 : decode cX11_press 1 = .ok (.iconst 1, 1) := by decide +kernel
theorem dX11_press_2 : decode cX11_press 2 = .ok (.if_icmp .lt 43, 3) := by decide +kernel
theorem dX11_press_5 : decode cX11_press 5 = .ok (.iload_n 1, 1) := by decide +kernel
theorem dX11_press_6 : decode cX11_press 6 = .ok (.bipush 10, 2) := by decide +kernel
theorem dX11_press_8 : decode cX11_press 8 = .ok (.if_icmp .gt 37, 3) := by decide +kernel
theorem dX11_press_11 : decode cX11_press 11 = .ok (.iload_n 2, 1) := by decide +kernel
theorem dX11_press_12 : decode cX11_press 12 = .ok (.ifCond .lt 33, 3) := by decide +kernel
theorem dX11_press_15 : decode cX11_press 15 = .ok (.iload_n 2, 1) := by decide +kernel
theorem dX11_press_16 : decode cX11_press 16 = .ok (.bipush 100, 2) := by decide +kernel
theorem dX11_press_18 : decode cX11_press 18 = .ok (.if_icmp .gt 27, 3) := by decide +kernel
theorem dX11_press_21 : decode cX11_press 21 = .ok (.iload_n 3, 1) := by decide +kernel
theorem dX11_press_22 : decode cX11_press 22 = .ok (.ifCond .lt 23, 3) := by decide +kernel
theorem dX11_press_25 : decode cX11_press 25 = .ok (.iload_n 3, 1) := by decide +kernel
theorem dX11_press_26 : decode cX11_press 26 = .ok (.bipush 10, 2) := by decide +kernel
theorem dX11_press_28 : decode cX11_press 28 = .ok (.if_icmp .gt 17, 3) := by decide +kernel
theorem dX11_press_31 : decode cX11_press 31 = .ok (.iload 4, 2) := by decide +kernel
theorem dX11_press_33 : decode cX11_press 33 = .ok (.iconst 1, 1) := by decide +kernel
theorem dX11_press_34 : decode cX11_press 34 = .ok (.if_icmp .lt 11, 3) := by decide +kernel
theorem dX11_press_37 : decode cX11_press 37 = .ok (.iload 4, 2) := by decide +kernel
theorem dX11_press_39 : decode cX11_press 39 = .ok (.sipush 1000, 3) := by decide +kernel
theorem dX11_press_42 : decode cX11_press 42 = .ok (.if_icmp .le 5, 3) := by decide +kernel
theorem dX11_press_45 : decode cX11_press 45 = .ok (.iconst 0, 1) := by decide +kernel
theorem dX11_press_46 : decode cX11_press 46 = .ok (.ireturn, 1) := by decide +kernel
theorem dX11_press_47 : decode cX11_press 47 = .ok (.aload_n 0, 1) := by decide +kernel
theorem dX11_press_48 : decode cX11_press 48 = .ok (.iload_n 1, 1) := by decide +kernel
theorem dX11_press_49 : decode cX11_press 49 = .ok (.putfield 99, 3) := by decide +kernel
theorem dX11_press_52 : decode cX11_press 52 = .ok (.aload_n 0, 1) := by decide +kernel
theorem dX11_press_53 : decode cX11_press 53 = .ok (.iload_n 2, 1) := by decide +kernel
theorem dX11_press_54 : decode cX11_press 54 = .ok (.putfield 102, 3) := by decide +kernel
theorem dX11_press_57 : decode cX11_press 57 = .ok (.aload_n 0, 1) := by decide +kernel
theorem dX11_press_58 : decode cX11_press 58 = .ok (.iload_n 3, 1) := by decide +kernel
theorem dX11_press_59 : decode cX11_press 59 = .ok (.putfield 105, 3) := by decide +kernel
theorem dX11_press_62 : decode cX11_press 62 = .ok (.aload_n 0, 1) := by decide +kernel
theorem dX11_press_63 : decode cX11_press 63 = .ok (.iload 4, 2) := by decide +kernel
theorem dX11_press_65 : decode cX11_press 65 = .ok (.putfield 108, 3) := by decide +kernel
theorem dX11_press_68 : decode cX11_press 68 = .ok (.iconst 1, 1) := by decide +kernel
theorem dX11_press_69 : decode cX11_press 69 = .ok (.ireturn, 1) := by decide +kernel
theorem dX11_glue_0 : decode cX11_glue 0 = .ok (.aload_n 0, 1) := by decide +kernel
theorem dX11_glue_1 : decode cX11_glue 1 = .ok (.getfield 313, 3) := by decide +kernel
theorem dX11_glue_4 : decode cX11_glue 4 = .ok (.bipush 10, 2) := by decide +kernel
theorem dX11_glue_6 : decode cX11_glue 6 = .ok (.if_icmp .eq 26, 3) := by decide +kernel
theorem dX11_glue_9 : decode cX11_glue 9 = .ok (.iload_n 1, 1) := by decide +kernel
theorem dX11_glue_10 : decode cX11_glue 10 = .ok (.iconst 1, 1) := by decide +kernel
theorem dX11_glue_11 : decode cX11_glue 11 = .ok (.if_icmp .lt 21, 3) := by decide +kernel
theorem dX11_glue_14 : decode cX11_glue 14 = .ok (.iload_n 1, 1) := by decide +kernel
theorem dX11_glue_15 : decode cX11_glue 15 = .ok (.sipush 500, 3) := by decide +kernel
theorem dX11_glue_18 : decode cX11_glue 18 = .ok (.if_icmp .gt 14, 3) := by decide +kernel
theorem dX11_glue_21 : decode cX11_glue 21 = .ok (.iload_n 2, 1) := by decide +kernel
theorem dX11_glue_22 : decode cX11_glue 22 = .ok (.ifCond .lt 10, 3) := by decide +kernel
theorem dX11_glue_25 : decode cX11_glue 25 = .ok (.iload_n 2, 1) := by decide +kernel
theorem dX11_glue_26 : decode cX11_glue 26 = .ok (.sipush 10000, 3) := by decide +kernel
theorem dX11_glue_29 : decode cX11_glue 29 = .ok (.if_icmp .le 5, 3) := by decide +kernel
theorem dX11_glue_32 : decode cX11_glue 32 = .ok (.iconst (-1), 1) := by decide +kernel
theorem dX11_glue_33 : decode cX11_glue 33 = .ok (.ireturn, 1) := by decide +kernel
theorem dX11_glue_34 : decode cX11_glue 34 = .ok (.aload_n 0, 1) := by decide +kernel
theorem dX11_glue_35 : decode cX11_glue 35 = .ok (.getfield 111, 3) := by decide +kernel
theorem dX11_glue_38 : decode cX11_glue 38 = .ok (.aload_n 0, 1) := by decide +kernel
theorem dX11_glue_39 : decode cX11_glue 39 = .ok (.getfield 313, 3) := by decide +kernel
theorem dX11_glue_42 : decode cX11_glue 42 = .ok (.iload_n 1, 1) := by decide +kernel
theorem dX11_glue_43 : decode cX11_glue 43 = .ok (.iastore, 1) := by decide +kernel
theorem dX11_glue_44 : decode cX11_glue 44 = .ok (.aload_n 0, 1) := by decide +kernel
theorem dX11_glue_45 : decode cX11_glue 45 = .ok (.getfield 114, 3) := by decide +kernel
theorem dX11_glue_48 : decode cX11_glue 48 = .ok (.aload_n 0, 1) := by decide +kernel
theorem dX11_glue_49 : decode cX11_glue 49 = .ok (.getfield 313, 3) := by decide +kernel
theorem dX11_glue_52 : decode cX11_glue 52 = .ok (.iload_n 2, 1) := by decide +kernel
theorem dX11_glue_53 : decode cX11_glue 53 = .ok (.iastore, 1) := by decide +kernel
theorem dX11_glue_54 : decode cX11_glue 54 = .ok (.aload_n 0, 1) := by decide +kernel
theorem dX11_glue_55 : decode cX11_glue 55 = .ok (.dup, 1) := by decide +kernel
theorem dX11_glue_56 : decode cX11_glue 56 = .ok (.getfield 313, 3) := by decide +kernel
theorem dX11_glue_59 : decode cX11_glue 59 = .ok (.iconst 1, 1) := by decide +kernel
theorem dX11_glue_60 : decode cX11_glue 60 = .ok (.iadd, 1) := by decide +kernel
theorem dX11_glue_61 : decode cX11_glue 61 = .ok (.putfield 313, 3) := by decide +kernel
theorem dX11_glue_64 : decode cX11_glue 64 = .ok (.aload_n 0, 1) := by decide +kernel
theorem dX11_glue_65 : decode cX11_glue 65 = .ok (.getfield 313, 3) := by decide +kernel
theorem dX11_glue_68 : decode cX11_glue 68 = .ok (.iconst 1, 1) := by decide +kernel
theorem dX11_glue_69 : decode cX11_glue 69 = .ok (.isub, 1) := by decide +kernel
theorem dX11_glue_70 : decode cX11_glue 70 = .ok (.ireturn, 1) := by decide +kernel
theorem dX11_drop_0 : decode cX11_drop 0 = .ok (.aload_n 0, 1) := by decide +kernel
theorem dX11_drop_1 : decode cX11_drop 1 = .ok (.getfield 313, 3) := by decide +kernel
theorem dX11_drop_4 : decode cX11_drop 4 = .ok (.ifCond .ne 5, 3) := by decide +kernel
theorem dX11_drop_7 : decode cX11_drop 7 = .ok (.iconst 0, 1) := by decide +kernel
theorem dX11_drop_8 : decode cX11_drop 8 = .ok (.ireturn, 1) := by decide +kernel
theorem dX11_drop_9 : decode cX11_drop 9 = .ok (.aload_n 0, 1) := by decide +kernel
theorem dX11_drop_10 : decode cX11_drop 10 = .ok (.dup, 1) := by decide +kernel
theorem dX11_drop_11 : decode cX11_drop 11 = .ok (.getfield 313, 3) := by decide +kernel
theorem dX11_drop_14 : decode cX11_drop 14 = .ok (.iconst 1, 1) := by decide +kernel
theorem dX11_drop_15 : decode cX11_drop 15 = .ok (.isub, 1) := by decide +kernel
theorem dX11_drop_16 : decode cX11_drop 16 = .ok (.putfield 313, 3) := by decide +kernel
theorem dX11_drop_19 : decode cX11_drop 19 = .ok (.iconst 1, 1) := by decide +kernel
theorem dX11_drop_20 : decode cX11_drop 20 = .ok (.ireturn, 1) := by decide +kernel
theorem dX11_many_0 : decode cX11_many 0 = .ok (.iconst 0, 1) := by decide +kernel
theorem dX11_many_1 : decode cX11_many 1 = .ok (.istore_n 1, 1) := by decide +kernel
theorem dX11_many_2 : decode cX11_many 2 = .ok (.iconst 0, 1) := by decide +kernel
theorem dX11_many_3 : decode cX11_many 3 = .ok (.istore_n 2, 1) := by decide +kernel
theorem dX11_many_4 : decode cX11_many 4 = .ok (.iload_n 2, 1) := by decide +kernel
theorem dX11_many_5 : decode cX11_many 5 = .ok (.bipush 10, 2) := by decide +kernel
theorem dX11_many_7 : decode cX11_many 7 = .ok (.if_icmp .ge 17, 3) := by decide +kernel
theorem dX11_many_10 : decode cX11_many 10 = .ok (.iload_n 1, 1) := by decide +kernel
theorem dX11_many_11 : decode cX11_many 11 = .ok (.iload_n 0, 1) := by decide +kernel
theorem dX11_many_12 : decode cX11_many 12 = .ok (.iload_n 2, 1) := by decide +kernel
theorem dX11_many_13 : decode cX11_many 13 = .ok (.ishr, 1) := by decide +kernel
theorem dX11_many_14 : decode cX11_many 14 = .ok (.iconst 1, 1) := by decide +kernel
theorem dX11_many_15 : decode cX11_many 15 = .ok (.iand, 1) := by decide +kernel
theorem dX11_many_16 : decode cX11_many 16 = .ok (.iadd, 1) := by decide +kernel
theorem dX11_many_17 : decode cX11_many 17 = .ok (.istore_n 1, 1) := by decide +kernel
theorem dX11_many_18 : decode cX11_many 18 = .ok (.iinc 2 1, 3) := by decide +kernel
theorem dX11_many_21 : decode cX11_many 21 = .ok (.goto (-17), 3) := by decide +kernel
theorem dX11_many_24 : decode cX11_many 24 = .ok (.iload_n 1, 1) := by decide +kernel
theorem dX11_many_25 : decode cX11_many 25 = .ok (.ireturn, 1) := by decide +kernel
theorem dX11_putIn_0 : decode cX11_putIn 0 = .ok (.ldc_w 316, 3) := by decide +kernel
theorem dX11_putIn_3 : decode cX11_putIn 3 = .ok (.istore_n 3, 1) := by decide +kernel
theorem dX11_putIn_4 : decode cX11_putIn 4 = .ok (.iconst 0, 1) := by decide +kernel
theorem dX11_putIn_5 : decode cX11_putIn 5 = .ok (.istore 4, 2) := by decide +kernel
theorem dX11_putIn_7 : decode cX11_putIn 7 = .ok (.iconst (-1), 1) := by decide +kernel
theorem dX11_putIn_8 : decode cX11_putIn 8 = .ok (.istore 5, 2) := by decide +kernel
theorem dX11_putIn_10 : decode cX11_putIn 10 = .ok (.iload_n 1, 1) := by decide +kernel
theorem dX11_putIn_11 : decode cX11_putIn 11 = .ok (.invokestatic 317, 3) := by decide +kernel
theorem dX11_putIn_14 : decode cX11_putIn 14 = .ok (.aload_n 0, 1) := by decide +kernel
theorem dX11_putIn_15 : decode cX11_putIn 15 = .ok (.getfield 99, 3) := by decide +kernel
theorem dX11_putIn_18 : decode cX11_putIn 18 = .ok (.if_icmp .gt 7, 3) := by decide +kernel
theorem dX11_putIn_21 : decode cX11_putIn 21 = .ok (.iconst 1, 1) := by decide +kernel
theorem dX11_putIn_22 : decode cX11_putIn 22 = .ok (.goto 4, 3) := by decide +kernel
theorem dX11_putIn_25 : decode cX11_putIn 25 = .ok (.iconst 0, 1) := by decide +kernel
theorem dX11_putIn_26 : decode cX11_putIn 26 = .ok (.istore 6, 2) := by decide +kernel
theorem dX11_putIn_28 : decode cX11_putIn 28 = .ok (.iconst 0, 1) := by decide +kernel
theorem dX11_putIn_29 : decode cX11_putIn 29 = .ok (.istore 7, 2) := by decide +kernel
theorem dX11_putIn_31 : decode cX11_putIn 31 = .ok (.iload 7, 2) := by decide +kernel
theorem dX11_putIn_33 : decode cX11_putIn 33 = .ok (.aload_n 0, 1) := by decide +kernel
theorem dX11_putIn_34 : decode cX11_putIn 34 = .ok (.getfield 313, 3) := by decide +kernel
theorem dX11_putIn_37 : decode cX11_putIn 37 = .ok (.if_icmp .ge 108, 3) := by decide +kernel
theorem dX11_putIn_40 : decode cX11_putIn 40 = .ok (.iload_n 1, 1) := by decide +kernel
theorem dX11_putIn_41 : decode cX11_putIn 41 = .ok (.iload 7, 2) := by decide +kernel
theorem dX11_putIn_43 : decode cX11_putIn 43 = .ok (.ishr, 1) := by decide +kernel
theorem dX11_putIn_44 : decode cX11_putIn 44 = .ok (.iconst 1, 1) := by decide +kernel
theorem dX11_putIn_45 : decode cX11_putIn 45 = .ok (.iand, 1) := by decide +kernel
theorem dX11_putIn_46 : decode cX11_putIn 46 = .ok (.ifCond .ne 6, 3) := by decide +kernel
theorem dX11_putIn_49 : decode cX11_putIn 49 = .ok (.goto 90, 3) := by decide +kernel
theorem dX11_putIn_52 : decode cX11_putIn 52 = .ok (.iload 6, 2) := by decide +kernel
theorem dX11_putIn_54 : decode cX11_putIn 54 = .ok (.ifCond .eq 24, 3) := by decide +kernel
theorem dX11_putIn_57 : decode cX11_putIn 57 = .ok (.iload 5, 2) := by decide +kernel
theorem dX11_putIn_59 : decode cX11_putIn 59 = .ok (.ifCond .lt 15, 3) := by decide +kernel
theorem dX11_putIn_62 : decode cX11_putIn 62 = .ok (.iload 5, 2) := by decide +kernel
theorem dX11_putIn_64 : decode cX11_putIn 64 = .ok (.aload_n 0, 1) := by decide +kernel
theorem dX11_putIn_65 : decode cX11_putIn 65 = .ok (.getfield 111, 3) := by decide +kernel
theorem dX11_putIn_68 : decode cX11_putIn 68 = .ok (.iload 7, 2) := by decide +kernel
theorem dX11_putIn_70 : decode cX11_putIn 70 = .ok (.iaload, 1) := by decide +kernel
theorem dX11_putIn_71 : decode cX11_putIn 71 = .ok (.if_icmp .ne 7, 3) := by decide +kernel
theorem dX11_putIn_74 : decode cX11_putIn 74 = .ok (.iconst 1, 1) := by decide +kernel
theorem dX11_putIn_75 : decode cX11_putIn 75 = .ok (.goto 4, 3) := by decide +kernel
theorem dX11_putIn_78 : decode cX11_putIn 78 = .ok (.iconst 0, 1) := by decide +kernel
theorem dX11_putIn_79 : decode cX11_putIn 79 = .ok (.istore 6, 2) := by decide +kernel
theorem dX11_putIn_81 : decode cX11_putIn 81 = .ok (.aload_n 0, 1) := by decide +kernel
theorem dX11_putIn_82 : decode cX11_putIn 82 = .ok (.getfield 111, 3) := by decide +kernel
theorem dX11_putIn_85 : decode cX11_putIn 85 = .ok (.iload 7, 2) := by decide +kernel
theorem dX11_putIn_87 : decode cX11_putIn 87 = .ok (.iaload, 1) := by decide +kernel
theorem dX11_putIn_88 : decode cX11_putIn 88 = .ok (.istore 5, 2) := by decide +kernel
theorem dX11_putIn_90 : decode cX11_putIn 90 = .ok (.aload_n 0, 1) := by decide +kernel
theorem dX11_putIn_91 : decode cX11_putIn 91 = .ok (.getfield 114, 3) := by decide +kernel
theorem dX11_putIn_94 : decode cX11_putIn 94 = .ok (.iload 7, 2) := by decide +kernel
theorem dX11_putIn_96 : decode cX11_putIn 96 = .ok (.iaload, 1) := by decide +kernel
theorem dX11_putIn_97 : decode cX11_putIn 97 = .ok (.iload_n 3, 1) := by decide +kernel
theorem dX11_putIn_98 : decode cX11_putIn 98 = .ok (.if_icmp .ge 13, 3) := by decide +kernel
theorem dX11_putIn_101 : decode cX11_putIn 101 = .ok (.aload_n 0, 1) := by decide +kernel
theorem dX11_putIn_102 : decode cX11_putIn 102 = .ok (.getfield 114, 3) := by decide +kernel
theorem dX11_putIn_105 : decode cX11_putIn 105 = .ok (.iload 7, 2) := by decide +kernel
theorem dX11_putIn_107 : decode cX11_putIn 107 = .ok (.iaload, 1) := by decide +kernel
theorem dX11_putIn_108 : decode cX11_putIn 108 = .ok (.goto 4, 3) := by decide +kernel
theorem dX11_putIn_111 : decode cX11_putIn 111 = .ok (.iload_n 3, 1) := by decide +kernel
theorem dX11_putIn_112 : decode cX11_putIn 112 = .ok (.istore_n 3, 1) := by decide +kernel
theorem dX11_putIn_113 : decode cX11_putIn 113 = .ok (.aload_n 0, 1) := by decide +kernel
theorem dX11_putIn_114 : decode cX11_putIn 114 = .ok (.getfield 114, 3) := by decide +kernel
theorem dX11_putIn_117 : decode cX11_putIn 117 = .ok (.iload 7, 2) := by decide +kernel
theorem dX11_putIn_119 : decode cX11_putIn 119 = .ok (.iaload, 1) := by decide +kernel
theorem dX11_putIn_120 : decode cX11_putIn 120 = .ok (.iload 4, 2) := by decide +kernel
theorem dX11_putIn_122 : decode cX11_putIn 122 = .ok (.if_icmp .le 13, 3) := by decide +kernel
theorem dX11_putIn_125 : decode cX11_putIn 125 = .ok (.aload_n 0, 1) := by decide +kernel
theorem dX11_putIn_126 : decode cX11_putIn 126 = .ok (.getfield 114, 3) := by decide +kernel
theorem dX11_putIn_129 : decode cX11_putIn 129 = .ok (.iload 7, 2) := by decide +kernel
theorem dX11_putIn_131 : decode cX11_putIn 131 = .ok (.iaload, 1) := by decide +kernel
theorem dX11_putIn_132 : decode cX11_putIn 132 = .ok (.goto 5, 3) := by decide +kernel
theorem dX11_putIn_135 : decode cX11_putIn 135 = .ok (.iload 4, 2) := by decide +kernel
theorem dX11_putIn_137 : decode cX11_putIn 137 = .ok (.istore 4, 2) := by decide +kernel
theorem dX11_putIn_139 : decode cX11_putIn 139 = .ok (.iinc 7 1, 3) := by decide +kernel
theorem dX11_putIn_142 : decode cX11_putIn 142 = .ok (.goto (-111), 3) := by decide +kernel
theorem dX11_putIn_145 : decode cX11_putIn 145 = .ok (.iload_n 2, 1) := by decide +kernel
theorem dX11_putIn_146 : decode cX11_putIn 146 = .ok (.iload 4, 2) := by decide +kernel
theorem dX11_putIn_148 : decode cX11_putIn 148 = .ok (.if_icmp .le 7, 3) := by decide +kernel
theorem dX11_putIn_151 : decode cX11_putIn 151 = .ok (.iload_n 2, 1) := by decide +kernel
theorem dX11_putIn_152 : decode cX11_putIn 152 = .ok (.goto 5, 3) := by decide +kernel
theorem dX11_putIn_155 : decode cX11_putIn 155 = .ok (.iload 4, 2) := by decide +kernel
theorem dX11_putIn_157 : decode cX11_putIn 157 = .ok (.istore 7, 2) := by decide +kernel
theorem dX11_putIn_159 : decode cX11_putIn 159 = .ok (.iload 6, 2) := by decide +kernel
theorem dX11_putIn_161 : decode cX11_putIn 161 = .ok (.ifCond .eq 19, 3) := by decide +kernel
theorem dX11_putIn_164 : decode cX11_putIn 164 = .ok (.iload 7, 2) := by decide +kernel
theorem dX11_putIn_166 : decode cX11_putIn 166 = .ok (.iload_n 3, 1) := by decide +kernel
theorem dX11_putIn_167 : decode cX11_putIn 167 = .ok (.isub, 1) := by decide +kernel
theorem dX11_putIn_168 : decode cX11_putIn 168 = .ok (.aload_n 0, 1) := by decide +kernel
theorem dX11_putIn_169 : decode cX11_putIn 169 = .ok (.getfield 108, 3) := by decide +kernel
theorem dX11_putIn_172 : decode cX11_putIn 172 = .ok (.if_icmp .gt 8, 3) := by decide +kernel
theorem dX11_putIn_175 : decode cX11_putIn 175 = .ok (.iload 7, 2) := by decide +kernel
theorem dX11_putIn_177 : decode cX11_putIn 177 = .ok (.goto 6, 3) := by decide +kernel
theorem dX11_putIn_180 : decode cX11_putIn 180 = .ok (.ldc_w 316, 3) := by decide +kernel
theorem dX11_putIn_183 : decode cX11_putIn 183 = .ok (.ireturn, 1) := by decide +kernel
theorem dX11_lasts_0 : decode cX11_lasts 0 = .ok (.iconst 0, 1) := by decide +kernel
theorem dX11_lasts_1 : decode cX11_lasts 1 = .ok (.istore_n 2, 1) := by decide +kernel
theorem dX11_lasts_2 : decode cX11_lasts 2 = .ok (.iload_n 1, 1) := by decide +kernel
theorem dX11_lasts_3 : decode cX11_lasts 3 = .ok (.iload_n 2, 1) := by decide +kernel
theorem dX11_lasts_4 : decode cX11_lasts 4 = .ok (.ishr, 1) := by decide +kernel
theorem dX11_lasts_5 : decode cX11_lasts 5 = .ok (.iconst 1, 1) := by decide +kernel
theorem dX11_lasts_6 : decode cX11_lasts 6 = .ok (.iand, 1) := by decide +kernel
theorem dX11_lasts_7 : decode cX11_lasts 7 = .ok (.ifCond .ne 9, 3) := by decide +kernel
theorem dX11_lasts_10 : decode cX11_lasts 10 = .ok (.iinc 2 1, 3) := by decide +kernel
theorem dX11_lasts_13 : decode cX11_lasts 13 = .ok (.goto (-11), 3) := by decide +kernel
theorem dX11_lasts_16 : decode cX11_lasts 16 = .ok (.aload_n 0, 1) := by decide +kernel
theorem dX11_lasts_17 : decode cX11_lasts 17 = .ok (.getfield 102, 3) := by decide +kernel
theorem dX11_lasts_20 : decode cX11_lasts 20 = .ok (.aload_n 0, 1) := by decide +kernel
theorem dX11_lasts_21 : decode cX11_lasts 21 = .ok (.getfield 105, 3) := by decide +kernel
theorem dX11_lasts_24 : decode cX11_lasts 24 = .ok (.aload_n 0, 1) := by decide +kernel
theorem dX11_lasts_25 : decode cX11_lasts 25 = .ok (.getfield 111, 3) := by decide +kernel
theorem dX11_lasts_28 : decode cX11_lasts 28 = .ok (.iload_n 2, 1) := by decide +kernel
theorem dX11_lasts_29 : decode cX11_lasts 29 = .ok (.iaload, 1) := by decide +kernel
theorem dX11_lasts_30 : decode cX11_lasts 30 = .ok (.imul, 1) := by decide +kernel
theorem dX11_lasts_31 : decode cX11_lasts 31 = .ok (.iadd, 1) := by decide +kernel
theorem dX11_lasts_32 : decode cX11_lasts 32 = .ok (.ireturn, 1) := by decide +kernel
theorem dX11_outBy_0 : decode cX11_outBy 0 = .ok (.aload_n 0, 1) := by decide +kernel
theorem dX11_outBy_1 : decode cX11_outBy 1 = .ok (.getfield 117, 3) := by decide +kernel
theorem dX11_outBy_4 : decode cX11_outBy 4 = .ok (.iload_n 1, 1) := by decide +kernel
theorem dX11_outBy_5 : decode cX11_outBy 5 = .ok (.iload_n 2, 1) := by decide +kernel
theorem dX11_outBy_6 : decode cX11_outBy 6 = .ok (.iconst (-1), 1) := by decide +kernel
theorem dX11_outBy_7 : decode cX11_outBy 7 = .ok (.ixor, 1) := by decide +kernel
theorem dX11_outBy_8 : decode cX11_outBy 8 = .ok (.iand, 1) := by decide +kernel
theorem dX11_outBy_9 : decode cX11_outBy 9 = .ok (.iaload, 1) := by decide +kernel
theorem dX11_outBy_10 : decode cX11_outBy 10 = .ok (.istore_n 3, 1) := by decide +kernel
theorem dX11_outBy_11 : decode cX11_outBy 11 = .ok (.iload_n 3, 1) := by decide +kernel
theorem dX11_outBy_12 : decode cX11_outBy 12 = .ok (.ldc_w 316, 3) := by decide +kernel
theorem dX11_outBy_15 : decode cX11_outBy 15 = .ok (.if_icmp .ne 9, 3) := by decide +kernel
theorem dX11_outBy_18 : decode cX11_outBy 18 = .ok (.ldc_w 316, 3) := by decide +kernel
theorem dX11_outBy_21 : decode cX11_outBy 21 = .ok (.goto 9, 3) := by decide +kernel
theorem dX11_outBy_24 : decode cX11_outBy 24 = .ok (.aload_n 0, 1) := by decide +kernel
theorem dX11_outBy_25 : decode cX11_outBy 25 = .ok (.iload_n 2, 1) := by decide +kernel
theorem dX11_outBy_26 : decode cX11_outBy 26 = .ok (.iload_n 3, 1) := by decide +kernel
theorem dX11_outBy_27 : decode cX11_outBy 27 = .ok (.invokevirtual 320, 3) := by decide +kernel
theorem dX11_outBy_30 : decode cX11_outBy 30 = .ok (.istore 4, 2) := by decide +kernel
theorem dX11_outBy_32 : decode cX11_outBy 32 = .ok (.iload 4, 2) := by decide +kernel
theorem dX11_outBy_34 : decode cX11_outBy 34 = .ok (.ldc_w 316, 3) := by decide +kernel
theorem dX11_outBy_37 : decode cX11_outBy 37 = .ok (.if_icmp .ne 9, 3) := by decide +kernel
theorem dX11_outBy_40 : decode cX11_outBy 40 = .ok (.ldc_w 316, 3) := by decide +kernel
theorem dX11_outBy_43 : decode cX11_outBy 43 = .ok (.goto 11, 3) := by decide +kernel
theorem dX11_outBy_46 : decode cX11_outBy 46 = .ok (.iload 4, 2) := by decide +kernel
theorem dX11_outBy_48 : decode cX11_outBy 48 = .ok (.aload_n 0, 1) := by decide +kernel
theorem dX11_outBy_49 : decode cX11_outBy 49 = .ok (.iload_n 2, 1) := by decide +kernel
theorem dX11_outBy_50 : decode cX11_outBy 50 = .ok (.invokevirtual 323, 3) := by decide +kernel
theorem dX11_outBy_53 : decode cX11_outBy 53 = .ok (.iadd, 1) := by decide +kernel
theorem dX11_outBy_54 : decode cX11_outBy 54 = .ok (.ireturn, 1) := by decide +kernel
theorem dX11_seek_0 : decode cX11_seek 0 = .ok (.aload_n 0, 1) := by decide +kernel
theorem dX11_seek_1 : decode cX11_seek 1 = .ok (.iconst 0, 1) := by decide +kernel
theorem dX11_seek_2 : decode cX11_seek 2 = .ok (.putfield 326, 3) := by decide +kernel
theorem dX11_seek_5 : decode cX11_seek 5 = .ok (.aload_n 0, 1) := by decide +kernel
theorem dX11_seek_6 : decode cX11_seek 6 = .ok (.getfield 117, 3) := by decide +kernel
theorem dX11_seek_9 : decode cX11_seek 9 = .ok (.iconst 0, 1) := by decide +kernel
theorem dX11_seek_10 : decode cX11_seek 10 = .ok (.iconst 0, 1) := by decide +kernel
theorem dX11_seek_11 : decode cX11_seek 11 = .ok (.iastore, 1) := by decide +kernel
theorem dX11_seek_12 : decode cX11_seek 12 = .ok (.iconst 1, 1) := by decide +kernel
theorem dX11_seek_13 : decode cX11_seek 13 = .ok (.istore_n 1, 1) := by decide +kernel
theorem dX11_seek_14 : decode cX11_seek 14 = .ok (.iload_n 1, 1) := by decide +kernel
theorem dX11_seek_15 : decode cX11_seek 15 = .ok (.iconst 1, 1) := by decide +kernel
theorem dX11_seek_16 : decode cX11_seek 16 = .ok (.aload_n 0, 1) := by decide +kernel
theorem dX11_seek_17 : decode cX11_seek 17 = .ok (.getfield 313, 3) := by decide +kernel
theorem dX11_seek_20 : decode cX11_seek 20 = .ok (.ishl, 1) := by decide +kernel
theorem dX11_seek_21 : decode cX11_seek 21 = .ok (.if_icmp .ge 124, 3) := by decide +kernel
theorem dX11_seek_24 : decode cX11_seek 24 = .ok (.aload_n 0, 1) := by decide +kernel
theorem dX11_seek_25 : decode cX11_seek 25 = .ok (.getfield 117, 3) := by decide +kernel
theorem dX11_seek_28 : decode cX11_seek 28 = .ok (.iload_n 1, 1) := by decide +kernel
theorem dX11_seek_29 : decode cX11_seek 29 = .ok (.ldc_w 316, 3) := by decide +kernel
theorem dX11_seek_32 : decode cX11_seek 32 = .ok (.iastore, 1) := by decide +kernel
theorem dX11_seek_33 : decode cX11_seek 33 = .ok (.iload_n 1, 1) := by decide +kernel
theorem dX11_seek_34 : decode cX11_seek 34 = .ok (.istore_n 2, 1) := by decide +kernel
theorem dX11_seek_35 : decode cX11_seek 35 = .ok (.iload_n 2, 1) := by decide +kernel
theorem dX11_seek_36 : decode cX11_seek 36 = .ok (.ifCond .le 45, 3) := by decide +kernel
theorem dX11_seek_39 : decode cX11_seek 39 = .ok (.aload_n 0, 1) := by decide +kernel
theorem dX11_seek_40 : decode cX11_seek 40 = .ok (.iload_n 1, 1) := by decide +kernel
theorem dX11_seek_41 : decode cX11_seek 41 = .ok (.iload_n 2, 1) := by decide +kernel
theorem dX11_seek_42 : decode cX11_seek 42 = .ok (.invokevirtual 329, 3) := by decide +kernel
theorem dX11_seek_45 : decode cX11_seek 45 = .ok (.istore_n 3, 1) := by decide +kernel
theorem dX11_seek_46 : decode cX11_seek 46 = .ok (.aload_n 0, 1) := by decide +kernel
theorem dX11_seek_47 : decode cX11_seek 47 = .ok (.getfield 117, 3) := by decide +kernel
theorem dX11_seek_50 : decode cX11_seek 50 = .ok (.iload_n 1, 1) := by decide +kernel
theorem dX11_seek_51 : decode cX11_seek 51 = .ok (.iload_n 3, 1) := by decide +kernel
theorem dX11_seek_52 : decode cX11_seek 52 = .ok (.aload_n 0, 1) := by decide +kernel
theorem dX11_seek_53 : decode cX11_seek 53 = .ok (.getfield 117, 3) := by decide +kernel
theorem dX11_seek_56 : decode cX11_seek 56 = .ok (.iload_n 1, 1) := by decide +kernel
theorem dX11_seek_57 : decode cX11_seek 57 = .ok (.iaload, 1) := by decide +kernel
theorem dX11_seek_58 : decode cX11_seek 58 = .ok (.if_icmp .ge 7, 3) := by decide +kernel
theorem dX11_seek_61 : decode cX11_seek 61 = .ok (.iload_n 3, 1) := by decide +kernel
theorem dX11_seek_62 : decode cX11_seek 62 = .ok (.goto 9, 3) := by decide +kernel
theorem dX11_seek_65 : decode cX11_seek 65 = .ok (.aload_n 0, 1) := by decide +kernel
theorem dX11_seek_66 : decode cX11_seek 66 = .ok (.getfield 117, 3) := by decide +kernel
theorem dX11_seek_69 : decode cX11_seek 69 = .ok (.iload_n 1, 1) := by decide +kernel
theorem dX11_seek_70 : decode cX11_seek 70 = .ok (.iaload, 1) := by decide +kernel
theorem dX11_seek_71 : decode cX11_seek 71 = .ok (.iastore, 1) := by decide +kernel
theorem dX11_seek_72 : decode cX11_seek 72 = .ok (.iload_n 2, 1) := by decide +kernel
theorem dX11_seek_73 : decode cX11_seek 73 = .ok (.iconst 1, 1) := by decide +kernel
theorem dX11_seek_74 : decode cX11_seek 74 = .ok (.isub, 1) := by decide +kernel
theorem dX11_seek_75 : decode cX11_seek 75 = .ok (.iload_n 1, 1) := by decide +kernel
theorem dX11_seek_76 : decode cX11_seek 76 = .ok (.iand, 1) := by decide +kernel
theorem dX11_seek_77 : decode cX11_seek 77 = .ok (.istore_n 2, 1) := by decide +kernel
theorem dX11_seek_78 : decode cX11_seek 78 = .ok (.goto (-43), 3) := by decide +kernel
theorem dX11_seek_81 : decode cX11_seek 81 = .ok (.iload_n 1, 1) := by decide +kernel
theorem dX11_seek_82 : decode cX11_seek 82 = .ok (.invokestatic 317, 3) := by decide +kernel
theorem dX11_seek_85 : decode cX11_seek 85 = .ok (.istore_n 2, 1) := by decide +kernel
theorem dX11_seek_86 : decode cX11_seek 86 = .ok (.aload_n 0, 1) := by decide +kernel
theorem dX11_seek_87 : decode cX11_seek 87 = .ok (.getfield 326, 3) := by decide +kernel
theorem dX11_seek_90 : decode cX11_seek 90 = .ok (.invokestatic 317, 3) := by decide +kernel
theorem dX11_seek_93 : decode cX11_seek 93 = .ok (.istore_n 3, 1) := by decide +kernel
theorem dX11_seek_94 : decode cX11_seek 94 = .ok (.aload_n 0, 1) := by decide +kernel
theorem dX11_seek_95 : decode cX11_seek 95 = .ok (.getfield 117, 3) := by decide +kernel
theorem dX11_seek_98 : decode cX11_seek 98 = .ok (.iload_n 1, 1) := by decide +kernel
theorem dX11_seek_99 : decode cX11_seek 99 = .ok (.iaload, 1) := by decide +kernel
theorem dX11_seek_100 : decode cX11_seek 100 = .ok (.ldc_w 316, 3) := by decide +kernel
theorem dX11_seek_103 : decode cX11_seek 103 = .ok (.if_icmp .ge 36, 3) := by decide +kernel
theorem dX11_seek_106 : decode cX11_seek 106 = .ok (.iload_n 2, 1) := by decide +kernel
theorem dX11_seek_107 : decode cX11_seek 107 = .ok (.iload_n 3, 1) := by decide +kernel
theorem dX11_seek_108 : decode cX11_seek 108 = .ok (.if_icmp .gt 26, 3) := by decide +kernel
theorem dX11_seek_111 : decode cX11_seek 111 = .ok (.iload_n 2, 1) := by decide +kernel
theorem dX11_seek_112 : decode cX11_seek 112 = .ok (.iload_n 3, 1) := by decide +kernel
theorem dX11_seek_113 : decode cX11_seek 113 = .ok (.if_icmp .ne 26, 3) := by decide +kernel
theorem dX11_seek_116 : decode cX11_seek 116 = .ok (.aload_n 0, 1) := by decide +kernel
theorem dX11_seek_117 : decode cX11_seek 117 = .ok (.getfield 117, 3) := by decide +kernel
theorem dX11_seek_120 : decode cX11_seek 120 = .ok (.iload_n 1, 1) := by decide +kernel
theorem dX11_seek_121 : decode cX11_seek 121 = .ok (.iaload, 1) := by decide +kernel
theorem dX11_seek_122 : decode cX11_seek 122 = .ok (.aload_n 0, 1) := by decide +kernel
theorem dX11_seek_123 : decode cX11_seek 123 = .ok (.getfield 117, 3) := by decide +kernel
theorem dX11_seek_126 : decode cX11_seek 126 = .ok (.aload_n 0, 1) := by decide +kernel
theorem dX11_seek_127 : decode cX11_seek 127 = .ok (.getfield 326, 3) := by decide +kernel
theorem dX11_seek_130 : decode cX11_seek 130 = .ok (.iaload, 1) := by decide +kernel
theorem dX11_seek_131 : decode cX11_seek 131 = .ok (.if_icmp .ge 8, 3) := by decide +kernel
theorem dX11_seek_134 : decode cX11_seek 134 = .ok (.aload_n 0, 1) := by decide +kernel
theorem dX11_seek_135 : decode cX11_seek 135 = .ok (.iload_n 1, 1) := by decide +kernel
theorem dX11_seek_136 : decode cX11_seek 136 = .ok (.putfield 326, 3) := by decide +kernel
theorem dX11_seek_139 : decode cX11_seek 139 = .ok (.iinc 1 1, 3) := by decide +kernel
theorem dX11_seek_142 : decode cX11_seek 142 = .ok (.goto (-128), 3) := by decide +kernel
theorem dX11_seek_145 : decode cX11_seek 145 = .ok (.aload_n 0, 1) := by decide +kernel
theorem dX11_seek_146 : decode cX11_seek 146 = .ok (.iconst 0, 1) := by decide +kernel
theorem dX11_seek_147 : decode cX11_seek 147 = .ok (.putfield 332, 3) := by decide +kernel
theorem dX11_seek_150 : decode cX11_seek 150 = .ok (.aload_n 0, 1) := by decide +kernel
theorem dX11_seek_151 : decode cX11_seek 151 = .ok (.getfield 326, 3) := by decide +kernel
theorem dX11_seek_154 : decode cX11_seek 154 = .ok (.istore_n 1, 1) := by decide +kernel
theorem dX11_seek_155 : decode cX11_seek 155 = .ok (.iload_n 1, 1) := by decide +kernel
theorem dX11_seek_156 : decode cX11_seek 156 = .ok (.ifCond .le 87, 3) := by decide +kernel
theorem dX11_seek_159 : decode cX11_seek 159 = .ok (.iconst 1, 1) := by decide +kernel
theorem dX11_seek_160 : decode cX11_seek 160 = .ok (.istore_n 2, 1) := by decide +kernel
theorem dX11_seek_161 : decode cX11_seek 161 = .ok (.iload_n 2, 1) := by decide +kernel
theorem dX11_seek_162 : decode cX11_seek 162 = .ok (.iload_n 1, 1) := by decide +kernel
theorem dX11_seek_163 : decode cX11_seek 163 = .ok (.iconst (-1), 1) := by decide +kernel
theorem dX11_seek_164 : decode cX11_seek 164 = .ok (.ixor, 1) := by decide +kernel
theorem dX11_seek_165 : decode cX11_seek 165 = .ok (.iand, 1) := by decide +kernel
theorem dX11_seek_166 : decode cX11_seek 166 = .ok (.ifCond .ne 18, 3) := by decide +kernel
theorem dX11_seek_169 : decode cX11_seek 169 = .ok (.aload_n 0, 1) := by decide +kernel
theorem dX11_seek_170 : decode cX11_seek 170 = .ok (.iload_n 1, 1) := by decide +kernel
theorem dX11_seek_171 : decode cX11_seek 171 = .ok (.iload_n 2, 1) := by decide +kernel
theorem dX11_seek_172 : decode cX11_seek 172 = .ok (.invokevirtual 329, 3) := by decide +kernel
theorem dX11_seek_175 : decode cX11_seek 175 = .ok (.aload_n 0, 1) := by decide +kernel
theorem dX11_seek_176 : decode cX11_seek 176 = .ok (.getfield 117, 3) := by decide +kernel
theorem dX11_seek_179 : decode cX11_seek 179 = .ok (.iload_n 1, 1) := by decide +kernel
theorem dX11_seek_180 : decode cX11_seek 180 = .ok (.iaload, 1) := by decide +kernel
theorem dX11_seek_181 : decode cX11_seek 181 = .ok (.if_icmp .eq 9, 3) := by decide +kernel
theorem dX11_seek_184 : decode cX11_seek 184 = .ok (.iinc 2 1, 3) := by decide +kernel
theorem dX11_seek_187 : decode cX11_seek 187 = .ok (.goto (-26), 3) := by decide +kernel
theorem dX11_seek_190 : decode cX11_seek 190 = .ok (.aload_n 0, 1) := by decide +kernel
theorem dX11_seek_191 : decode cX11_seek 191 = .ok (.getfield 120, 3) := by decide +kernel
theorem dX11_seek_194 : decode cX11_seek 194 = .ok (.aload_n 0, 1) := by decide +kernel
theorem dX11_seek_195 : decode cX11_seek 195 = .ok (.getfield 332, 3) := by decide +kernel
theorem dX11_seek_198 : decode cX11_seek 198 = .ok (.iload_n 2, 1) := by decide +kernel
theorem dX11_seek_199 : decode cX11_seek 199 = .ok (.iastore, 1) := by decide +kernel
theorem dX11_seek_200 : decode cX11_seek 200 = .ok (.aload_n 0, 1) := by decide +kernel
theorem dX11_seek_201 : decode cX11_seek 201 = .ok (.getfield 123, 3) := by decide +kernel
theorem dX11_seek_204 : decode cX11_seek 204 = .ok (.aload_n 0, 1) := by decide +kernel
theorem dX11_seek_205 : decode cX11_seek 205 = .ok (.getfield 332, 3) := by decide +kernel
theorem dX11_seek_208 : decode cX11_seek 208 = .ok (.aload_n 0, 1) := by decide +kernel
theorem dX11_seek_209 : decode cX11_seek 209 = .ok (.iload_n 2, 1) := by decide +kernel
theorem dX11_seek_210 : decode cX11_seek 210 = .ok (.aload_n 0, 1) := by decide +kernel
theorem dX11_seek_211 : decode cX11_seek 211 = .ok (.getfield 117, 3) := by decide +kernel
theorem dX11_seek_214 : decode cX11_seek 214 = .ok (.iload_n 1, 1) := by decide +kernel
theorem dX11_seek_215 : decode cX11_seek 215 = .ok (.iload_n 2, 1) := by decide +kernel
theorem dX11_seek_216 : decode cX11_seek 216 = .ok (.iconst (-1), 1) := by decide +kernel
theorem dX11_seek_217 : decode cX11_seek 217 = .ok (.ixor, 1) := by decide +kernel
theorem dX11_seek_218 : decode cX11_seek 218 = .ok (.iand, 1) := by decide +kernel
theorem dX11_seek_219 : decode cX11_seek 219 = .ok (.iaload, 1) := by decide +kernel
theorem dX11_seek_220 : decode cX11_seek 220 = .ok (.invokevirtual 320, 3) := by decide +kernel
theorem dX11_seek_223 : decode cX11_seek 223 = .ok (.iastore, 1) := by decide +kernel
theorem dX11_seek_224 : decode cX11_seek 224 = .ok (.aload_n 0, 1) := by decide +kernel
theorem dX11_seek_225 : decode cX11_seek 225 = .ok (.dup, 1) := by decide +kernel
theorem dX11_seek_226 : decode cX11_seek 226 = .ok (.getfield 332, 3) := by decide +kernel
theorem dX11_seek_229 : decode cX11_seek 229 = .ok (.iconst 1, 1) := by decide +kernel
theorem dX11_seek_230 : decode cX11_seek 230 = .ok (.iadd, 1) := by decide +kernel
theorem dX11_seek_231 : decode cX11_seek 231 = .ok (.putfield 332, 3) := by decide +kernel
theorem dX11_seek_234 : decode cX11_seek 234 = .ok (.iload_n 1, 1) := by decide +kernel
theorem dX11_seek_235 : decode cX11_seek 235 = .ok (.iload_n 2, 1) := by decide +kernel
theorem dX11_seek_236 : decode cX11_seek 236 = .ok (.iconst (-1), 1) := by decide +kernel
theorem dX11_seek_237 : decode cX11_seek 237 = .ok (.ixor, 1) := by decide +kernel
theorem dX11_seek_238 : decode cX11_seek 238 = .ok (.iand, 1) := by decide +kernel
theorem dX11_seek_239 : decode cX11_seek 239 = .ok (.istore_n 1, 1) := by decide +kernel
theorem dX11_seek_240 : decode cX11_seek 240 = .ok (.goto (-85), 3) := by decide +kernel
theorem dX11_seek_243 : decode cX11_seek 243 = .ok (.return_, 1) := by decide +kernel
theorem dX11_plan_0 : decode cX11_plan 0 = .ok (.aload_n 0, 1) := by decide +kernel
theorem dX11_plan_1 : decode cX11_plan 1 = .ok (.invokevirtual 335, 3) := by decide +kernel
theorem dX11_plan_4 : decode cX11_plan 4 = .ok (.iload_n 1, 1) := by decide +kernel
theorem dX11_plan_5 : decode cX11_plan 5 = .ok (.ifCond .ne 13, 3) := by decide +kernel
theorem dX11_plan_8 : decode cX11_plan 8 = .ok (.aload_n 0, 1) := by decide +kernel
theorem dX11_plan_9 : decode cX11_plan 9 = .ok (.getfield 326, 3) := by decide +kernel
theorem dX11_plan_12 : decode cX11_plan 12 = .ok (.invokestatic 317, 3) := by decide +kernel
theorem dX11_plan_15 : decode cX11_plan 15 = .ok (.goto 45, 3) := by decide +kernel
theorem dX11_plan_18 : decode cX11_plan 18 = .ok (.iload_n 1, 1) := by decide +kernel
theorem dX11_plan_19 : decode cX11_plan 19 = .ok (.iconst 1, 1) := by decide +kernel
theorem dX11_plan_20 : decode cX11_plan 20 = .ok (.if_icmp .ne 10, 3) := by decide +kernel
theorem dX11_plan_23 : decode cX11_plan 23 = .ok (.aload_n 0, 1) := by decide +kernel
theorem dX11_plan_24 : decode cX11_plan 24 = .ok (.getfield 326, 3) := by decide +kernel
theorem dX11_plan_27 : decode cX11_plan 27 = .ok (.goto 33, 3) := by decide +kernel
theorem dX11_plan_30 : decode cX11_plan 30 = .ok (.iload_n 1, 1) := by decide +kernel
theorem dX11_plan_31 : decode cX11_plan 31 = .ok (.iconst 2, 1) := by decide +kernel
theorem dX11_plan_32 : decode cX11_plan 32 = .ok (.if_icmp .ne 15, 3) := by decide +kernel
theorem dX11_plan_35 : decode cX11_plan 35 = .ok (.aload_n 0, 1) := by decide +kernel
theorem dX11_plan_36 : decode cX11_plan 36 = .ok (.getfield 117, 3) := by decide +kernel
theorem dX11_plan_39 : decode cX11_plan 39 = .ok (.aload_n 0, 1) := by decide +kernel
theorem dX11_plan_40 : decode cX11_plan 40 = .ok (.getfield 326, 3) := by decide +kernel
theorem dX11_plan_43 : decode cX11_plan 43 = .ok (.iaload, 1) := by decide +kernel
theorem dX11_plan_44 : decode cX11_plan 44 = .ok (.goto 16, 3) := by decide +kernel
theorem dX11_plan_47 : decode cX11_plan 47 = .ok (.iload_n 1, 1) := by decide +kernel
theorem dX11_plan_48 : decode cX11_plan 48 = .ok (.iconst 3, 1) := by decide +kernel
theorem dX11_plan_49 : decode cX11_plan 49 = .ok (.if_icmp .ne 10, 3) := by decide +kernel
theorem dX11_plan_52 : decode cX11_plan 52 = .ok (.aload_n 0, 1) := by decide +kernel
theorem dX11_plan_53 : decode cX11_plan 53 = .ok (.getfield 332, 3) := by decide +kernel
theorem dX11_plan_56 : decode cX11_plan 56 = .ok (.goto 4, 3) := by decide +kernel
theorem dX11_plan_59 : decode cX11_plan 59 = .ok (.iconst (-1), 1) := by decide +kernel
theorem dX11_plan_60 : decode cX11_plan 60 = .ok (.ireturn, 1) := by decide +kernel
theorem dX11_load_0 : decode cX11_load 0 = .ok (.aload_n 0, 1) := by decide +kernel
theorem dX11_load_1 : decode cX11_load 1 = .ok (.invokevirtual 335, 3) := by decide +kernel
theorem dX11_load_4 : decode cX11_load 4 = .ok (.iload_n 1, 1) := by decide +kernel
theorem dX11_load_5 : decode cX11_load 5 = .ok (.ifCond .lt 11, 3) := by decide +kernel
theorem dX11_load_8 : decode cX11_load 8 = .ok (.iload_n 1, 1) := by decide +kernel
theorem dX11_load_9 : decode cX11_load 9 = .ok (.aload_n 0, 1) := by decide +kernel
theorem dX11_load_10 : decode cX11_load 10 = .ok (.getfield 332, 3) := by decide +kernel
theorem dX11_load_13 : decode cX11_load 13 = .ok (.if_icmp .lt 7, 3) := by decide +kernel
theorem dX11_load_16 : decode cX11_load 16 = .ok (.iconst (-1), 1) := by decide +kernel
theorem dX11_load_17 : decode cX11_load 17 = .ok (.goto 45, 3) := by decide +kernel
theorem dX11_load_20 : decode cX11_load 20 = .ok (.iload_n 2, 1) := by decide +kernel
theorem dX11_load_21 : decode cX11_load 21 = .ok (.ifCond .ne 19, 3) := by decide +kernel
theorem dX11_load_24 : decode cX11_load 24 = .ok (.aload_n 0, 1) := by decide +kernel
theorem dX11_load_25 : decode cX11_load 25 = .ok (.getfield 120, 3) := by decide +kernel
theorem dX11_load_28 : decode cX11_load 28 = .ok (.aload_n 0, 1) := by decide +kernel
theorem dX11_load_29 : decode cX11_load 29 = .ok (.getfield 332, 3) := by decide +kernel
theorem dX11_load_32 : decode cX11_load 32 = .ok (.iconst 1, 1) := by decide +kernel
theorem dX11_load_33 : decode cX11_load 33 = .ok (.isub, 1) := by decide +kernel
theorem dX11_load_34 : decode cX11_load 34 = .ok (.iload_n 1, 1) := by decide +kernel
theorem dX11_load_35 : decode cX11_load 35 = .ok (.isub, 1) := by decide +kernel
theorem dX11_load_36 : decode cX11_load 36 = .ok (.iaload, 1) := by decide +kernel
theorem dX11_load_37 : decode cX11_load 37 = .ok (.goto 25, 3) := by decide +kernel
theorem dX11_load_40 : decode cX11_load 40 = .ok (.iload_n 2, 1) := by decide +kernel
theorem dX11_load_41 : decode cX11_load 41 = .ok (.iconst 1, 1) := by decide +kernel
theorem dX11_load_42 : decode cX11_load 42 = .ok (.if_icmp .ne 19, 3) := by decide +kernel
theorem dX11_load_45 : decode cX11_load 45 = .ok (.aload_n 0, 1) := by decide +kernel
theorem dX11_load_46 : decode cX11_load 46 = .ok (.getfield 123, 3) := by decide +kernel
theorem dX11_load_49 : decode cX11_load 49 = .ok (.aload_n 0, 1) := by decide +kernel
theorem dX11_load_50 : decode cX11_load 50 = .ok (.getfield 332, 3) := by decide +kernel
theorem dX11_load_53 : decode cX11_load 53 = .ok (.iconst 1, 1) := by decide +kernel
theorem dX11_load_54 : decode cX11_load 54 = .ok (.isub, 1) := by decide +kernel
theorem dX11_load_55 : decode cX11_load 55 = .ok (.iload_n 1, 1) := by decide +kernel
theorem dX11_load_56 : decode cX11_load 56 = .ok (.isub, 1) := by decide +kernel
theorem dX11_load_57 : decode cX11_load 57 = .ok (.iaload, 1) := by decide +kernel
theorem dX11_load_58 : decode cX11_load 58 = .ok (.goto 4, 3) := by decide +kernel
theorem dX11_load_61 : decode cX11_load 61 = .ok (.iconst (-1), 1) := by decide +kernel
theorem dX11_load_62 : decode cX11_load 62 = .ok (.ireturn, 1) := by decide +kernel
theorem dX11_about_0 : decode cX11_about 0 = .ok (.iload_n 1, 1) := by decide +kernel
theorem dX11_about_1 : decode cX11_about 1 = .ok (.ifCond .ne 10, 3) := by decide +kernel
theorem dX11_about_4 : decode cX11_about 4 = .ok (.aload_n 0, 1) := by decide +kernel
theorem dX11_about_5 : decode cX11_about 5 = .ok (.getfield 278, 3) := by decide +kernel
theorem dX11_about_8 : decode cX11_about 8 = .ok (.goto 40, 3) := by decide +kernel
theorem dX11_about_11 : decode cX11_about 11 = .ok (.iload_n 1, 1) := by decide +kernel
theorem dX11_about_12 : decode cX11_about 12 = .ok (.iconst 1, 1) := by decide +kernel
theorem dX11_about_13 : decode cX11_about 13 = .ok (.if_icmp .ne 10, 3) := by decide +kernel
theorem dX11_about_16 : decode cX11_about 16 = .ok (.aload_n 0, 1) := by decide +kernel
theorem dX11_about_17 : decode cX11_about 17 = .ok (.getfield 284, 3) := by decide +kernel
theorem dX11_about_20 : decode cX11_about 20 = .ok (.goto 28, 3) := by decide +kernel
theorem dX11_about_23 : decode cX11_about 23 = .ok (.iload_n 1, 1) := by decide +kernel
theorem dX11_about_24 : decode cX11_about 24 = .ok (.iconst 2, 1) := by decide +kernel
theorem dX11_about_25 : decode cX11_about 25 = .ok (.if_icmp .ne 10, 3) := by decide +kernel
theorem dX11_about_28 : decode cX11_about 28 = .ok (.aload_n 0, 1) := by decide +kernel
theorem dX11_about_29 : decode cX11_about 29 = .ok (.getfield 313, 3) := by decide +kernel
theorem dX11_about_32 : decode cX11_about 32 = .ok (.goto 16, 3) := by decide +kernel
theorem dX11_about_35 : decode cX11_about 35 = .ok (.iload_n 1, 1) := by decide +kernel
theorem dX11_about_36 : decode cX11_about 36 = .ok (.iconst 3, 1) := by decide +kernel
theorem dX11_about_37 : decode cX11_about 37 = .ok (.if_icmp .ne 10, 3) := by decide +kernel
theorem dX11_about_40 : decode cX11_about 40 = .ok (.aload_n 0, 1) := by decide +kernel
theorem dX11_about_41 : decode cX11_about 41 = .ok (.getfield 147, 3) := by decide +kernel
theorem dX11_about_44 : decode cX11_about 44 = .ok (.goto 4, 3) := by decide +kernel
theorem dX11_about_47 : decode cX11_about 47 = .ok (.iconst (-1), 1) := by decide +kernel
theorem dX11_about_48 : decode cX11_about 48 = .ok (.ireturn, 1) := by decide +kernel
theorem dJ6_bitCount_0f7a4_0 : decode cJ6_bitCount_0f7a4 0 = .ok (.iload_n 0, 1) := by decide +kernel
theorem dJ6_bitCount_0f7a4_1 : decode cJ6_bitCount_0f7a4 1 = .ok (.iload_n 0, 1) := by decide +kernel
theorem dJ6_bitCount_0f7a4_2 : decode cJ6_bitCount_0f7a4 2 = .ok (.iconst 1, 1) := by decide +kernel
theorem dJ6_bitCount_0f7a4_3 : decode cJ6_bitCount_0f7a4 3 = .ok (.iushr, 1) := by decide +kernel
theorem dJ6_bitCount_0f7a4_4 : decode cJ6_bitCount_0f7a4 4 = .ok (.ldc_w 265, 3) := by decide +kernel
theorem dJ6_bitCount_0f7a4_7 : decode cJ6_bitCount_0f7a4 7 = .ok (.iand, 1) := by decide +kernel
theorem dJ6_bitCount_0f7a4_8 : decode cJ6_bitCount_0f7a4 8 = .ok (.isub, 1) := by decide +kernel
theorem dJ6_bitCount_0f7a4_9 : decode cJ6_bitCount_0f7a4 9 = .ok (.istore_n 0, 1) := by decide +kernel
theorem dJ6_bitCount_0f7a4_10 : decode cJ6_bitCount_0f7a4 10 = .ok (.iload_n 0, 1) := by decide +kernel
theorem dJ6_bitCount_0f7a4_11 : decode cJ6_bitCount_0f7a4 11 = .ok (.ldc_w 266, 3) := by decide +kernel
theorem dJ6_bitCount_0f7a4_14 : decode cJ6_bitCount_0f7a4 14 = .ok (.iand, 1) := by decide +kernel
theorem dJ6_bitCount_0f7a4_15 : decode cJ6_bitCount_0f7a4 15 = .ok (.iload_n 0, 1) := by decide +kernel
theorem dJ6_bitCount_0f7a4_16 : decode cJ6_bitCount_0f7a4 16 = .ok (.iconst 2, 1) := by decide +kernel
theorem dJ6_bitCount_0f7a4_17 : decode cJ6_bitCount_0f7a4 17 = .ok (.iushr, 1) := by decide +kernel
theorem dJ6_bitCount_0f7a4_18 : decode cJ6_bitCount_0f7a4 18 = .ok (.ldc_w 266, 3) := by decide +kernel
theorem dJ6_bitCount_0f7a4_21 : decode cJ6_bitCount_0f7a4 21 = .ok (.iand, 1) := by decide +kernel
theorem dJ6_bitCount_0f7a4_22 : decode cJ6_bitCount_0f7a4 22 = .ok (.iadd, 1) := by decide +kernel
theorem dJ6_bitCount_0f7a4_23 : decode cJ6_bitCount_0f7a4 23 = .ok (.istore_n 0, 1) := by decide +kernel
theorem dJ6_bitCount_0f7a4_24 : decode cJ6_bitCount_0f7a4 24 = .ok (.iload_n 0, 1) := by decide +kernel
theorem dJ6_bitCount_0f7a4_25 : decode cJ6_bitCount_0f7a4 25 = .ok (.iload_n 0, 1) := by decide +kernel
theorem dJ6_bitCount_0f7a4_26 : decode cJ6_bitCount_0f7a4 26 = .ok (.iconst 4, 1) := by decide +kernel
theorem dJ6_bitCount_0f7a4_27 : decode cJ6_bitCount_0f7a4 27 = .ok (.iushr, 1) := by decide +kernel
theorem dJ6_bitCount_0f7a4_28 : decode cJ6_bitCount_0f7a4 28 = .ok (.iadd, 1) := by decide +kernel
theorem dJ6_bitCount_0f7a4_29 : decode cJ6_bitCount_0f7a4 29 = .ok (.ldc_w 267, 3) := by decide +kernel
theorem dJ6_bitCount_0f7a4_32 : decode cJ6_bitCount_0f7a4 32 = .ok (.iand, 1) := by decide +kernel
theorem dJ6_bitCount_0f7a4_33 : decode cJ6_bitCount_0f7a4 33 = .ok (.istore_n 0, 1) := by decide +kernel
theorem dJ6_bitCount_0f7a4_34 : decode cJ6_bitCount_0f7a4 34 = .ok (.iload_n 0, 1) := by decide +kernel
theorem dJ6_bitCount_0f7a4_35 : decode cJ6_bitCount_0f7a4 35 = .ok (.iload_n 0, 1) := by decide +kernel
theorem dJ6_bitCount_0f7a4_36 : decode cJ6_bitCount_0f7a4 36 = .ok (.bipush 8, 2) := by decide +kernel
theorem dJ6_bitCount_0f7a4_38 : decode cJ6_bitCount_0f7a4 38 = .ok (.iushr, 1) := by decide +kernel
theorem dJ6_bitCount_0f7a4_39 : decode cJ6_bitCount_0f7a4 39 = .ok (.iadd, 1) := by decide +kernel
theorem dJ6_bitCount_0f7a4_40 : decode cJ6_bitCount_0f7a4 40 = .ok (.istore_n 0, 1) := by decide +kernel
theorem dJ6_bitCount_0f7a4_41 : decode cJ6_bitCount_0f7a4 41 = .ok (.iload_n 0, 1) := by decide +kernel
theorem dJ6_bitCount_0f7a4_42 : decode cJ6_bitCount_0f7a4 42 = .ok (.iload_n 0, 1) := by decide +kernel
theorem dJ6_bitCount_0f7a4_43 : decode cJ6_bitCount_0f7a4 43 = .ok (.bipush 16, 2) := by decide +kernel
theorem dJ6_bitCount_0f7a4_45 : decode cJ6_bitCount_0f7a4 45 = .ok (.iushr, 1) := by decide +kernel
theorem dJ6_bitCount_0f7a4_46 : decode cJ6_bitCount_0f7a4 46 = .ok (.iadd, 1) := by decide +kernel
theorem dJ6_bitCount_0f7a4_47 : decode cJ6_bitCount_0f7a4 47 = .ok (.istore_n 0, 1) := by decide +kernel
theorem dJ6_bitCount_0f7a4_48 : decode cJ6_bitCount_0f7a4 48 = .ok (.iload_n 0, 1) := by decide +kernel
theorem dJ6_bitCount_0f7a4_49 : decode cJ6_bitCount_0f7a4 49 = .ok (.bipush 63, 2) := by decide +kernel
theorem dJ6_bitCount_0f7a4_51 : decode cJ6_bitCount_0f7a4 51 = .ok (.iand, 1) := by decide +kernel
theorem dJ6_bitCount_0f7a4_52 : decode cJ6_bitCount_0f7a4 52 = .ok (.ireturn, 1) := by decide +kernel
theorem dJ9_max_7cf53_0 : decode cJ9_max_7cf53 0 = .ok (.iload_n 0, 1) := by decide +kernel
theorem dJ9_max_7cf53_1 : decode cJ9_max_7cf53 1 = .ok (.iload_n 1, 1) := by decide +kernel
theorem dJ9_max_7cf53_2 : decode cJ9_max_7cf53 2 = .ok (.if_icmp .lt 7, 3) := by decide +kernel
theorem dJ9_max_7cf53_5 : decode cJ9_max_7cf53 5 = .ok (.iload_n 0, 1) := by decide +kernel
theorem dJ9_max_7cf53_6 : decode cJ9_max_7cf53 6 = .ok (.goto 4, 3) := by decide +kernel
theorem dJ9_max_7cf53_9 : decode cJ9_max_7cf53 9 = .ok (.iload_n 1, 1) := by decide +kernel
theorem dJ9_max_7cf53_10 : decode cJ9_max_7cf53 10 = .ok (.ireturn, 1) := by decide +kernel
theorem dJ9_min_7cf53_0 : decode cJ9_min_7cf53 0 = .ok (.iload_n 0, 1) := by decide +kernel
theorem dJ9_min_7cf53_1 : decode cJ9_min_7cf53 1 = .ok (.iload_n 1, 1) := by decide +kernel
theorem dJ9_min_7cf53_2 : decode cJ9_min_7cf53 2 = .ok (.if_icmp .gt 7, 3) := by decide +kernel
theorem dJ9_min_7cf53_5 : decode cJ9_min_7cf53 5 = .ok (.iload_n 0, 1) := by decide +kernel
theorem dJ9_min_7cf53_6 : decode cJ9_min_7cf53 6 = .ok (.goto 4, 3) := by decide +kernel
theorem dJ9_min_7cf53_9 : decode cJ9_min_7cf53 9 = .ok (.iload_n 1, 1) := by decide +kernel
theorem dJ9_min_7cf53_10 : decode cJ9_min_7cf53 10 = .ok (.ireturn, 1) := by decide +kernel
theorem dJ0_length_8abf5_0 : decode cJ0_length_8abf5 0 = .ok (.aload_n 0, 1) := by decide +kernel
theorem dJ0_length_8abf5_1 : decode cJ0_length_8abf5 1 = .ok (.getfield 9, 3) := by decide +kernel
theorem dJ0_length_8abf5_4 : decode cJ0_length_8abf5 4 = .ok (.arraylength, 1) := by decide +kernel
theorem dJ0_length_8abf5_5 : decode cJ0_length_8abf5 5 = .ok (.aload_n 0, 1) := by decide +kernel
theorem dJ0_length_8abf5_6 : decode cJ0_length_8abf5 6 = .ok (.invokevirtual 335, 3) := by decide +kernel
theorem dJ0_length_8abf5_9 : decode cJ0_length_8abf5 9 = .ok (.ishr, 1) := by decide +kernel
theorem dJ0_length_8abf5_10 : decode cJ0_length_8abf5 10 = .ok (.ireturn, 1) := by decide +kernel
theorem dJ0_charAt_5068e_0 : decode cJ0_charAt_5068e 0 = .ok (.aload_n 0, 1) := by decide +kernel
theorem dJ0_charAt_5068e_1 : decode cJ0_charAt_5068e 1 = .ok (.invokevirtual 492, 3) := by decide +kernel
theorem dJ0_charAt_5068e_4 : decode cJ0_charAt_5068e 4 = .ok (.ifCond .eq 12, 3) := by decide +kernel
theorem dJ0_charAt_5068e_7 : decode cJ0_charAt_5068e 7 = .ok (.aload_n 0, 1) := by decide +kernel
theorem dJ0_charAt_5068e_8 : decode cJ0_charAt_5068e 8 = .ok (.getfield 9, 3) := by decide +kernel
theorem dJ0_charAt_5068e_11 : decode cJ0_charAt_5068e 11 = .ok (.iload_n 1, 1) := by decide +kernel
theorem dJ0_charAt_5068e_12 : decode cJ0_charAt_5068e 12 = .ok (.invokestatic 495, 3) := by decide +kernel
theorem dJ0_charAt_5068e_15 : decode cJ0_charAt_5068e 15 = .ok (.ireturn, 1) := by decide +kernel
theorem dJ0_charAt_5068e_16 : decode cJ0_charAt_5068e 16 = .ok (.aload_n 0, 1) := by decide +kernel
theorem dJ0_charAt_5068e_17 : decode cJ0_charAt_5068e 17 = .ok (.getfield 9, 3) := by decide +kernel
theorem dJ0_charAt_5068e_20 : decode cJ0_charAt_5068e 20 = .ok (.iload_n 1, 1) := by decide +kernel
theorem dJ0_charAt_5068e_21 : decode cJ0_charAt_5068e 21 = .ok (.invokestatic 498, 3) := by decide +kernel
theorem dJ0_charAt_5068e_24 : decode cJ0_charAt_5068e 24 = .ok (.ireturn, 1) := by decide +kernel
theorem dJ0_coder_7d493_0 : decode cJ0_coder_7d493 0 = .ok (.getstatic 38, 3) := by decide +kernel
theorem dJ0_coder_7d493_3 : decode cJ0_coder_7d493 3 = .ok (.ifCond .eq 10, 3) := by decide +kernel
theorem dJ0_coder_7d493_6 : decode cJ0_coder_7d493 6 = .ok (.aload_n 0, 1) := by decide +kernel
theorem dJ0_coder_7d493_7 : decode cJ0_coder_7d493 7 = .ok (.getfield 15, 3) := by decide +kernel
theorem dJ0_coder_7d493_10 : decode cJ0_coder_7d493 10 = .ok (.goto 4, 3) := by decide +kernel
theorem dJ0_coder_7d493_13 : decode cJ0_coder_7d493 13 = .ok (.iconst 1, 1) := by decide +kernel
theorem dJ0_coder_7d493_14 : decode cJ0_coder_7d493 14 = .ok (.ireturn, 1) := by decide +kernel
theorem dJ0_isLatin1_aae02_0 : decode cJ0_isLatin1_aae02 0 = .ok (.getstatic 38, 3) := by decide +kernel
theorem dJ0_isLatin1_aae02_3 : decode cJ0_isLatin1_aae02 3 = .ok (.ifCond .eq 14, 3) := by decide +kernel
theorem dJ0_isLatin1_aae02_6 : decode cJ0_isLatin1_aae02 6 = .ok (.aload_n 0, 1) := by decide +kernel
theorem dJ0_isLatin1_aae02_7 : decode cJ0_isLatin1_aae02 7 = .ok (.getfield 15, 3) := by decide +kernel
theorem dJ0_isLatin1_aae02_10 : decode cJ0_isLatin1_aae02 10 = .ok (.ifCond .ne 7, 3) := by decide +kernel
theorem dJ0_isLatin1_aae02_13 : decode cJ0_isLatin1_aae02 13 = .ok (.iconst 1, 1) := by decide +kernel
theorem dJ0_isLatin1_aae02_14 : decode cJ0_isLatin1_aae02 14 = .ok (.goto 4, 3) := by decide +kernel
theorem dJ0_isLatin1_aae02_17 : decode cJ0_isLatin1_aae02 17 = .ok (.iconst 0, 1) := by decide +kernel
theorem dJ0_isLatin1_aae02_18 : decode cJ0_isLatin1_aae02 18 = .ok (.ireturn, 1) := by decide +kernel
theorem dJ0_checkIndex_df160_0 : decode cJ0_checkIndex_df160 0 = .ok (.iload_n 0, 1) := by decide +kernel
theorem dJ0_checkIndex_df160_1 : decode cJ0_checkIndex_df160 1 = .ok (.iload_n 1, 1) := by decide +kernel
theorem dJ0_checkIndex_df160_2 : decode cJ0_checkIndex_df160 2 = .ok (.getstatic 1053, 3) := by decide +kernel
theorem dJ0_checkIndex_df160_5 : decode cJ0_checkIndex_df160 5 = .ok (.invokestatic 1059, 3) := by decide +kernel
theorem dJ0_checkIndex_df160_8 : decode cJ0_checkIndex_df160 8 = .ok (.pop, 1) := by decide +kernel
theorem dJ0_checkIndex_df160_9 : decode cJ0_checkIndex_df160 9 = .ok (.return_, 1) := by decide +kernel
theorem dJ1_charAt_3b067_0 : decode cJ1_charAt_3b067 0 = .ok (.iload_n 1, 1) := by decide +kernel
theorem dJ1_charAt_3b067_1 : decode cJ1_charAt_3b067 1 = .ok (.aload_n 0, 1) := by decide +kernel
theorem dJ1_charAt_3b067_2 : decode cJ1_charAt_3b067 2 = .ok (.arraylength, 1) := by decide +kernel
theorem dJ1_charAt_3b067_3 : decode cJ1_charAt_3b067 3 = .ok (.invokestatic 9, 3) := by decide +kernel
theorem dJ1_charAt_3b067_6 : decode cJ1_charAt_3b067 6 = .ok (.aload_n 0, 1) := by decide +kernel
theorem dJ1_charAt_3b067_7 : decode cJ1_charAt_3b067 7 = .ok (.iload_n 1, 1) := by decide +kernel
theorem dJ1_charAt_3b067_8 : decode cJ1_charAt_3b067 8 = .ok (.baload, 1) := by decide +kernel
theorem dJ1_charAt_3b067_9 : decode cJ1_charAt_3b067 9 = .ok (.sipush 255, 3) := by decide +kernel
theorem dJ1_charAt_3b067_12 : decode cJ1_charAt_3b067 12 = .ok (.iand, 1) := by decide +kernel
theorem dJ1_charAt_3b067_13 : decode cJ1_charAt_3b067 13 = .ok (.i2c, 1) := by decide +kernel
theorem dJ1_charAt_3b067_14 : decode cJ1_charAt_3b067 14 = .ok (.ireturn, 1) := by decide +kernel
theorem dJ2_getChar_3b067_0 : decode cJ2_getChar_3b067 0 = .ok (.getstatic 44, 3) := by decide +kernel
theorem dJ2_getChar_3b067_3 : decode cJ2_getChar_3b067 3 = .ok (.ifCond .ne 25, 3) := by decide +kernel
theorem dJ2_getChar_3b067_6 : decode cJ2_getChar_3b067 6 = .ok (.iload_n 1, 1) := by decide +kernel
theorem dJ2_getChar_3b067_7 : decode cJ2_getChar_3b067 7 = .ok (.ifCond .lt 11, 3) := by decide +kernel
theorem dJ2_getChar_3b067_10 : decode cJ2_getChar_3b067 10 = .ok (.iload_n 1, 1) := by decide +kernel
theorem dJ2_getChar_3b067_11 : decode cJ2_getChar_3b067 11 = .ok (.aload_n 0, 1) := by decide +kernel
theorem dJ2_getChar_3b067_12 : decode cJ2_getChar_3b067 12 = .ok (.invokestatic 48, 3) := by decide +kernel
theorem dJ2_getChar_3b067_15 : decode cJ2_getChar_3b067 15 = .ok (.if_icmp .lt 13, 3) := by decide +kernel
theorem dJ2_getChar_3b067_18 : decode cJ2_getChar_3b067 18 = .ok (.new 52, 3) := by decide +kernel
theorem dJ2_getChar_3b067_21 : decode cJ2_getChar_3b067 21 = .ok (.dup, 1) := by decide +kernel
theorem dJ2_getChar_3b067_22 : decode cJ2_getChar_3b067 22 = .ok (.ldc 54, 2) := by decide +kernel
theorem dJ2_getChar_3b067_24 : decode cJ2_getChar_3b067 24 = .ok (.invokespecial 56, 3) := by decide +kernel
theorem dJ2_getChar_3b067_27 : decode cJ2_getChar_3b067 27 = .ok (.athrow, 1) := by decide +kernel
theorem dJ2_getChar_3b067_28 : decode cJ2_getChar_3b067 28 = .ok (.iload_n 1, 1) := by decide +kernel
theorem dJ2_getChar_3b067_29 : decode cJ2_getChar_3b067 29 = .ok (.iconst 1, 1) := by decide +kernel
theorem dJ2_getChar_3b067_30 : decode cJ2_getChar_3b067 30 = .ok (.ishl, 1) := by decide +kernel
theorem dJ2_getChar_3b067_31 : decode cJ2_getChar_3b067 31 = .ok (.istore_n 1, 1) := by decide +kernel
theorem dJ2_getChar_3b067_32 : decode cJ2_getChar_3b067 32 = .ok (.aload_n 0, 1) := by decide +kernel
theorem dJ2_getChar_3b067_33 : decode cJ2_getChar_3b067 33 = .ok (.iload_n 1, 1) := by decide +kernel
theorem dJ2_getChar_3b067_34 : decode cJ2_getChar_3b067 34 = .ok (.iinc 1 1, 3) := by decide +kernel
theorem dJ2_getChar_3b067_37 : decode cJ2_getChar_3b067 37 = .ok (.baload, 1) := by decide +kernel
theorem dJ2_getChar_3b067_38 : decode cJ2_getChar_3b067 38 = .ok (.sipush 255, 3) := by decide +kernel
theorem dJ2_getChar_3b067_41 : decode cJ2_getChar_3b067 41 = .ok (.iand, 1) := by decide +kernel
theorem dJ2_getChar_3b067_42 : decode cJ2_getChar_3b067 42 = .ok (.getstatic 59, 3) := by decide +kernel
theorem dJ2_getChar_3b067_45 : decode cJ2_getChar_3b067 45 = .ok (.ishl, 1) := by decide +kernel
theorem dJ2_getChar_3b067_46 : decode cJ2_getChar_3b067 46 = .ok (.aload_n 0, 1) := by decide +kernel
theorem dJ2_getChar_3b067_47 : decode cJ2_getChar_3b067 47 = .ok (.iload_n 1, 1) := by decide +kernel
theorem dJ2_getChar_3b067_48 : decode cJ2_getChar_3b067 48 = .ok (.baload, 1) := by decide +kernel
theorem dJ2_getChar_3b067_49 : decode cJ2_getChar_3b067 49 = .ok (.sipush 255, 3) := by decide +kernel
theorem dJ2_getChar_3b067_52 : decode cJ2_getChar_3b067 52 = .ok (.iand, 1) := by decide +kernel
theorem dJ2_getChar_3b067_53 : decode cJ2_getChar_3b067 53 = .ok (.getstatic 63, 3) := by decide +kernel
theorem dJ2_getChar_3b067_56 : decode cJ2_getChar_3b067 56 = .ok (.ishl, 1) := by decide +kernel
theorem dJ2_getChar_3b067_57 : decode cJ2_getChar_3b067 57 = .ok (.ior, 1) := by decide +kernel
theorem dJ2_getChar_3b067_58 : decode cJ2_getChar_3b067 58 = .ok (.i2c, 1) := by decide +kernel
theorem dJ2_getChar_3b067_59 : decode cJ2_getChar_3b067 59 = .ok (.ireturn, 1) := by decide +kernel
theorem dJ2_length_9d52b_0 : decode cJ2_length_9d52b 0 = .ok (.aload_n 0, 1) := by decide +kernel
theorem dJ2_length_9d52b_1 : decode cJ2_length_9d52b 1 = .ok (.arraylength, 1) := by decide +kernel
theorem dJ2_length_9d52b_2 : decode cJ2_length_9d52b 2 = .ok (.iconst 1, 1) := by decide +kernel
theorem dJ2_length_9d52b_3 : decode cJ2_length_9d52b 3 = .ok (.ishr, 1) := by decide +kernel
theorem dJ2_length_9d52b_4 : decode cJ2_length_9d52b 4 = .ok (.ireturn, 1) := by decide +kernel
theorem dJ2_charAt_3b067_0 : decode cJ2_charAt_3b067 0 = .ok (.iload_n 1, 1) := by decide +kernel
theorem dJ2_charAt_3b067_1 : decode cJ2_charAt_3b067 1 = .ok (.aload_n 0, 1) := by decide +kernel
theorem dJ2_charAt_3b067_2 : decode cJ2_charAt_3b067 2 = .ok (.invokestatic 67, 3) := by decide +kernel
theorem dJ2_charAt_3b067_5 : decode cJ2_charAt_3b067 5 = .ok (.aload_n 0, 1) := by decide +kernel
theorem dJ2_charAt_3b067_6 : decode cJ2_charAt_3b067 6 = .ok (.iload_n 1, 1) := by decide +kernel
theorem dJ2_charAt_3b067_7 : decode cJ2_charAt_3b067 7 = .ok (.invokestatic 71, 3) := by decide +kernel
theorem dJ2_charAt_3b067_10 : decode cJ2_charAt_3b067 10 = .ok (.ireturn, 1) := by decide +kernel
theorem dJ2_checkIndex_2214a_0 : decode cJ2_checkIndex_2214a 0 = .ok (.iload_n 0, 1) := by decide +kernel
theorem dJ2_checkIndex_2214a_1 : decode cJ2_checkIndex_2214a 1 = .ok (.aload_n 1, 1) := by decide +kernel
theorem dJ2_checkIndex_2214a_2 : decode cJ2_checkIndex_2214a 2 = .ok (.invokestatic 48, 3) := by decide +kernel
theorem dJ2_checkIndex_2214a_5 : decode cJ2_checkIndex_2214a 5 = .ok (.invokestatic 414, 3) := by decide +kernel
theorem dJ2_checkIndex_2214a_8 : decode cJ2_checkIndex_2214a 8 = .ok (.return_, 1) := by decide +kernel
theorem dJ3_checkIndex_8e157_0 : decode cJ3_checkIndex_8e157 0 = .ok (.iload_n 0, 1) := by decide +kernel
theorem dJ3_checkIndex_8e157_1 : decode cJ3_checkIndex_8e157 1 = .ok (.ifCond .lt 8, 3) := by decide +kernel
theorem dJ3_checkIndex_8e157_4 : decode cJ3_checkIndex_8e157 4 = .ok (.iload_n 0, 1) := by decide +kernel
theorem dJ3_checkIndex_8e157_5 : decode cJ3_checkIndex_8e157 5 = .ok (.iload_n 1, 1) := by decide +kernel
theorem dJ3_checkIndex_8e157_6 : decode cJ3_checkIndex_8e157 6 = .ok (.if_icmp .lt 10, 3) := by decide +kernel
theorem dJ3_checkIndex_8e157_9 : decode cJ3_checkIndex_8e157 9 = .ok (.aload_n 2, 1) := by decide +kernel
theorem dJ3_checkIndex_8e157_10 : decode cJ3_checkIndex_8e157 10 = .ok (.iload_n 0, 1) := by decide +kernel
theorem dJ3_checkIndex_8e157_11 : decode cJ3_checkIndex_8e157 11 = .ok (.iload_n 1, 1) := by decide +kernel
theorem dJ3_checkIndex_8e157_12 : decode cJ3_checkIndex_8e157 12 = .ok (.invokestatic 95, 3) := by decide +kernel
theorem dJ3_checkIndex_8e157_15 : decode cJ3_checkIndex_8e157 15 = .ok (.athrow, 1) := by decide +kernel
theorem dJ3_checkIndex_8e157_16 : decode cJ3_checkIndex_8e157 16 = .ok (.iload_n 0, 1) := by decide +kernel
theorem dJ3_checkIndex_8e157_17 : decode cJ3_checkIndex_8e157 17 = .ok (.ireturn, 1) := by decide +kernel
theorem dL_law_0 : decode cL_law 0 = .ok (.new 7, 3) := by decide +kernel
theorem dL_law_3 : decode cL_law 3 = .ok (.dup, 1) := by decide +kernel
theorem dL_law_4 : decode cL_law 4 = .ok (.invokespecial 9, 3) := by decide +kernel
theorem dL_law_7 : decode cL_law 7 = .ok (.astore_n 1, 1) := by decide +kernel
theorem dL_law_8 : decode cL_law 8 = .ok (.new 10, 3) := by decide +kernel
theorem dL_law_11 : decode cL_law 11 = .ok (.dup, 1) := by decide +kernel
theorem dL_law_12 : decode cL_law 12 = .ok (.invokespecial 12, 3) := by decide +kernel
theorem dL_law_15 : decode cL_law 15 = .ok (.astore_n 2, 1) := by decide +kernel
theorem dL_law_16 : decode cL_law 16 = .ok (.iconst 0, 1) := by decide +kernel
theorem dL_law_17 : decode cL_law 17 = .ok (.istore_n 3, 1) := by decide +kernel
theorem dL_law_18 : decode cL_law 18 = .ok (.iload_n 3, 1) := by decide +kernel
theorem dL_law_19 : decode cL_law 19 = .ok (.aload_n 0, 1) := by decide +kernel
theorem dL_law_20 : decode cL_law 20 = .ok (.arraylength, 1) := by decide +kernel
theorem dL_law_21 : decode cL_law 21 = .ok (.bipush 6, 2) := by decide +kernel
theorem dL_law_23 : decode cL_law 23 = .ok (.isub, 1) := by decide +kernel
theorem dL_law_24 : decode cL_law 24 = .ok (.if_icmp .gt 857, 3) := by decide +kernel
theorem dL_law_27 : decode cL_law 27 = .ok (.aload_n 0, 1) := by decide +kernel
theorem dL_law_28 : decode cL_law 28 = .ok (.iload_n 3, 1) := by decide +kernel
theorem dL_law_29 : decode cL_law 29 = .ok (.iaload, 1) := by decide +kernel
theorem dL_law_30 : decode cL_law 30 = .ok (.bipush 31, 2) := by decide +kernel
theorem dL_law_32 : decode cL_law 32 = .ok (.iand, 1) := by decide +kernel
theorem dL_law_33 : decode cL_law 33 = .ok (.tableswitch 842 0 22 #[107, 140, 163, 196, 259, 282, 295, 318, 331, 364, 407, 420, 433, 466, 545, 588, 621, 664, 717, 750, 763, 786, 819], 107) := by decide +kernel
theorem dL_law_140 : decode cL_law 140 = .ok (.aload_n 1, 1) := by decide +kernel
theorem dL_law_141 : decode cL_law 141 = .ok (.aload_n 0, 1) := by decide +kernel
theorem dL_law_142 : decode cL_law 142 = .ok (.iload_n 3, 1) := by decide +kernel
theorem dL_law_143 : decode cL_law 143 = .ok (.iconst 1, 1) := by decide +kernel
theorem dL_law_144 : decode cL_law 144 = .ok (.iadd, 1) := by decide +kernel
theorem dL_law_145 : decode cL_law 145 = .ok (.iaload, 1) := by decide +kernel
theorem dL_law_146 : decode cL_law 146 = .ok (.aload_n 0, 1) := by decide +kernel
theorem dL_law_147 : decode cL_law 147 = .ok (.iload_n 3, 1) := by decide +kernel
theorem dL_law_148 : decode cL_law 148 = .ok (.iconst 2, 1) := by decide +kernel
theorem dL_law_149 : decode cL_law 149 = .ok (.iadd, 1) := by decide +kernel
theorem dL_law_150 : decode cL_law 150 = .ok (.iaload, 1) := by decide +kernel
theorem dL_law_151 : decode cL_law 151 = .ok (.invokevirtual 13, 3) := by decide +kernel
theorem dL_law_154 : decode cL_law 154 = .ok (.aload_n 2, 1) := by decide +kernel
theorem dL_law_155 : decode cL_law 155 = .ok (.aload_n 0, 1) := by decide +kernel
theorem dL_law_156 : decode cL_law 156 = .ok (.iload_n 3, 1) := by decide +kernel
theorem dL_law_157 : decode cL_law 157 = .ok (.iconst 1, 1) := by decide +kernel
theorem dL_law_158 : decode cL_law 158 = .ok (.iadd, 1) := by decide +kernel
theorem dL_law_159 : decode cL_law 159 = .ok (.iaload, 1) := by decide +kernel
theorem dL_law_160 : decode cL_law 160 = .ok (.aload_n 0, 1) := by decide +kernel
theorem dL_law_161 : decode cL_law 161 = .ok (.iload_n 3, 1) := by decide +kernel
theorem dL_law_162 : decode cL_law 162 = .ok (.iconst 2, 1) := by decide +kernel
theorem dL_law_163 : decode cL_law 163 = .ok (.iadd, 1) := by decide +kernel
theorem dL_law_164 : decode cL_law 164 = .ok (.iaload, 1) := by decide +kernel
theorem dL_law_165 : decode cL_law 165 = .ok (.invokevirtual 17, 3) := by decide +kernel
theorem dL_law_168 : decode cL_law 168 = .ok (.if_icmp .eq 707, 3) := by decide +kernel
theorem dL_law_171 : decode cL_law 171 = .ok (.iconst 0, 1) := by decide +kernel
theorem dL_law_172 : decode cL_law 172 = .ok (.ireturn, 1) := by decide +kernel
theorem dL_law_173 : decode cL_law 173 = .ok (.aload_n 1, 1) := by decide +kernel
theorem dL_law_174 : decode cL_law 174 = .ok (.aload_n 0, 1) := by decide +kernel
theorem dL_law_175 : decode cL_law 175 = .ok (.iload_n 3, 1) := by decide +kernel
theorem dL_law_176 : decode cL_law 176 = .ok (.iconst 1, 1) := by decide +kernel
theorem dL_law_177 : decode cL_law 177 = .ok (.iadd, 1) := by decide +kernel
theorem dL_law_178 : decode cL_law 178 = .ok (.iaload, 1) := by decide +kernel
theorem dL_law_179 : decode cL_law 179 = .ok (.invokevirtual 18, 3) := by decide +kernel
theorem dL_law_182 : decode cL_law 182 = .ok (.aload_n 2, 1) := by decide +kernel
theorem dL_law_183 : decode cL_law 183 = .ok (.aload_n 0, 1) := by decide +kernel
theorem dL_law_184 : decode cL_law 184 = .ok (.iload_n 3, 1) := by decide +kernel
theorem dL_law_185 : decode cL_law 185 = .ok (.iconst 1, 1) := by decide +kernel
theorem dL_law_186 : decode cL_law 186 = .ok (.iadd, 1) := by decide +kernel
theorem dL_law_187 : decode cL_law 187 = .ok (.iaload, 1) := by decide +kernel
theorem dL_law_188 : decode cL_law 188 = .ok (.invokevirtual 22, 3) := by decide +kernel
theorem dL_law_191 : decode cL_law 191 = .ok (.if_icmp .eq 684, 3) := by decide +kernel
theorem dL_law_194 : decode cL_law 194 = .ok (.iconst 0, 1) := by decide +kernel
theorem dL_law_195 : decode cL_law 195 = .ok (.ireturn, 1) := by decide +kernel
theorem dL_law_196 : decode cL_law 196 = .ok (.aload_n 1, 1) := by decide +kernel
theorem dL_law_197 : decode cL_law 197 = .ok (.aload_n 0, 1) := by decide +kernel
theorem dL_law_198 : decode cL_law 198 = .ok (.iload_n 3, 1) := by decide +kernel
theorem dL_law_199 : decode cL_law 199 = .ok (.iconst 1, 1) := by decide +kernel
theorem dL_law_200 : decode cL_law 200 = .ok (.iadd, 1) := by decide +kernel
theorem dL_law_201 : decode cL_law 201 = .ok (.iaload, 1) := by decide +kernel
theorem dL_law_202 : decode cL_law 202 = .ok (.aload_n 0, 1) := by decide +kernel
theorem dL_law_203 : decode cL_law 203 = .ok (.iload_n 3, 1) := by decide +kernel
theorem dL_law_204 : decode cL_law 204 = .ok (.iconst 2, 1) := by decide +kernel
theorem dL_law_205 : decode cL_law 205 = .ok (.iadd, 1) := by decide +kernel
theorem dL_law_206 : decode cL_law 206 = .ok (.iaload, 1) := by decide +kernel
theorem dL_law_207 : decode cL_law 207 = .ok (.invokevirtual 23, 3) := by decide +kernel
theorem dL_law_210 : decode cL_law 210 = .ok (.aload_n 2, 1) := by decide +kernel
theorem dL_law_211 : decode cL_law 211 = .ok (.aload_n 0, 1) := by decide +kernel
theorem dL_law_212 : decode cL_law 212 = .ok (.iload_n 3, 1) := by decide +kernel
theorem dL_law_213 : decode cL_law 213 = .ok (.iconst 1, 1) := by decide +kernel
theorem dL_law_214 : decode cL_law 214 = .ok (.iadd, 1) := by decide +kernel
theorem dL_law_215 : decode cL_law 215 = .ok (.iaload, 1) := by decide +kernel
theorem dL_law_216 : decode cL_law 216 = .ok (.aload_n 0, 1) := by decide +kernel
theorem dL_law_217 : decode cL_law 217 = .ok (.iload_n 3, 1) := by decide +kernel
theorem dL_law_218 : decode cL_law 218 = .ok (.iconst 2, 1) := by decide +kernel
theorem dL_law_219 : decode cL_law 219 = .ok (.iadd, 1) := by decide +kernel
theorem dL_law_220 : decode cL_law 220 = .ok (.iaload, 1) := by decide +kernel
theorem dL_law_221 : decode cL_law 221 = .ok (.invokevirtual 27, 3) := by decide +kernel
theorem dL_law_224 : decode cL_law 224 = .ok (.if_icmp .eq 651, 3) := by decide +kernel
theorem dL_law_227 : decode cL_law 227 = .ok (.iconst 0, 1) := by decide +kernel
theorem dL_law_228 : decode cL_law 228 = .ok (.ireturn, 1) := by decide +kernel
theorem dL_law_229 : decode cL_law 229 = .ok (.aload_n 1, 1) := by decide +kernel
theorem dL_law_230 : decode cL_law 230 = .ok (.aload_n 0, 1) := by decide +kernel
theorem dL_law_231 : decode cL_law 231 = .ok (.iload_n 3, 1) := by decide +kernel
theorem dL_law_232 : decode cL_law 232 = .ok (.iconst 1, 1) := by decide +kernel
theorem dL_law_233 : decode cL_law 233 = .ok (.iadd, 1) := by decide +kernel
theorem dL_law_234 : decode cL_law 234 = .ok (.iaload, 1) := by decide +kernel
theorem dL_law_235 : decode cL_law 235 = .ok (.aload_n 0, 1) := by decide +kernel
theorem dL_law_236 : decode cL_law 236 = .ok (.iload_n 3, 1) := by decide +kernel
theorem dL_law_237 : decode cL_law 237 = .ok (.iconst 2, 1) := by decide +kernel
theorem dL_law_238 : decode cL_law 238 = .ok (.iadd, 1) := by decide +kernel
theorem dL_law_239 : decode cL_law 239 = .ok (.iaload, 1) := by decide +kernel
theorem dL_law_240 : decode cL_law 240 = .ok (.aload_n 0, 1) := by decide +kernel
theorem dL_law_241 : decode cL_law 241 = .ok (.iload_n 3, 1) := by decide +kernel
theorem dL_law_242 : decode cL_law 242 = .ok (.iconst 3, 1) := by decide +kernel
theorem dL_law_243 : decode cL_law 243 = .ok (.iadd, 1) := by decide +kernel
theorem dL_law_244 : decode cL_law 244 = .ok (.iaload, 1) := by decide +kernel
theorem dL_law_245 : decode cL_law 245 = .ok (.aload_n 0, 1) := by decide +kernel
theorem dL_law_246 : decode cL_law 246 = .ok (.iload_n 3, 1) := by decide +kernel
theorem dL_law_247 : decode cL_law 247 = .ok (.iconst 4, 1) := by decide +kernel
theorem dL_law_248 : decode cL_law 248 = .ok (.iadd, 1) := by decide +kernel
theorem dL_law_249 : decode cL_law 249 = .ok (.iaload, 1) := by decide +kernel
theorem dL_law_250 : decode cL_law 250 = .ok (.aload_n 0, 1) := by decide +kernel
theorem dL_law_251 : decode cL_law 251 = .ok (.iload_n 3, 1) := by decide +kernel
theorem dL_law_252 : decode cL_law 252 = .ok (.iconst 5, 1) := by decide +kernel
theorem dL_law_253 : decode cL_law 253 = .ok (.iadd, 1) := by decide +kernel
theorem dL_law_254 : decode cL_law 254 = .ok (.iaload, 1) := by decide +kernel
theorem dL_law_255 : decode cL_law 255 = .ok (.invokevirtual 28, 3) := by decide +kernel
theorem dL_law_258 : decode cL_law 258 = .ok (.aload_n 2, 1) := by decide +kernel
theorem dL_law_259 : decode cL_law 259 = .ok (.aload_n 0, 1) := by decide +kernel
theorem dL_law_260 : decode cL_law 260 = .ok (.iload_n 3, 1) := by decide +kernel
theorem dL_law_261 : decode cL_law 261 = .ok (.iconst 1, 1) := by decide +kernel
theorem dL_law_262 : decode cL_law 262 = .ok (.iadd, 1) := by decide +kernel
theorem dL_law_263 : decode cL_law 263 = .ok (.iaload, 1) := by decide +kernel
theorem dL_law_264 : decode cL_law 264 = .ok (.aload_n 0, 1) := by decide +kernel
theorem dL_law_265 : decode cL_law 265 = .ok (.iload_n 3, 1) := by decide +kernel
theorem dL_law_266 : decode cL_law 266 = .ok (.iconst 2, 1) := by decide +kernel
theorem dL_law_267 : decode cL_law 267 = .ok (.iadd, 1) := by decide +kernel
theorem dL_law_268 : decode cL_law 268 = .ok (.iaload, 1) := by decide +kernel
theorem dL_law_269 : decode cL_law 269 = .ok (.aload_n 0, 1) := by decide +kernel
theorem dL_law_270 : decode cL_law 270 = .ok (.iload_n 3, 1) := by decide +kernel
theorem dL_law_271 : decode cL_law 271 = .ok (.iconst 3, 1) := by decide +kernel
theorem dL_law_272 : decode cL_law 272 = .ok (.iadd, 1) := by decide +kernel
theorem dL_law_273 : decode cL_law 273 = .ok (.iaload, 1) := by decide +kernel
theorem dL_law_274 : decode cL_law 274 = .ok (.aload_n 0, 1) := by decide +kernel
theorem dL_law_275 : decode cL_law 275 = .ok (.iload_n 3, 1) := by decide +kernel
theorem dL_law_276 : decode cL_law 276 = .ok (.iconst 4, 1) := by decide +kernel
theorem dL_law_277 : decode cL_law 277 = .ok (.iadd, 1) := by decide +kernel
theorem dL_law_278 : decode cL_law 278 = .ok (.iaload, 1) := by decide +kernel
theorem dL_law_279 : decode cL_law 279 = .ok (.aload_n 0, 1) := by decide +kernel
theorem dL_law_280 : decode cL_law 280 = .ok (.iload_n 3, 1) := by decide +kernel
theorem dL_law_281 : decode cL_law 281 = .ok (.iconst 5, 1) := by decide +kernel
theorem dL_law_282 : decode cL_law 282 = .ok (.iadd, 1) := by decide +kernel
theorem dL_law_283 : decode cL_law 283 = .ok (.iaload, 1) := by decide +kernel
theorem dL_law_284 : decode cL_law 284 = .ok (.invokevirtual 32, 3) := by decide +kernel
theorem dL_law_287 : decode cL_law 287 = .ok (.if_icmp .eq 588, 3) := by decide +kernel
theorem dL_law_290 : decode cL_law 290 = .ok (.iconst 0, 1) := by decide +kernel
theorem dL_law_291 : decode cL_law 291 = .ok (.ireturn, 1) := by decide +kernel
theorem dL_law_292 : decode cL_law 292 = .ok (.aload_n 1, 1) := by decide +kernel
theorem dL_law_293 : decode cL_law 293 = .ok (.aload_n 0, 1) := by decide +kernel
theorem dL_law_294 : decode cL_law 294 = .ok (.iload_n 3, 1) := by decide +kernel
theorem dL_law_295 : decode cL_law 295 = .ok (.iconst 1, 1) := by decide +kernel
theorem dL_law_296 : decode cL_law 296 = .ok (.iadd, 1) := by decide +kernel
theorem dL_law_297 : decode cL_law 297 = .ok (.iaload, 1) := by decide +kernel
theorem dL_law_298 : decode cL_law 298 = .ok (.invokevirtual 33, 3) := by decide +kernel
theorem dL_law_301 : decode cL_law 301 = .ok (.aload_n 2, 1) := by decide +kernel
theorem dL_law_302 : decode cL_law 302 = .ok (.aload_n 0, 1) := by decide +kernel
theorem dL_law_303 : decode cL_law 303 = .ok (.iload_n 3, 1) := by decide +kernel
theorem dL_law_304 : decode cL_law 304 = .ok (.iconst 1, 1) := by decide +kernel
theorem dL_law_305 : decode cL_law 305 = .ok (.iadd, 1) := by decide +kernel
theorem dL_law_306 : decode cL_law 306 = .ok (.iaload, 1) := by decide +kernel
theorem dL_law_307 : decode cL_law 307 = .ok (.invokevirtual 36, 3) := by decide +kernel
theorem dL_law_310 : decode cL_law 310 = .ok (.if_icmp .eq 565, 3) := by decide +kernel
theorem dL_law_313 : decode cL_law 313 = .ok (.iconst 0, 1) := by decide +kernel
theorem dL_law_314 : decode cL_law 314 = .ok (.ireturn, 1) := by decide +kernel
theorem dL_law_315 : decode cL_law 315 = .ok (.aload_n 1, 1) := by decide +kernel
theorem dL_law_316 : decode cL_law 316 = .ok (.invokevirtual 37, 3) := by decide +kernel
theorem dL_law_319 : decode cL_law 319 = .ok (.aload_n 2, 1) := by decide +kernel
theorem dL_law_320 : decode cL_law 320 = .ok (.invokevirtual 41, 3) := by decide +kernel
theorem dL_law_323 : decode cL_law 323 = .ok (.if_icmp .eq 552, 3) := by decide +kernel
theorem dL_law_326 : decode cL_law 326 = .ok (.iconst 0, 1) := by decide +kernel
theorem dL_law_327 : decode cL_law 327 = .ok (.ireturn, 1) := by decide +kernel
theorem dL_law_328 : decode cL_law 328 = .ok (.aload_n 1, 1) := by decide +kernel
theorem dL_law_329 : decode cL_law 329 = .ok (.aload_n 0, 1) := by decide +kernel
theorem dL_law_330 : decode cL_law 330 = .ok (.iload_n 3, 1) := by decide +kernel
theorem dL_law_331 : decode cL_law 331 = .ok (.iconst 1, 1) := by decide +kernel
theorem dL_law_332 : decode cL_law 332 = .ok (.iadd, 1) := by decide +kernel
theorem dL_law_333 : decode cL_law 333 = .ok (.iaload, 1) := by decide +kernel
theorem dL_law_334 : decode cL_law 334 = .ok (.invokevirtual 42, 3) := by decide +kernel
theorem dL_law_337 : decode cL_law 337 = .ok (.aload_n 2, 1) := by decide +kernel
theorem dL_law_338 : decode cL_law 338 = .ok (.aload_n 0, 1) := by decide +kernel
theorem dL_law_339 : decode cL_law 339 = .ok (.iload_n 3, 1) := by decide +kernel
theorem dL_law_340 : decode cL_law 340 = .ok (.iconst 1, 1) := by decide +kernel
theorem dL_law_341 : decode cL_law 341 = .ok (.iadd, 1) := by decide +kernel
theorem dL_law_342 : decode cL_law 342 = .ok (.iaload, 1) := by decide +kernel
theorem dL_law_343 : decode cL_law 343 = .ok (.invokevirtual 45, 3) := by decide +kernel
theorem dL_law_346 : decode cL_law 346 = .ok (.if_icmp .eq 529, 3) := by decide +kernel
theorem dL_law_349 : decode cL_law 349 = .ok (.iconst 0, 1) := by decide +kernel
theorem dL_law_350 : decode cL_law 350 = .ok (.ireturn, 1) := by decide +kernel
theorem dL_law_351 : decode cL_law 351 = .ok (.aload_n 1, 1) := by decide +kernel
theorem dL_law_352 : decode cL_law 352 = .ok (.invokevirtual 46, 3) := by decide +kernel
theorem dL_law_355 : decode cL_law 355 = .ok (.aload_n 2, 1) := by decide +kernel
theorem dL_law_356 : decode cL_law 356 = .ok (.invokevirtual 49, 3) := by decide +kernel
theorem dL_law_359 : decode cL_law 359 = .ok (.if_icmp .eq 516, 3) := by decide +kernel
theorem dL_law_362 : decode cL_law 362 = .ok (.iconst 0, 1) := by decide +kernel
theorem dL_law_363 : decode cL_law 363 = .ok (.ireturn, 1) := by decide +kernel
theorem dL_law_364 : decode cL_law 364 = .ok (.aload_n 1, 1) := by decide +kernel
theorem dL_law_365 : decode cL_law 365 = .ok (.aload_n 0, 1) := by decide +kernel
theorem dL_law_366 : decode cL_law 366 = .ok (.iload_n 3, 1) := by decide +kernel
theorem dL_law_367 : decode cL_law 367 = .ok (.iconst 1, 1) := by decide +kernel
theorem dL_law_368 : decode cL_law 368 = .ok (.iadd, 1) := by decide +kernel
theorem dL_law_369 : decode cL_law 369 = .ok (.iaload, 1) := by decide +kernel
theorem dL_law_370 : decode cL_law 370 = .ok (.aload_n 0, 1) := by decide +kernel
theorem dL_law_371 : decode cL_law 371 = .ok (.iload_n 3, 1) := by decide +kernel
theorem dL_law_372 : decode cL_law 372 = .ok (.iconst 2, 1) := by decide +kernel
theorem dL_law_373 : decode cL_law 373 = .ok (.iadd, 1) := by decide +kernel
theorem dL_law_374 : decode cL_law 374 = .ok (.iaload, 1) := by decide +kernel
theorem dL_law_375 : decode cL_law 375 = .ok (.invokevirtual 50, 3) := by decide +kernel
theorem dL_law_378 : decode cL_law 378 = .ok (.aload_n 2, 1) := by decide +kernel
theorem dL_law_379 : decode cL_law 379 = .ok (.aload_n 0, 1) := by decide +kernel
theorem dL_law_380 : decode cL_law 380 = .ok (.iload_n 3, 1) := by decide +kernel
theorem dL_law_381 : decode cL_law 381 = .ok (.iconst 1, 1) := by decide +kernel
theorem dL_law_382 : decode cL_law 382 = .ok (.iadd, 1) := by decide +kernel
theorem dL_law_383 : decode cL_law 383 = .ok (.iaload, 1) := by decide +kernel
theorem dL_law_384 : decode cL_law 384 = .ok (.aload_n 0, 1) := by decide +kernel
theorem dL_law_385 : decode cL_law 385 = .ok (.iload_n 3, 1) := by decide +kernel
theorem dL_law_386 : decode cL_law 386 = .ok (.iconst 2, 1) := by decide +kernel
theorem dL_law_387 : decode cL_law 387 = .ok (.iadd, 1) := by decide +kernel
theorem dL_law_388 : decode cL_law 388 = .ok (.iaload, 1) := by decide +kernel
theorem dL_law_389 : decode cL_law 389 = .ok (.invokevirtual 53, 3) := by decide +kernel
theorem dL_law_392 : decode cL_law 392 = .ok (.if_icmp .eq 483, 3) := by decide +kernel
theorem dL_law_395 : decode cL_law 395 = .ok (.iconst 0, 1) := by decide +kernel
theorem dL_law_396 : decode cL_law 396 = .ok (.ireturn, 1) := by decide +kernel
theorem dL_law_397 : decode cL_law 397 = .ok (.aload_n 1, 1) := by decide +kernel
theorem dL_law_398 : decode cL_law 398 = .ok (.aload_n 0, 1) := by decide +kernel
theorem dL_law_399 : decode cL_law 399 = .ok (.iload_n 3, 1) := by decide +kernel
theorem dL_law_400 : decode cL_law 400 = .ok (.iconst 1, 1) := by decide +kernel
theorem dL_law_401 : decode cL_law 401 = .ok (.iadd, 1) := by decide +kernel
theorem dL_law_402 : decode cL_law 402 = .ok (.iaload, 1) := by decide +kernel
theorem dL_law_403 : decode cL_law 403 = .ok (.aload_n 0, 1) := by decide +kernel
theorem dL_law_404 : decode cL_law 404 = .ok (.iload_n 3, 1) := by decide +kernel
theorem dL_law_405 : decode cL_law 405 = .ok (.iconst 2, 1) := by decide +kernel
theorem dL_law_406 : decode cL_law 406 = .ok (.iadd, 1) := by decide +kernel
theorem dL_law_407 : decode cL_law 407 = .ok (.iaload, 1) := by decide +kernel
theorem dL_law_408 : decode cL_law 408 = .ok (.aload_n 0, 1) := by decide +kernel
theorem dL_law_409 : decode cL_law 409 = .ok (.iload_n 3, 1) := by decide +kernel
theorem dL_law_410 : decode cL_law 410 = .ok (.iconst 3, 1) := by decide +kernel
theorem dL_law_411 : decode cL_law 411 = .ok (.iadd, 1) := by decide +kernel
theorem dL_law_412 : decode cL_law 412 = .ok (.iaload, 1) := by decide +kernel
theorem dL_law_413 : decode cL_law 413 = .ok (.invokevirtual 54, 3) := by decide +kernel
theorem dL_law_416 : decode cL_law 416 = .ok (.aload_n 2, 1) := by decide +kernel
theorem dL_law_417 : decode cL_law 417 = .ok (.aload_n 0, 1) := by decide +kernel
theorem dL_law_418 : decode cL_law 418 = .ok (.iload_n 3, 1) := by decide +kernel
theorem dL_law_419 : decode cL_law 419 = .ok (.iconst 1, 1) := by decide +kernel
theorem dL_law_420 : decode cL_law 420 = .ok (.iadd, 1) := by decide +kernel
theorem dL_law_421 : decode cL_law 421 = .ok (.iaload, 1) := by decide +kernel
theorem dL_law_422 : decode cL_law 422 = .ok (.aload_n 0, 1) := by decide +kernel
theorem dL_law_423 : decode cL_law 423 = .ok (.iload_n 3, 1) := by decide +kernel
theorem dL_law_424 : decode cL_law 424 = .ok (.iconst 2, 1) := by decide +kernel
theorem dL_law_425 : decode cL_law 425 = .ok (.iadd, 1) := by decide +kernel
theorem dL_law_426 : decode cL_law 426 = .ok (.iaload, 1) := by decide +kernel
theorem dL_law_427 : decode cL_law 427 = .ok (.aload_n 0, 1) := by decide +kernel
theorem dL_law_428 : decode cL_law 428 = .ok (.iload_n 3, 1) := by decide +kernel
theorem dL_law_429 : decode cL_law 429 = .ok (.iconst 3, 1) := by decide +kernel
theorem dL_law_430 : decode cL_law 430 = .ok (.iadd, 1) := by decide +kernel
theorem dL_law_431 : decode cL_law 431 = .ok (.iaload, 1) := by decide +kernel
theorem dL_law_432 : decode cL_law 432 = .ok (.invokevirtual 58, 3) := by decide +kernel
theorem dL_law_435 : decode cL_law 435 = .ok (.if_icmp .eq 440, 3) := by decide +kernel
theorem dL_law_438 : decode cL_law 438 = .ok (.iconst 0, 1) := by decide +kernel
theorem dL_law_439 : decode cL_law 439 = .ok (.ireturn, 1) := by decide +kernel
theorem dL_law_440 : decode cL_law 440 = .ok (.aload_n 1, 1) := by decide +kernel
theorem dL_law_441 : decode cL_law 441 = .ok (.invokevirtual 59, 3) := by decide +kernel
theorem dL_law_444 : decode cL_law 444 = .ok (.aload_n 2, 1) := by decide +kernel
theorem dL_law_445 : decode cL_law 445 = .ok (.invokevirtual 62, 3) := by decide +kernel
theorem dL_law_448 : decode cL_law 448 = .ok (.if_icmp .eq 427, 3) := by decide +kernel
theorem dL_law_451 : decode cL_law 451 = .ok (.iconst 0, 1) := by decide +kernel
theorem dL_law_452 : decode cL_law 452 = .ok (.ireturn, 1) := by decide +kernel
theorem dL_law_453 : decode cL_law 453 = .ok (.aload_n 1, 1) := by decide +kernel
theorem dL_law_454 : decode cL_law 454 = .ok (.invokevirtual 63, 3) := by decide +kernel
theorem dL_law_457 : decode cL_law 457 = .ok (.aload_n 2, 1) := by decide +kernel
theorem dL_law_458 : decode cL_law 458 = .ok (.invokevirtual 66, 3) := by decide +kernel
theorem dL_law_461 : decode cL_law 461 = .ok (.if_icmp .eq 414, 3) := by decide +kernel
theorem dL_law_464 : decode cL_law 464 = .ok (.iconst 0, 1) := by decide +kernel
theorem dL_law_465 : decode cL_law 465 = .ok (.ireturn, 1) := by decide +kernel
theorem dL_law_466 : decode cL_law 466 = .ok (.aload_n 1, 1) := by decide +kernel
theorem dL_law_467 : decode cL_law 467 = .ok (.aload_n 0, 1) := by decide +kernel
theorem dL_law_468 : decode cL_law 468 = .ok (.iload_n 3, 1) := by decide +kernel
theorem dL_law_469 : decode cL_law 469 = .ok (.iconst 1, 1) := by decide +kernel
theorem dL_law_470 : decode cL_law 470 = .ok (.iadd, 1) := by decide +kernel
theorem dL_law_471 : decode cL_law 471 = .ok (.iaload, 1) := by decide +kernel
theorem dL_law_472 : decode cL_law 472 = .ok (.aload_n 0, 1) := by decide +kernel
theorem dL_law_473 : decode cL_law 473 = .ok (.iload_n 3, 1) := by decide +kernel
theorem dL_law_474 : decode cL_law 474 = .ok (.iconst 2, 1) := by decide +kernel
theorem dL_law_475 : decode cL_law 475 = .ok (.iadd, 1) := by decide +kernel
theorem dL_law_476 : decode cL_law 476 = .ok (.iaload, 1) := by decide +kernel
theorem dL_law_477 : decode cL_law 477 = .ok (.invokevirtual 67, 3) := by decide +kernel
theorem dL_law_480 : decode cL_law 480 = .ok (.aload_n 2, 1) := by decide +kernel
theorem dL_law_481 : decode cL_law 481 = .ok (.aload_n 0, 1) := by decide +kernel
theorem dL_law_482 : decode cL_law 482 = .ok (.iload_n 3, 1) := by decide +kernel
theorem dL_law_483 : decode cL_law 483 = .ok (.iconst 1, 1) := by decide +kernel
theorem dL_law_484 : decode cL_law 484 = .ok (.iadd, 1) := by decide +kernel
theorem dL_law_485 : decode cL_law 485 = .ok (.iaload, 1) := by decide +kernel
theorem dL_law_486 : decode cL_law 486 = .ok (.aload_n 0, 1) := by decide +kernel
theorem dL_law_487 : decode cL_law 487 = .ok (.iload_n 3, 1) := by decide +kernel
theorem dL_law_488 : decode cL_law 488 = .ok (.iconst 2, 1) := by decide +kernel
theorem dL_law_489 : decode cL_law 489 = .ok (.iadd, 1) := by decide +kernel
theorem dL_law_490 : decode cL_law 490 = .ok (.iaload, 1) := by decide +kernel
theorem dL_law_491 : decode cL_law 491 = .ok (.invokevirtual 70, 3) := by decide +kernel
theorem dL_law_494 : decode cL_law 494 = .ok (.if_icmp .eq 381, 3) := by decide +kernel
theorem dL_law_497 : decode cL_law 497 = .ok (.iconst 0, 1) := by decide +kernel
theorem dL_law_498 : decode cL_law 498 = .ok (.ireturn, 1) := by decide +kernel
theorem dL_law_499 : decode cL_law 499 = .ok (.aload_n 1, 1) := by decide +kernel
theorem dL_law_500 : decode cL_law 500 = .ok (.aload_n 0, 1) := by decide +kernel
theorem dL_law_501 : decode cL_law 501 = .ok (.iload_n 3, 1) := by decide +kernel
theorem dL_law_502 : decode cL_law 502 = .ok (.iconst 1, 1) := by decide +kernel
theorem dL_law_503 : decode cL_law 503 = .ok (.iadd, 1) := by decide +kernel
theorem dL_law_504 : decode cL_law 504 = .ok (.iaload, 1) := by decide +kernel
theorem dL_law_505 : decode cL_law 505 = .ok (.aload_n 0, 1) := by decide +kernel
theorem dL_law_506 : decode cL_law 506 = .ok (.iload_n 3, 1) := by decide +kernel
theorem dL_law_507 : decode cL_law 507 = .ok (.iconst 2, 1) := by decide +kernel
theorem dL_law_508 : decode cL_law 508 = .ok (.iadd, 1) := by decide +kernel
theorem dL_law_509 : decode cL_law 509 = .ok (.iaload, 1) := by decide +kernel
theorem dL_law_510 : decode cL_law 510 = .ok (.aload_n 0, 1) := by decide +kernel
theorem dL_law_511 : decode cL_law 511 = .ok (.iload_n 3, 1) := by decide +kernel
theorem dL_law_512 : decode cL_law 512 = .ok (.iconst 3, 1) := by decide +kernel
theorem dL_law_513 : decode cL_law 513 = .ok (.iadd, 1) := by decide +kernel
theorem dL_law_514 : decode cL_law 514 = .ok (.iaload, 1) := by decide +kernel
theorem dL_law_515 : decode cL_law 515 = .ok (.aload_n 0, 1) := by decide +kernel
theorem dL_law_516 : decode cL_law 516 = .ok (.iload_n 3, 1) := by decide +kernel
theorem dL_law_517 : decode cL_law 517 = .ok (.iconst 4, 1) := by decide +kernel
theorem dL_law_518 : decode cL_law 518 = .ok (.iadd, 1) := by decide +kernel
theorem dL_law_519 : decode cL_law 519 = .ok (.iaload, 1) := by decide +kernel
theorem dL_law_520 : decode cL_law 520 = .ok (.aload_n 0, 1) := by decide +kernel
theorem dL_law_521 : decode cL_law 521 = .ok (.iload_n 3, 1) := by decide +kernel
theorem dL_law_522 : decode cL_law 522 = .ok (.iconst 5, 1) := by decide +kernel
theorem dL_law_523 : decode cL_law 523 = .ok (.iadd, 1) := by decide +kernel
theorem dL_law_524 : decode cL_law 524 = .ok (.iaload, 1) := by decide +kernel
theorem dL_law_525 : decode cL_law 525 = .ok (.ifCond .eq 7, 3) := by decide +kernel
theorem dL_law_528 : decode cL_law 528 = .ok (.iconst 1, 1) := by decide +kernel
end
section
theorem dL_law_529 : decode cL_law 529 = .ok (.goto 4, 3) := by decide +kernel
theorem dL_law_532 : decode cL_law 532 = .ok (.iconst 0, 1) := by decide +kernel
theorem dL_law_533 : decode cL_law 533 = .ok (.invokevirtual 71, 3) := by decide +kernel
theorem dL_law_536 : decode cL_law 536 = .ok (.aload_n 2, 1) := by decide +kernel
theorem dL_law_537 : decode cL_law 537 = .ok (.aload_n 0, 1) := by decide +kernel
theorem dL_law_538 : decode cL_law 538 = .ok (.iload_n 3, 1) := by decide +kernel
theorem dL_law_539 : decode cL_law 539 = .ok (.iconst 1, 1) := by decide +kernel
theorem dL_law_540 : decode cL_law 540 = .ok (.iadd, 1) := by decide +kernel
theorem dL_law_541 : decode cL_law 541 = .ok (.iaload, 1) := by decide +kernel
theorem dL_law_542 : decode cL_law 542 = .ok (.aload_n 0, 1) := by decide +kernel
theorem dL_law_543 : decode cL_law 543 = .ok (.iload_n 3, 1) := by decide +kernel
theorem dL_law_544 : decode cL_law 544 = .ok (.iconst 2, 1) := by decide +kernel
theorem dL_law_545 : decode cL_law 545 = .ok (.iadd, 1) := by decide +kernel
theorem dL_law_546 : decode cL_law 546 = .ok (.iaload, 1) := by decide +kernel
theorem dL_law_547 : decode cL_law 547 = .ok (.aload_n 0, 1) := by decide +kernel
theorem dL_law_548 : decode cL_law 548 = .ok (.iload_n 3, 1) := by decide +kernel
theorem dL_law_549 : decode cL_law 549 = .ok (.iconst 3, 1) := by decide +kernel
theorem dL_law_550 : decode cL_law 550 = .ok (.iadd, 1) := by decide +kernel
theorem dL_law_551 : decode cL_law 551 = .ok (.iaload, 1) := by decide +kernel
theorem dL_law_552 : decode cL_law 552 = .ok (.aload_n 0, 1) := by decide +kernel
theorem dL_law_553 : decode cL_law 553 = .ok (.iload_n 3, 1) := by decide +kernel
theorem dL_law_554 : decode cL_law 554 = .ok (.iconst 4, 1) := by decide +kernel
theorem dL_law_555 : decode cL_law 555 = .ok (.iadd, 1) := by decide +kernel
theorem dL_law_556 : decode cL_law 556 = .ok (.iaload, 1) := by decide +kernel
theorem dL_law_557 : decode cL_law 557 = .ok (.aload_n 0, 1) := by decide +kernel
theorem dL_law_558 : decode cL_law 558 = .ok (.iload_n 3, 1) := by decide +kernel
theorem dL_law_559 : decode cL_law 559 = .ok (.iconst 5, 1) := by decide +kernel
theorem dL_law_560 : decode cL_law 560 = .ok (.iadd, 1) := by decide +kernel
theorem dL_law_561 : decode cL_law 561 = .ok (.iaload, 1) := by decide +kernel
theorem dL_law_562 : decode cL_law 562 = .ok (.ifCond .eq 7, 3) := by decide +kernel
theorem dL_law_565 : decode cL_law 565 = .ok (.iconst 1, 1) := by decide +kernel
theorem dL_law_566 : decode cL_law 566 = .ok (.goto 4, 3) := by decide +kernel
theorem dL_law_569 : decode cL_law 569 = .ok (.iconst 0, 1) := by decide +kernel
theorem dL_law_570 : decode cL_law 570 = .ok (.invokevirtual 75, 3) := by decide +kernel
theorem dL_law_573 : decode cL_law 573 = .ok (.if_icmp .eq 302, 3) := by decide +kernel
theorem dL_law_576 : decode cL_law 576 = .ok (.iconst 0, 1) := by decide +kernel
theorem dL_law_577 : decode cL_law 577 = .ok (.ireturn, 1) := by decide +kernel
theorem dL_law_578 : decode cL_law 578 = .ok (.aload_n 1, 1) := by decide +kernel
theorem dL_law_579 : decode cL_law 579 = .ok (.aload_n 0, 1) := by decide +kernel
theorem dL_law_580 : decode cL_law 580 = .ok (.iload_n 3, 1) := by decide +kernel
theorem dL_law_581 : decode cL_law 581 = .ok (.iconst 1, 1) := by decide +kernel
theorem dL_law_582 : decode cL_law 582 = .ok (.iadd, 1) := by decide +kernel
theorem dL_law_583 : decode cL_law 583 = .ok (.iaload, 1) := by decide +kernel
theorem dL_law_584 : decode cL_law 584 = .ok (.aload_n 0, 1) := by decide +kernel
theorem dL_law_585 : decode cL_law 585 = .ok (.iload_n 3, 1) := by decide +kernel
theorem dL_law_586 : decode cL_law 586 = .ok (.iconst 2, 1) := by decide +kernel
theorem dL_law_587 : decode cL_law 587 = .ok (.iadd, 1) := by decide +kernel
theorem dL_law_588 : decode cL_law 588 = .ok (.iaload, 1) := by decide +kernel
theorem dL_law_589 : decode cL_law 589 = .ok (.aload_n 0, 1) := by decide +kernel
theorem dL_law_590 : decode cL_law 590 = .ok (.iload_n 3, 1) := by decide +kernel
theorem dL_law_591 : decode cL_law 591 = .ok (.iconst 3, 1) := by decide +kernel
theorem dL_law_592 : decode cL_law 592 = .ok (.iadd, 1) := by decide +kernel
theorem dL_law_593 : decode cL_law 593 = .ok (.iaload, 1) := by decide +kernel
theorem dL_law_594 : decode cL_law 594 = .ok (.invokevirtual 76, 3) := by decide +kernel
theorem dL_law_597 : decode cL_law 597 = .ok (.aload_n 2, 1) := by decide +kernel
theorem dL_law_598 : decode cL_law 598 = .ok (.aload_n 0, 1) := by decide +kernel
theorem dL_law_599 : decode cL_law 599 = .ok (.iload_n 3, 1) := by decide +kernel
theorem dL_law_600 : decode cL_law 600 = .ok (.iconst 1, 1) := by decide +kernel
theorem dL_law_601 : decode cL_law 601 = .ok (.iadd, 1) := by decide +kernel
theorem dL_law_602 : decode cL_law 602 = .ok (.iaload, 1) := by decide +kernel
theorem dL_law_603 : decode cL_law 603 = .ok (.aload_n 0, 1) := by decide +kernel
theorem dL_law_604 : decode cL_law 604 = .ok (.iload_n 3, 1) := by decide +kernel
theorem dL_law_605 : decode cL_law 605 = .ok (.iconst 2, 1) := by decide +kernel
theorem dL_law_606 : decode cL_law 606 = .ok (.iadd, 1) := by decide +kernel
theorem dL_law_607 : decode cL_law 607 = .ok (.iaload, 1) := by decide +kernel
theorem dL_law_608 : decode cL_law 608 = .ok (.aload_n 0, 1) := by decide +kernel
theorem dL_law_609 : decode cL_law 609 = .ok (.iload_n 3, 1) := by decide +kernel
theorem dL_law_610 : decode cL_law 610 = .ok (.iconst 3, 1) := by decide +kernel
theorem dL_law_611 : decode cL_law 611 = .ok (.iadd, 1) := by decide +kernel
theorem dL_law_612 : decode cL_law 612 = .ok (.iaload, 1) := by decide +kernel
theorem dL_law_613 : decode cL_law 613 = .ok (.invokevirtual 79, 3) := by decide +kernel
theorem dL_law_616 : decode cL_law 616 = .ok (.if_icmp .eq 259, 3) := by decide +kernel
theorem dL_law_619 : decode cL_law 619 = .ok (.iconst 0, 1) := by decide +kernel
theorem dL_law_620 : decode cL_law 620 = .ok (.ireturn, 1) := by decide +kernel
theorem dL_law_621 : decode cL_law 621 = .ok (.aload_n 1, 1) := by decide +kernel
theorem dL_law_622 : decode cL_law 622 = .ok (.aload_n 0, 1) := by decide +kernel
theorem dL_law_623 : decode cL_law 623 = .ok (.iload_n 3, 1) := by decide +kernel
theorem dL_law_624 : decode cL_law 624 = .ok (.iconst 1, 1) := by decide +kernel
theorem dL_law_625 : decode cL_law 625 = .ok (.iadd, 1) := by decide +kernel
theorem dL_law_626 : decode cL_law 626 = .ok (.iaload, 1) := by decide +kernel
theorem dL_law_627 : decode cL_law 627 = .ok (.aload_n 0, 1) := by decide +kernel
theorem dL_law_628 : decode cL_law 628 = .ok (.iload_n 3, 1) := by decide +kernel
theorem dL_law_629 : decode cL_law 629 = .ok (.iconst 2, 1) := by decide +kernel
theorem dL_law_630 : decode cL_law 630 = .ok (.iadd, 1) := by decide +kernel
theorem dL_law_631 : decode cL_law 631 = .ok (.iaload, 1) := by decide +kernel
theorem dL_law_632 : decode cL_law 632 = .ok (.invokevirtual 80, 3) := by decide +kernel
theorem dL_law_635 : decode cL_law 635 = .ok (.aload_n 2, 1) := by decide +kernel
theorem dL_law_636 : decode cL_law 636 = .ok (.aload_n 0, 1) := by decide +kernel
theorem dL_law_637 : decode cL_law 637 = .ok (.iload_n 3, 1) := by decide +kernel
theorem dL_law_638 : decode cL_law 638 = .ok (.iconst 1, 1) := by decide +kernel
theorem dL_law_639 : decode cL_law 639 = .ok (.iadd, 1) := by decide +kernel
theorem dL_law_640 : decode cL_law 640 = .ok (.iaload, 1) := by decide +kernel
theorem dL_law_641 : decode cL_law 641 = .ok (.aload_n 0, 1) := by decide +kernel
theorem dL_law_642 : decode cL_law 642 = .ok (.iload_n 3, 1) := by decide +kernel
theorem dL_law_643 : decode cL_law 643 = .ok (.iconst 2, 1) := by decide +kernel
theorem dL_law_644 : decode cL_law 644 = .ok (.iadd, 1) := by decide +kernel
theorem dL_law_645 : decode cL_law 645 = .ok (.iaload, 1) := by decide +kernel
theorem dL_law_646 : decode cL_law 646 = .ok (.invokevirtual 83, 3) := by decide +kernel
theorem dL_law_649 : decode cL_law 649 = .ok (.if_icmp .eq 226, 3) := by decide +kernel
theorem dL_law_652 : decode cL_law 652 = .ok (.iconst 0, 1) := by decide +kernel
theorem dL_law_653 : decode cL_law 653 = .ok (.ireturn, 1) := by decide +kernel
theorem dL_law_654 : decode cL_law 654 = .ok (.aload_n 1, 1) := by decide +kernel
theorem dL_law_655 : decode cL_law 655 = .ok (.aload_n 0, 1) := by decide +kernel
theorem dL_law_656 : decode cL_law 656 = .ok (.iload_n 3, 1) := by decide +kernel
theorem dL_law_657 : decode cL_law 657 = .ok (.iconst 1, 1) := by decide +kernel
theorem dL_law_658 : decode cL_law 658 = .ok (.iadd, 1) := by decide +kernel
theorem dL_law_659 : decode cL_law 659 = .ok (.iaload, 1) := by decide +kernel
theorem dL_law_660 : decode cL_law 660 = .ok (.aload_n 0, 1) := by decide +kernel
theorem dL_law_661 : decode cL_law 661 = .ok (.iload_n 3, 1) := by decide +kernel
theorem dL_law_662 : decode cL_law 662 = .ok (.iconst 2, 1) := by decide +kernel
theorem dL_law_663 : decode cL_law 663 = .ok (.iadd, 1) := by decide +kernel
theorem dL_law_664 : decode cL_law 664 = .ok (.iaload, 1) := by decide +kernel
theorem dL_law_665 : decode cL_law 665 = .ok (.aload_n 0, 1) := by decide +kernel
theorem dL_law_666 : decode cL_law 666 = .ok (.iload_n 3, 1) := by decide +kernel
theorem dL_law_667 : decode cL_law 667 = .ok (.iconst 3, 1) := by decide +kernel
theorem dL_law_668 : decode cL_law 668 = .ok (.iadd, 1) := by decide +kernel
theorem dL_law_669 : decode cL_law 669 = .ok (.iaload, 1) := by decide +kernel
theorem dL_law_670 : decode cL_law 670 = .ok (.invokevirtual 84, 3) := by decide +kernel
theorem dL_law_673 : decode cL_law 673 = .ok (.aload_n 2, 1) := by decide +kernel
theorem dL_law_674 : decode cL_law 674 = .ok (.aload_n 0, 1) := by decide +kernel
theorem dL_law_675 : decode cL_law 675 = .ok (.iload_n 3, 1) := by decide +kernel
theorem dL_law_676 : decode cL_law 676 = .ok (.iconst 1, 1) := by decide +kernel
theorem dL_law_677 : decode cL_law 677 = .ok (.iadd, 1) := by decide +kernel
theorem dL_law_678 : decode cL_law 678 = .ok (.iaload, 1) := by decide +kernel
theorem dL_law_679 : decode cL_law 679 = .ok (.aload_n 0, 1) := by decide +kernel
theorem dL_law_680 : decode cL_law 680 = .ok (.iload_n 3, 1) := by decide +kernel
theorem dL_law_681 : decode cL_law 681 = .ok (.iconst 2, 1) := by decide +kernel
theorem dL_law_682 : decode cL_law 682 = .ok (.iadd, 1) := by decide +kernel
theorem dL_law_683 : decode cL_law 683 = .ok (.iaload, 1) := by decide +kernel
theorem dL_law_684 : decode cL_law 684 = .ok (.aload_n 0, 1) := by decide +kernel
theorem dL_law_685 : decode cL_law 685 = .ok (.iload_n 3, 1) := by decide +kernel
theorem dL_law_686 : decode cL_law 686 = .ok (.iconst 3, 1) := by decide +kernel
theorem dL_law_687 : decode cL_law 687 = .ok (.iadd, 1) := by decide +kernel
theorem dL_law_688 : decode cL_law 688 = .ok (.iaload, 1) := by decide +kernel
theorem dL_law_689 : decode cL_law 689 = .ok (.invokevirtual 87, 3) := by decide +kernel
theorem dL_law_692 : decode cL_law 692 = .ok (.if_icmp .eq 183, 3) := by decide +kernel
theorem dL_law_695 : decode cL_law 695 = .ok (.iconst 0, 1) := by decide +kernel
theorem dL_law_696 : decode cL_law 696 = .ok (.ireturn, 1) := by decide +kernel
theorem dL_law_697 : decode cL_law 697 = .ok (.aload_n 1, 1) := by decide +kernel
theorem dL_law_698 : decode cL_law 698 = .ok (.aload_n 0, 1) := by decide +kernel
theorem dL_law_699 : decode cL_law 699 = .ok (.iload_n 3, 1) := by decide +kernel
theorem dL_law_700 : decode cL_law 700 = .ok (.iconst 1, 1) := by decide +kernel
theorem dL_law_701 : decode cL_law 701 = .ok (.iadd, 1) := by decide +kernel
theorem dL_law_702 : decode cL_law 702 = .ok (.iaload, 1) := by decide +kernel
theorem dL_law_703 : decode cL_law 703 = .ok (.aload_n 0, 1) := by decide +kernel
theorem dL_law_704 : decode cL_law 704 = .ok (.iload_n 3, 1) := by decide +kernel
theorem dL_law_705 : decode cL_law 705 = .ok (.iconst 2, 1) := by decide +kernel
theorem dL_law_706 : decode cL_law 706 = .ok (.iadd, 1) := by decide +kernel
theorem dL_law_707 : decode cL_law 707 = .ok (.iaload, 1) := by decide +kernel
theorem dL_law_708 : decode cL_law 708 = .ok (.aload_n 0, 1) := by decide +kernel
theorem dL_law_709 : decode cL_law 709 = .ok (.iload_n 3, 1) := by decide +kernel
theorem dL_law_710 : decode cL_law 710 = .ok (.iconst 3, 1) := by decide +kernel
theorem dL_law_711 : decode cL_law 711 = .ok (.iadd, 1) := by decide +kernel
theorem dL_law_712 : decode cL_law 712 = .ok (.iaload, 1) := by decide +kernel
theorem dL_law_713 : decode cL_law 713 = .ok (.aload_n 0, 1) := by decide +kernel
theorem dL_law_714 : decode cL_law 714 = .ok (.iload_n 3, 1) := by decide +kernel
theorem dL_law_715 : decode cL_law 715 = .ok (.iconst 4, 1) := by decide +kernel
theorem dL_law_716 : decode cL_law 716 = .ok (.iadd, 1) := by decide +kernel
theorem dL_law_717 : decode cL_law 717 = .ok (.iaload, 1) := by decide +kernel
theorem dL_law_718 : decode cL_law 718 = .ok (.invokevirtual 88, 3) := by decide +kernel
theorem dL_law_721 : decode cL_law 721 = .ok (.aload_n 2, 1) := by decide +kernel
theorem dL_law_722 : decode cL_law 722 = .ok (.aload_n 0, 1) := by decide +kernel
theorem dL_law_723 : decode cL_law 723 = .ok (.iload_n 3, 1) := by decide +kernel
theorem dL_law_724 : decode cL_law 724 = .ok (.iconst 1, 1) := by decide +kernel
theorem dL_law_725 : decode cL_law 725 = .ok (.iadd, 1) := by decide +kernel
theorem dL_law_726 : decode cL_law 726 = .ok (.iaload, 1) := by decide +kernel
theorem dL_law_727 : decode cL_law 727 = .ok (.aload_n 0, 1) := by decide +kernel
theorem dL_law_728 : decode cL_law 728 = .ok (.iload_n 3, 1) := by decide +kernel
theorem dL_law_729 : decode cL_law 729 = .ok (.iconst 2, 1) := by decide +kernel
theorem dL_law_730 : decode cL_law 730 = .ok (.iadd, 1) := by decide +kernel
theorem dL_law_731 : decode cL_law 731 = .ok (.iaload, 1) := by decide +kernel
theorem dL_law_732 : decode cL_law 732 = .ok (.aload_n 0, 1) := by decide +kernel
theorem dL_law_733 : decode cL_law 733 = .ok (.iload_n 3, 1) := by decide +kernel
theorem dL_law_734 : decode cL_law 734 = .ok (.iconst 3, 1) := by decide +kernel
theorem dL_law_735 : decode cL_law 735 = .ok (.iadd, 1) := by decide +kernel
theorem dL_law_736 : decode cL_law 736 = .ok (.iaload, 1) := by decide +kernel
theorem dL_law_737 : decode cL_law 737 = .ok (.aload_n 0, 1) := by decide +kernel
theorem dL_law_738 : decode cL_law 738 = .ok (.iload_n 3, 1) := by decide +kernel
theorem dL_law_739 : decode cL_law 739 = .ok (.iconst 4, 1) := by decide +kernel
theorem dL_law_740 : decode cL_law 740 = .ok (.iadd, 1) := by decide +kernel
theorem dL_law_741 : decode cL_law 741 = .ok (.iaload, 1) := by decide +kernel
theorem dL_law_742 : decode cL_law 742 = .ok (.invokevirtual 92, 3) := by decide +kernel
theorem dL_law_745 : decode cL_law 745 = .ok (.if_icmp .eq 130, 3) := by decide +kernel
theorem dL_law_748 : decode cL_law 748 = .ok (.iconst 0, 1) := by decide +kernel
theorem dL_law_749 : decode cL_law 749 = .ok (.ireturn, 1) := by decide +kernel
theorem dL_law_750 : decode cL_law 750 = .ok (.aload_n 1, 1) := by decide +kernel
theorem dL_law_751 : decode cL_law 751 = .ok (.aload_n 0, 1) := by decide +kernel
theorem dL_law_752 : decode cL_law 752 = .ok (.iload_n 3, 1) := by decide +kernel
theorem dL_law_753 : decode cL_law 753 = .ok (.iconst 1, 1) := by decide +kernel
theorem dL_law_754 : decode cL_law 754 = .ok (.iadd, 1) := by decide +kernel
theorem dL_law_755 : decode cL_law 755 = .ok (.iaload, 1) := by decide +kernel
theorem dL_law_756 : decode cL_law 756 = .ok (.aload_n 0, 1) := by decide +kernel
theorem dL_law_757 : decode cL_law 757 = .ok (.iload_n 3, 1) := by decide +kernel
theorem dL_law_758 : decode cL_law 758 = .ok (.iconst 2, 1) := by decide +kernel
theorem dL_law_759 : decode cL_law 759 = .ok (.iadd, 1) := by decide +kernel
theorem dL_law_760 : decode cL_law 760 = .ok (.iaload, 1) := by decide +kernel
theorem dL_law_761 : decode cL_law 761 = .ok (.invokevirtual 93, 3) := by decide +kernel
theorem dL_law_764 : decode cL_law 764 = .ok (.aload_n 2, 1) := by decide +kernel
theorem dL_law_765 : decode cL_law 765 = .ok (.aload_n 0, 1) := by decide +kernel
theorem dL_law_766 : decode cL_law 766 = .ok (.iload_n 3, 1) := by decide +kernel
theorem dL_law_767 : decode cL_law 767 = .ok (.iconst 1, 1) := by decide +kernel
theorem dL_law_768 : decode cL_law 768 = .ok (.iadd, 1) := by decide +kernel
theorem dL_law_769 : decode cL_law 769 = .ok (.iaload, 1) := by decide +kernel
theorem dL_law_770 : decode cL_law 770 = .ok (.aload_n 0, 1) := by decide +kernel
theorem dL_law_771 : decode cL_law 771 = .ok (.iload_n 3, 1) := by decide +kernel
theorem dL_law_772 : decode cL_law 772 = .ok (.iconst 2, 1) := by decide +kernel
theorem dL_law_773 : decode cL_law 773 = .ok (.iadd, 1) := by decide +kernel
theorem dL_law_774 : decode cL_law 774 = .ok (.iaload, 1) := by decide +kernel
theorem dL_law_775 : decode cL_law 775 = .ok (.invokevirtual 96, 3) := by decide +kernel
theorem dL_law_778 : decode cL_law 778 = .ok (.if_icmp .eq 97, 3) := by decide +kernel
theorem dL_law_781 : decode cL_law 781 = .ok (.iconst 0, 1) := by decide +kernel
theorem dL_law_782 : decode cL_law 782 = .ok (.ireturn, 1) := by decide +kernel
theorem dL_law_783 : decode cL_law 783 = .ok (.aload_n 1, 1) := by decide +kernel
theorem dL_law_784 : decode cL_law 784 = .ok (.invokevirtual 97, 3) := by decide +kernel
theorem dL_law_787 : decode cL_law 787 = .ok (.aload_n 2, 1) := by decide +kernel
theorem dL_law_788 : decode cL_law 788 = .ok (.invokevirtual 101, 3) := by decide +kernel
theorem dL_law_791 : decode cL_law 791 = .ok (.if_icmp .eq 84, 3) := by decide +kernel
theorem dL_law_794 : decode cL_law 794 = .ok (.iconst 0, 1) := by decide +kernel
theorem dL_law_795 : decode cL_law 795 = .ok (.ireturn, 1) := by decide +kernel
theorem dL_law_796 : decode cL_law 796 = .ok (.aload_n 1, 1) := by decide +kernel
theorem dL_law_797 : decode cL_law 797 = .ok (.aload_n 0, 1) := by decide +kernel
theorem dL_law_798 : decode cL_law 798 = .ok (.iload_n 3, 1) := by decide +kernel
theorem dL_law_799 : decode cL_law 799 = .ok (.iconst 1, 1) := by decide +kernel
theorem dL_law_800 : decode cL_law 800 = .ok (.iadd, 1) := by decide +kernel
theorem dL_law_801 : decode cL_law 801 = .ok (.iaload, 1) := by decide +kernel
theorem dL_law_802 : decode cL_law 802 = .ok (.invokevirtual 102, 3) := by decide +kernel
theorem dL_law_805 : decode cL_law 805 = .ok (.aload_n 2, 1) := by decide +kernel
theorem dL_law_806 : decode cL_law 806 = .ok (.aload_n 0, 1) := by decide +kernel
theorem dL_law_807 : decode cL_law 807 = .ok (.iload_n 3, 1) := by decide +kernel
theorem dL_law_808 : decode cL_law 808 = .ok (.iconst 1, 1) := by decide +kernel
theorem dL_law_809 : decode cL_law 809 = .ok (.iadd, 1) := by decide +kernel
theorem dL_law_810 : decode cL_law 810 = .ok (.iaload, 1) := by decide +kernel
theorem dL_law_811 : decode cL_law 811 = .ok (.invokevirtual 105, 3) := by decide +kernel
theorem dL_law_814 : decode cL_law 814 = .ok (.if_icmp .eq 61, 3) := by decide +kernel
theorem dL_law_817 : decode cL_law 817 = .ok (.iconst 0, 1) := by decide +kernel
theorem dL_law_818 : decode cL_law 818 = .ok (.ireturn, 1) := by decide +kernel
theorem dL_law_819 : decode cL_law 819 = .ok (.aload_n 1, 1) := by decide +kernel
theorem dL_law_820 : decode cL_law 820 = .ok (.aload_n 0, 1) := by decide +kernel
theorem dL_law_821 : decode cL_law 821 = .ok (.iload_n 3, 1) := by decide +kernel
theorem dL_law_822 : decode cL_law 822 = .ok (.iconst 1, 1) := by decide +kernel
theorem dL_law_823 : decode cL_law 823 = .ok (.iadd, 1) := by decide +kernel
theorem dL_law_824 : decode cL_law 824 = .ok (.iaload, 1) := by decide +kernel
theorem dL_law_825 : decode cL_law 825 = .ok (.aload_n 0, 1) := by decide +kernel
theorem dL_law_826 : decode cL_law 826 = .ok (.iload_n 3, 1) := by decide +kernel
theorem dL_law_827 : decode cL_law 827 = .ok (.iconst 2, 1) := by decide +kernel
theorem dL_law_828 : decode cL_law 828 = .ok (.iadd, 1) := by decide +kernel
theorem dL_law_829 : decode cL_law 829 = .ok (.iaload, 1) := by decide +kernel
theorem dL_law_830 : decode cL_law 830 = .ok (.invokevirtual 106, 3) := by decide +kernel
theorem dL_law_833 : decode cL_law 833 = .ok (.aload_n 2, 1) := by decide +kernel
theorem dL_law_834 : decode cL_law 834 = .ok (.aload_n 0, 1) := by decide +kernel
theorem dL_law_835 : decode cL_law 835 = .ok (.iload_n 3, 1) := by decide +kernel
theorem dL_law_836 : decode cL_law 836 = .ok (.iconst 1, 1) := by decide +kernel
theorem dL_law_837 : decode cL_law 837 = .ok (.iadd, 1) := by decide +kernel
theorem dL_law_838 : decode cL_law 838 = .ok (.iaload, 1) := by decide +kernel
theorem dL_law_839 : decode cL_law 839 = .ok (.aload_n 0, 1) := by decide +kernel
theorem dL_law_840 : decode cL_law 840 = .ok (.iload_n 3, 1) := by decide +kernel
theorem dL_law_841 : decode cL_law 841 = .ok (.iconst 2, 1) := by decide +kernel
theorem dL_law_842 : decode cL_law 842 = .ok (.iadd, 1) := by decide +kernel
theorem dL_law_843 : decode cL_law 843 = .ok (.iaload, 1) := by decide +kernel
theorem dL_law_844 : decode cL_law 844 = .ok (.invokevirtual 109, 3) := by decide +kernel
theorem dL_law_847 : decode cL_law 847 = .ok (.if_icmp .eq 28, 3) := by decide +kernel
theorem dL_law_850 : decode cL_law 850 = .ok (.iconst 0, 1) := by decide +kernel
theorem dL_law_851 : decode cL_law 851 = .ok (.ireturn, 1) := by decide +kernel
theorem dL_law_852 : decode cL_law 852 = .ok (.aload_n 1, 1) := by decide +kernel
theorem dL_law_853 : decode cL_law 853 = .ok (.aload_n 0, 1) := by decide +kernel
theorem dL_law_854 : decode cL_law 854 = .ok (.iload_n 3, 1) := by decide +kernel
theorem dL_law_855 : decode cL_law 855 = .ok (.iconst 1, 1) := by decide +kernel
theorem dL_law_856 : decode cL_law 856 = .ok (.iadd, 1) := by decide +kernel
theorem dL_law_857 : decode cL_law 857 = .ok (.iaload, 1) := by decide +kernel
theorem dL_law_858 : decode cL_law 858 = .ok (.invokevirtual 110, 3) := by decide +kernel
theorem dL_law_861 : decode cL_law 861 = .ok (.aload_n 2, 1) := by decide +kernel
theorem dL_law_862 : decode cL_law 862 = .ok (.aload_n 0, 1) := by decide +kernel
theorem dL_law_863 : decode cL_law 863 = .ok (.iload_n 3, 1) := by decide +kernel
theorem dL_law_864 : decode cL_law 864 = .ok (.iconst 1, 1) := by decide +kernel
theorem dL_law_865 : decode cL_law 865 = .ok (.iadd, 1) := by decide +kernel
theorem dL_law_866 : decode cL_law 866 = .ok (.iaload, 1) := by decide +kernel
theorem dL_law_867 : decode cL_law 867 = .ok (.invokevirtual 113, 3) := by decide +kernel
theorem dL_law_870 : decode cL_law 870 = .ok (.if_icmp .eq 5, 3) := by decide +kernel
theorem dL_law_873 : decode cL_law 873 = .ok (.iconst 0, 1) := by decide +kernel
theorem dL_law_874 : decode cL_law 874 = .ok (.ireturn, 1) := by decide +kernel
theorem dL_law_875 : decode cL_law 875 = .ok (.iinc 3 6, 3) := by decide +kernel
theorem dL_law_878 : decode cL_law 878 = .ok (.goto (-860), 3) := by decide +kernel
theorem dL_law_881 : decode cL_law 881 = .ok (.iconst 1, 1) := by decide +kernel
theorem dL_law_882 : decode cL_law 882 = .ok (.ireturn, 1) := by decide +kernel
end
section
theorem tw_in {w : Cond} (i : Nat) (h : tables_1[i]? = some w) : w ∈ lw_tbl := List.mem_append_right _ (List.mem_of_getElem? h)
theorem ts_in {w : Cond} (i : Nat) (h : (k2_sels lw_privs)[i]? = some w) : w ∈ lw_tbl := List.mem_append_left _ (List.mem_of_getElem? h)
def nestWord : Cond → Bool
  | .fieldLinkNest .. => true
  | .methodLinkNest .. => true
  | _ => false
def TG : List Cond := lw_tbl.filter goodWord
def NW : List Cond := lw_tbl.filter nestWord
theorem tg_of {w : Cond} (i : Nat) (h : tables_1[i]? = some w) (g : goodWord w = true) : w ∈ TG := List.mem_filter.mpr ⟨tw_in i h, g⟩
theorem tgs_of {w : Cond} (i : Nat) (h : (k2_sels lw_privs)[i]? = some w) (g : goodWord w = true) : w ∈ TG := List.mem_filter.mpr ⟨ts_in i h, g⟩
theorem nw_of {w : Cond} (i : Nat) (h : tables_1[i]? = some w) (g : nestWord w = true) : w ∈ NW := List.mem_filter.mpr ⟨tw_in i h, g⟩
theorem tg_good {w : Cond} (h : w ∈ TG) : (w.onTables && w.keeps) = true ∨ ∃ ty, w = .arrayClass ty := good_of_word (List.mem_filter.mp h).2
theorem nw_warm {w : Cond} (h : w ∈ NW) {s U : State} (hW : s.WarmedH U.vm) (hZ : va_Nw w s) : va_Nw w U := by
  have h2 := (List.mem_filter.mp h).2
  cases w <;> first | exact va_Nw.warmF hW hZ | exact va_Nw.warmM hW hZ | (exact absurd h2 (by decide)) | (exfalso; revert h2; simp [nestWord])
theorem nw_tab {w : Cond} (h : w ∈ NW) : w.onTables = true := by
  have h2 := (List.mem_filter.mp h).2
  cases w <;> first | rfl | (exfalso; revert h2; simp [nestWord])
abbrev ST : Type := (Nat → Nat → Int32) × Int64
abbrev LE : Type := (Nat × List (Nat × Nat)) ⊕ (Bool × Nat)
def sF (ad : Nat → Nat) (S : ST) (k j : Nat) (f : Nat × Nat) : Value := if f.1 = 0 then .ref (ad f.2) else if f.1 = 1 then .int (S.1 k j) else .long S.2
def sE (ad : Nat → Nat) (cI cZ : ClassId) (S : ST) (k : Nat) (x : LE) : va_E := match x with
  | .inl o => .inr (o.1, o.2.mapIdx (sF ad S k))
  | .inr a => .inl (if a.1 then cZ else cI, a.2, .inl (S.1 k))
def sW (lay : List LE) (ad : Nat → Nat) (cI cZ : ClassId) (S : ST) : va_W := lay.mapIdx (fun k x => (ad k, sE ad cI cZ S k x))
def us (S : ST) (k j : Nat) (v : Int32) : ST := (fun a => if a = k then upd (S.1 k) j v else S.1 a, S.2)
def ul (S : ST) (v : Int64) : ST := (S.1, v)
theorem us_at (S : ST) (k j : Nat) (v : Int32) : (us S k j v).1 k = upd (S.1 k) j v := by simp [us]
theorem us_ne (S : ST) {k a : Nat} (j : Nat) (v : Int32) (h : a ≠ k) : (us S k j v).1 a = S.1 a := by simp [us, h]
theorem us_2 (S : ST) (k j : Nat) (v : Int32) : (us S k j v).2 = S.2 := rfl
theorem sW_at {lay : List LE} {ad : Nat → Nat} {cI cZ : ClassId} {S : ST} {k : Nat} {x : LE} (h : lay[k]? = some x) : (sW lay ad cI cZ S)[k]? = some (ad k, sE ad cI cZ S k x) := by
  simp [sW, List.getElem?_mapIdx, h]
theorem sE_ne {ad : Nat → Nat} {cI cZ : ClassId} {S : ST} {k i j : Nat} {v : Int32} (x : LE) (h : i ≠ k) : sE ad cI cZ (us S k j v) i x = sE ad cI cZ S i x := by
  have e : sF ad (us S k j v) i = sF ad S i := by
    funext a f
    simp only [sF, us_ne S j v h]
    rfl
  cases x with
  | inl o => simp only [sE, e]
  | inr a => simp only [sE, us_ne S j v h]
theorem sW_put {lay : List LE} {ad : Nat → Nat} {cI cZ : ClassId} {S : ST} {k j : Nat} {v : Int32} {x : LE} {y : va_E} (h : lay[k]? = some x) (hy : y = sE ad cI cZ (us S k j v) k x) : (sW lay ad cI cZ S).set k (ad k, y) = sW lay ad cI cZ (us S k j v) := by
  apply List.ext_getElem?
  intro i
  have hl : k < lay.length := (List.getElem?_eq_some_iff.mp h).1
  by_cases hi : i = k
  · subst hi
    rw [List.getElem?_set_self (by simpa [sW] using hl), sW_at h, hy]
  · rw [List.getElem?_set_ne (Ne.symm hi)]
    simp only [sW, List.getElem?_mapIdx]
    cases hx : lay[i]? with
    | none => rfl
    | some z => simp only [Option.map_some, sE_ne z hi]
theorem sW_putI {lay : List LE} {ad : Nat → Nat} {cI cZ : ClassId} {S : ST} {k j ci d : Nat} {fl : List (Nat × Nat)} {v : Int32} (h : lay[k]? = some (.inl (ci, fl))) (hj : fl[j]? = some (1, d)) : (sW lay ad cI cZ S).set k (ad k, .inr (ci, (fl.mapIdx (sF ad S k)).set j (.int v))) = sW lay ad cI cZ (us S k j v) := by
  refine sW_put h ?_
  simp only [sE]
  congr 2
  apply List.ext_getElem?
  intro i
  have hl : j < fl.length := (List.getElem?_eq_some_iff.mp hj).1
  by_cases hi : i = j
  · subst hi
    rw [List.getElem?_set_self (by simpa using hl), List.getElem?_mapIdx, hj]
    simp [sF, us_at, upd]
  · rw [List.getElem?_set_ne (Ne.symm hi), List.getElem?_mapIdx, List.getElem?_mapIdx]
    cases fl[i]? with
    | none => rfl
    | some f => simp [sF, us_at, us_2, upd, hi]
theorem sW_putA {lay : List LE} {ad : Nat → Nat} {cI cZ : ClassId} {S : ST} {k i n : Nat} {b : Bool} {v : Int32} (h : lay[k]? = some (.inr (b, n))) : (sW lay ad cI cZ S).set k (ad k, .inl (if b then cZ else cI, n, .inl (upd (S.1 k) i v))) = sW lay ad cI cZ (us S k i v) := by
  refine sW_put h ?_
  simp only [sE, us_at]
def aW (lay : List LE) (ad : Nat → Nat) (q : Nat) : Prop := ∃ k, k < lay.length ∧ ad k = q
def injW (lay : List LE) (ad : Nat → Nat) : Prop := ∀ i j, i < lay.length → j < lay.length → ad i = ad j → i = j
theorem sW_len {lay : List LE} {ad : Nat → Nat} {cI cZ : ClassId} {S : ST} : (sW lay ad cI cZ S).length = lay.length := by simp [sW]
theorem sW_fst {lay : List LE} {ad : Nat → Nat} {cI cZ : ClassId} {S : ST} {k : Nat} {q : Nat × va_E} (h : (sW lay ad cI cZ S)[k]? = some q) : k < lay.length ∧ q.1 = ad k := by
  have hl : k < lay.length := by rw [← sW_len (lay := lay) (ad := ad) (cI := cI) (cZ := cZ) (S := S)]; exact (List.getElem?_eq_some_iff.mp h).1
  obtain ⟨x, hx⟩ : ∃ x, lay[k]? = some x := ⟨lay[k], List.getElem?_eq_getElem hl⟩
  rw [sW_at hx] at h
  cases h
  exact ⟨hl, rfl⟩
theorem sW_D {lay : List LE} {ad : Nat → Nat} {cI cZ : ClassId} (hi : injW lay ad) (S : ST) : va_D (aW lay ad) (sW lay ad cI cZ S) := by
  refine ⟨fun i j p q h1 h2 h3 => ?_, fun k q h => ?_⟩
  · have a1 := sW_fst h1
    have a2 := sW_fst h2
    exact hi i j a1.1 a2.1 (by rw [← a1.2, ← a2.2, h3])
  · have a1 := sW_fst h
    exact ⟨k, a1.1, a1.2.symm⟩
def cOK (ci : Nat) (C : String) (T : u_T) (N : Nat) (ty0 : Nat → FieldType) : Prop := vwCl[ci]? = some (C, T, N) ∧ (∀ w ∈ u_ws C T N, w ∈ TG) ∧ (∀ k, k < N → parseFieldDescriptor (T k).2.2.1 = some (ty0 k)) ∧ (∀ a, a < N → ∀ b, b < N → a ≠ b → (T a).2.1 ≠ (T b).2.1)
def lkF (own : String) (idx : Nat) (T : u_T) (j : Nat) : Prop := Cond.fieldLink own idx (T j).1 (T j).2.1 (T j).2.2.1 ∈ TG ∨ ∃ host, Cond.fieldLinkNest own idx (T j).1 (T j).2.1 (T j).2.2.1 host ∈ NW
def fOK (own : String) (idx ci j : Nat) : Prop := ∃ (C : String) (T : u_T) (N : Nat) (ty0 : Nat → FieldType), cOK ci C T N ty0 ∧ j < N ∧ lkF own idx T j
def pOK (own : String) (idx ci j : Nat) (ty : FieldType) : Prop := ∃ (C : String) (T : u_T) (N : Nat) (ty0 : Nat → FieldType), cOK ci C T N ty0 ∧ j < N ∧ lkF own idx T j ∧ (T j).2.2.2 = false ∧ parseFieldDescriptor (T j).2.2.1 = some ty
def stTab : List (Nat × String) := [(68, "grade"), (74, "worth"), (76, "when"), (78, "not"), (80, "and"), (82, "or"), (87, "knots"), (89, "splits"), (91, "holes"), (93, "plugs"), (95, "run")]
def stLen : List Nat := [5, 5, 4, 3, 3, 2, 5, 6, 5, 5, 3]
def stByt : List (List Int32) := [[103, 114, 97, 100, 101], [119, 111, 114, 116, 104], [119, 104, 101, 110], [110, 111, 116], [97, 110, 100], [111, 114], [107, 110, 111, 116, 115], [115, 112, 108, 105, 116, 115], [104, 111, 108, 101, 115], [112, 108, 117, 103, 115], [114, 117, 110]]
def sOK (lay : List LE) (ad : Nat → Nat) (U : State) (H : Heap) : Prop := vk_S 11 stLen stByt (fun i => ad (100 + i)) (fun i => ad (200 + i)) (aW lay ad) U H ∧ va_Z "java/lang/String" "COMPACT_STRINGS" "Z" (.int 1) (aW lay ad) U H ∧ ∀ (i : Nat) (q : Nat × String), stTab[i]? = some q → vk_R "PlyHouse$Tokens" q.1 q.2 (ad (100 + i)) U
theorem sOK.same {lay : List LE} {ad : Nat → Nat} {u U : State} {H : Heap} (hv : U.vm = u.vm) (h : sOK lay ad u H) : sOK lay ad U H := ⟨vk_S.moved (by rw [hv]; exact Vm.Alike.refl _) h.1, va_Z.moved (by rw [hv]; exact Vm.Alike.refl _) h.2.1, fun i q hq => vk_R.same hv (h.2.2 i q hq)⟩
theorem sOK.warm {lay : List LE} {ad : Nat → Nat} {s U : State} {H : Heap} (hW : s.WarmedH U.vm) (h : sOK lay ad s H) : sOK lay ad U H := ⟨vk_S.moved hW.alike h.1, va_Z.moved hW.alike h.2.1, fun i q hq => vk_R.warm hW (h.2.2 i q hq)⟩
theorem sOK.kept {lay : List LE} {ad : Nat → Nat} {U : State} {H H1 : Heap} {locs : List Loc} (h : sOK lay ad U H) (hS : va_S (aW lay ad) H H1 locs) : sOK lay ad U H1 := ⟨h.1.kept hS.2.1, h.2.1.kept hS.2.1, h.2.2⟩
def rmL (n : Nat) : Room := { frames := n, cells := 0, slots := 0, locals := 40 * n + 20 }
def pcS (lay : List LE) (ad : Nat → Nat) (cI cZ : ClassId) (D : va_G) (S : ST) (As : List Value) : Array Value → State → Prop := va_Pc As (fun U => va_P D vwCl (sW lay ad cI cZ S) U.heap ∧ va_K D vwCl [(cI, .int), (cZ, .boolean)] U ∧ (∀ w ∈ NW, va_Nw w U) ∧ sOK lay ad U U.heap)
def qqS (lay : List LE) (ad : Nat → Nat) (cI cZ : ClassId) (D : va_G) (ret : Option FieldType) (r : Int32 × ST) : Array Value → State → Outcome → State → Prop := match ret with
  | none => va_Qv (fun _ : Unit => True) (fun _ t => va_P D vwCl (sW lay ad cI cZ r.2) t.heap) (aW lay ad)
  | some _ => va_Qi (fun v (_ : Unit) => v = r.1) (fun _ t => va_P D vwCl (sW lay ad cI cZ r.2) t.heap) (aW lay ad)
abbrev CT : Type := Program × Launch × Env × Room × State × MethodId × Array Value × List Frame × Method × Code × Option FieldType × va_G × (Nat → Nat) × ClassId × ClassId × List LE
def eA (E : CT) : Nat → Nat := E.2.2.2.2.2.2.2.2.2.2.2.2.1
def Cx (E : CT) (lay : List LE) (cc : ByteArray) (own : String) (nL : Nat) (ret : Option FieldType) (lev : Nat) : Prop := match E with
  | (p, _, _, R, s, m, args, _, meth, c, rt, D, ad, cI, cZ, ly) => p.tables.exec = Jvm.exec ∧ c.code = cc ∧ c.maxLocals = nL ∧ s.vm.findClass own = some m.cls ∧ (∀ w ∈ TG, w.before args s = true) ∧ va_K D vwCl [(cI, .int), (cZ, .boolean)] s ∧ (∀ w ∈ NW, va_Nw w s) ∧ injW lay ad ∧ meth.locks = false ∧ meth.sig.returnType = ret ∧ rt = ret ∧ ly = lay ∧ R = rmL lev ∧ sOK lay ad s s.heap
def G (E : CT) (f : Option (Int32 × ST)) (S : ST) (pc : Nat) (lv : List (Nat × Value)) (st : List Value) : Prop := match E with
  | (p, l, e, R, s, m, args, below, meth, c, rt, D, ad, cI, cZ, ly) => ∀ r, f = some r → ∀ (H : Heap) (locs : List Loc) (ls : Array Slot), va_P D vwCl (sW ly ad cI cZ S) H → va_S (aW ly ad) s.heap H locs → lv_has ls c.maxLocals lv → W p l e R s m args below meth c H locs 0 0 (MQ below (qqS ly ad cI cZ D rt r) args s 0 0 (aW ly ad)) (F0 m pc ls st)
def vin (i : Int32) (n : Nat) : Bool := decide (0 ≤ i.toInt ∧ i.toInt < (n : Int))
def ix (i : Int32) : Nat := i.toNatClampNeg
theorem vin_in {i : Int32} {n : Nat} (h : vin i n = true) : vp_in i n := vp_in_iff.mpr (of_decide_eq_true h)
def jmax (x y : Int32) : Int32 := if x < y then y else x
def jmin (x y : Int32) : Int32 := if y < x then y else x
def lvIns (a : Nat × Value) : List (Nat × Value) → List (Nat × Value)
  | [] => [a]
  | q :: t => if a.1 < q.1 then a :: q :: t else q :: lvIns a t
def lvPut (lv : List (Nat × Value)) (i : Nat) (v : Value) : List (Nat × Value) := lvIns (i, v) (lv.filter (fun q => !(q.1 == i) && !(q.1 + 1 == i && q.2.category == 2)))
theorem lvIns_mem {a q : Nat × Value} : ∀ {l : List (Nat × Value)}, q ∈ lvIns a l → q ∈ a :: l
  | [], h => h
  | b :: t, h => by
    unfold lvIns at h
    split at h
    · exact h
    · rcases List.mem_cons.mp h with h | h
      · rw [h]; exact List.mem_cons_of_mem _ List.mem_cons_self
      · rcases List.mem_cons.mp (lvIns_mem h) with h | h
        · rw [h]; exact List.mem_cons_self
        · exact List.mem_cons_of_mem _ (List.mem_cons_of_mem _ h)
theorem lvPut_has {ls : Array Slot} {nL i : Nat} {v : Value} {lv : List (Nat × Value)} (h : lv_has ls nL ((i, v) :: lv.filter (fun q => !(q.1 == i) && !(q.1 + 1 == i && q.2.category == 2)))) : lv_has ls nL (lvPut lv i v) := ⟨h.1, h.2.1, fun q hq => h.2.2 q (lvIns_mem hq)⟩
theorem lv_fewer {ls : Array Slot} {nL : Nat} {l l' : List (Nat × Value)} (h : lv_has ls nL l) (hs : ∀ q ∈ l', q ∈ l) : lv_has ls nL l' := ⟨h.1, h.2.1, fun q hq => h.2.2 q (hs q hq)⟩
theorem z01 {v : Int32} (hv : v &&& 1 = v) : v = 0 ∨ v = 1 := by
  have h := pk_and v (m := 1) 1 rfl
  rw [hv] at h
  rcases Nat.mod_two_eq_zero_or_one v.toBitVec.toNat with h2 | h2
  · exact Or.inl (by rw [h]; simp only [Nat.pow_one, h2]; rfl)
  · exact Or.inr (by rw [h]; simp only [Nat.pow_one, h2]; rfl)
theorem fits_z {v : Int32} (hv : v &&& 1 = v) : fits .boolean (.int v) = true := by
  rcases z01 hv with rfl | rfl <;> decide
section ROWS
variable {E : CT} {f f1 f2 : Option (Int32 × ST)} {S : ST} {pc : Nat} {lv lv' : List (Nat × Value)} {st : List Value} {lay : List LE} {cc : ByteArray} {own : String} {nL lev : Nat} {ret : Option FieldType}
theorem r_none : G E none S pc lv st := by
  obtain ⟨p, l, e, R, s, m, args, below, meth, c, rt, D, ad, cI, cZ, ly⟩ := E
  intro r hr
  cases hr
theorem r_ite {c : Prop} [Decidable c] (h1 : c → G E f1 S pc lv st) (h2 : ¬ c → G E f2 S pc lv st) : G E (if c then f1 else f2) S pc lv st := by
  by_cases h : c
  · rw [if_pos h]; exact h1 h
  · rw [if_neg h]; exact h2 h
theorem r_chk {b : Bool} (h1 : b = true → G E f S pc lv st) : G E (if b = true then f else none) S pc lv st := r_ite h1 (fun _ => r_none)
theorem r_sub (ks : List Nat) (hl : lv_pick lv ks = lv') (h : G E f S pc lv' st) : G E f S pc lv st := by
  obtain ⟨p, l, e, R, s, m, args, below, meth, c, rt, D, ad, cI, cZ, ly⟩ := E
  intro r hr H locs ls hP hS hv
  exact h r hr H locs ls hP hS (lv_sub hv ks hl)
theorem r_iconst (X : Cx E lay cc own nL ret lev) {n : Int} {v : Int32} (hv : Int32.ofInt n = v) (d : decode cc pc = .ok (.iconst n, 1)) (kk : G E f S (pc + 1) lv (.int v :: st)) : G E f S pc lv (st) := by
  obtain ⟨p, l, e, R, s, m, args, below, meth, c, rt, D, ad, cI, cZ, ly⟩ := E
  obtain ⟨hx, hb, hml, hown, hts, hK, hN, hj, hlk, hrt, hr1, hly, hR, hstr⟩ := X
  intro r hr H locs ls hP hS hl
  exact lv_iconst hx hb d hv (kk r hr H locs ls hP hS hl)
theorem r_bipush (X : Cx E lay cc own nL ret lev) {n : Int} {v : Int32} (hv : (Int8.ofInt n).toInt32 = v) (d : decode cc pc = .ok (.bipush n, 2)) (kk : G E f S (pc + 2) lv (.int v :: st)) : G E f S pc lv (st) := by
  obtain ⟨p, l, e, R, s, m, args, below, meth, c, rt, D, ad, cI, cZ, ly⟩ := E
  obtain ⟨hx, hb, hml, hown, hts, hK, hN, hj, hlk, hrt, hr1, hly, hR, hstr⟩ := X
  intro r hr H locs ls hP hS hl
  exact lv_bipush hx hb d hv (kk r hr H locs ls hP hS hl)
theorem r_sipush (X : Cx E lay cc own nL ret lev) {n : Int} {v : Int32} (hv : (Int16.ofInt n).toInt32 = v) (d : decode cc pc = .ok (.sipush n, 3)) (kk : G E f S (pc + 3) lv (.int v :: st)) : G E f S pc lv (st) := by
  obtain ⟨p, l, e, R, s, m, args, below, meth, c, rt, D, ad, cI, cZ, ly⟩ := E
  obtain ⟨hx, hb, hml, hown, hts, hK, hN, hj, hlk, hrt, hr1, hly, hR, hstr⟩ := X
  intro r hr H locs ls hP hS hl
  exact lv_sipush hx hb d hv (kk r hr H locs ls hP hS hl)
theorem r_lconst (X : Cx E lay cc own nL ret lev) {n : Fin 2} {v : Int64} (hv : Int64.ofNat (n : Nat) = v) (d : decode cc pc = .ok (.lconst n, 1)) (kk : G E f S (pc + 1) lv (.long v :: st)) : G E f S pc lv (st) := by
  obtain ⟨p, l, e, R, s, m, args, below, meth, c, rt, D, ad, cI, cZ, ly⟩ := E
  obtain ⟨hx, hb, hml, hown, hts, hK, hN, hj, hlk, hrt, hr1, hly, hR, hstr⟩ := X
  intro r hr H locs ls hP hS hl
  exact lv_lconst hx hb d hv (kk r hr H locs ls hP hS hl)
theorem r_iload_n (X : Cx E lay cc own nL ret lev) {q : Fin 4} {x : Int32} (k : Nat) (hk : lv[k]? = some ((q : Nat), .int x)) (d : decode cc pc = .ok (.iload_n q, 1)) (kk : G E f S (pc + 1) lv (.int x :: st)) : G E f S pc lv (st) := by
  obtain ⟨p, l, e, R, s, m, args, below, meth, c, rt, D, ad, cI, cZ, ly⟩ := E
  obtain ⟨hx, hb, hml, hown, hts, hK, hN, hj, hlk, hrt, hr1, hly, hR, hstr⟩ := X
  intro r hr H locs ls hP hS hl
  exact lv_iload_n hx hb d rfl (lv_at hl k hk) (kk r hr H locs ls hP hS hl)
theorem r_iload (X : Cx E lay cc own nL ret lev) {i : Nat} {x : Int32} (k : Nat) (hk : lv[k]? = some (i, .int x)) (d : decode cc pc = .ok (.iload i, 2)) (kk : G E f S (pc + 2) lv (.int x :: st)) : G E f S pc lv (st) := by
  obtain ⟨p, l, e, R, s, m, args, below, meth, c, rt, D, ad, cI, cZ, ly⟩ := E
  obtain ⟨hx, hb, hml, hown, hts, hK, hN, hj, hlk, hrt, hr1, hly, hR, hstr⟩ := X
  intro r hr H locs ls hP hS hl
  exact lv_iload hx hb d (lv_at hl k hk) (kk r hr H locs ls hP hS hl)
theorem r_aload_n (X : Cx E lay cc own nL ret lev) {q : Fin 4} {x : Nat} (k : Nat) (hk : lv[k]? = some ((q : Nat), .ref x)) (d : decode cc pc = .ok (.aload_n q, 1)) (kk : G E f S (pc + 1) lv (.ref x :: st)) : G E f S pc lv (st) := by
  obtain ⟨p, l, e, R, s, m, args, below, meth, c, rt, D, ad, cI, cZ, ly⟩ := E
  obtain ⟨hx, hb, hml, hown, hts, hK, hN, hj, hlk, hrt, hr1, hly, hR, hstr⟩ := X
  intro r hr H locs ls hP hS hl
  exact lv_aload_n hx hb d rfl (lv_at hl k hk) (kk r hr H locs ls hP hS hl)
theorem r_aload (X : Cx E lay cc own nL ret lev) {i : Nat} {x : Nat} (k : Nat) (hk : lv[k]? = some (i, .ref x)) (d : decode cc pc = .ok (.aload i, 2)) (kk : G E f S (pc + 2) lv (.ref x :: st)) : G E f S pc lv (st) := by
  obtain ⟨p, l, e, R, s, m, args, below, meth, c, rt, D, ad, cI, cZ, ly⟩ := E
  obtain ⟨hx, hb, hml, hown, hts, hK, hN, hj, hlk, hrt, hr1, hly, hR, hstr⟩ := X
  intro r hr H locs ls hP hS hl
  exact lv_aload hx hb d (lv_at hl k hk) (kk r hr H locs ls hP hS hl)
theorem r_lload_n (X : Cx E lay cc own nL ret lev) {q : Fin 4} {x : Int64} (k : Nat) (hk : lv[k]? = some ((q : Nat), .long x)) (d : decode cc pc = .ok (.lload_n q, 1)) (kk : G E f S (pc + 1) lv (.long x :: st)) : G E f S pc lv (st) := by
  obtain ⟨p, l, e, R, s, m, args, below, meth, c, rt, D, ad, cI, cZ, ly⟩ := E
  obtain ⟨hx, hb, hml, hown, hts, hK, hN, hj, hlk, hrt, hr1, hly, hR, hstr⟩ := X
  intro r hr H locs ls hP hS hl
  exact lv_lload_n hx hb d rfl (lv_at hl k hk) (kk r hr H locs ls hP hS hl)
theorem r_lload (X : Cx E lay cc own nL ret lev) {i : Nat} {x : Int64} (k : Nat) (hk : lv[k]? = some (i, .long x)) (d : decode cc pc = .ok (.lload i, 2)) (kk : G E f S (pc + 2) lv (.long x :: st)) : G E f S pc lv (st) := by
  obtain ⟨p, l, e, R, s, m, args, below, meth, c, rt, D, ad, cI, cZ, ly⟩ := E
  obtain ⟨hx, hb, hml, hown, hts, hK, hN, hj, hlk, hrt, hr1, hly, hR, hstr⟩ := X
  intro r hr H locs ls hP hS hl
  exact lv_lload hx hb d (lv_at hl k hk) (kk r hr H locs ls hP hS hl)
theorem r_istore_n (X : Cx E lay cc own nL ret lev) {q : Fin 4} {x : Int32} (hn : (q : Nat) < nL) (hlv : lvPut lv (q : Nat) (.int x) = lv') (d : decode cc pc = .ok (.istore_n q, 1)) (kk : G E f S (pc + 1) lv' (st)) : G E f S pc lv (.int x :: st) := by
  obtain ⟨p, l, e, R, s, m, args, below, meth, c, rt, D, ad, cI, cZ, ly⟩ := E
  obtain ⟨hx, hb, hml, hown, hts, hK, hN, hj, hlk, hrt, hr1, hly, hR, hstr⟩ := X
  intro r hr H locs ls hP hS hl
  exact lv_istore_n hx hb d rfl hl (by rw [hml]; exact hn) rfl (fun ls' hl' => kk r hr H locs ls' hP hS (by rw [← hlv]; exact lvPut_has hl'))
theorem r_istore (X : Cx E lay cc own nL ret lev) {i : Nat} {x : Int32} (hn : i < nL) (hlv : lvPut lv i (.int x) = lv') (d : decode cc pc = .ok (.istore i, 2)) (kk : G E f S (pc + 2) lv' (st)) : G E f S pc lv (.int x :: st) := by
  obtain ⟨p, l, e, R, s, m, args, below, meth, c, rt, D, ad, cI, cZ, ly⟩ := E
  obtain ⟨hx, hb, hml, hown, hts, hK, hN, hj, hlk, hrt, hr1, hly, hR, hstr⟩ := X
  intro r hr H locs ls hP hS hl
  exact lv_istore hx hb d hl (by rw [hml]; exact hn) rfl (fun ls' hl' => kk r hr H locs ls' hP hS (by rw [← hlv]; exact lvPut_has hl'))
theorem r_iinc (X : Cx E lay cc own nL ret lev) {i : Nat} {n : Int} {x dl : Int32} (k : Nat) (hk : lv[k]? = some (i, .int x)) (hd : Int32.ofInt n = dl) (hn : i < nL) (hlv : lvPut lv i (.int (x + dl)) = lv') (d : decode cc pc = .ok (.iinc i n, 3)) (kk : G E f S (pc + 3) lv' (st)) : G E f S pc lv (st) := by
  obtain ⟨p, l, e, R, s, m, args, below, meth, c, rt, D, ad, cI, cZ, ly⟩ := E
  obtain ⟨hx, hb, hml, hown, hts, hK, hN, hj, hlk, hrt, hr1, hly, hR, hstr⟩ := X
  intro r hr H locs ls hP hS hl
  exact lv_iinc hx hb d hl hk (by rw [hd]) (by rw [hml]; exact hn) rfl (fun ls' hl' => kk r hr H locs ls' hP hS (by rw [← hlv]; exact lvPut_has hl'))
theorem r_iadd (X : Cx E lay cc own nL ret lev) {x y : Int32} (d : decode cc pc = .ok (.iadd, 1)) (kk : G E f S (pc + 1) lv (.int (x + y) :: st)) : G E f S pc lv (.int y :: .int x :: st) := by
  obtain ⟨p, l, e, R, s, m, args, below, meth, c, rt, D, ad, cI, cZ, ly⟩ := E
  obtain ⟨hx, hb, hml, hown, hts, hK, hN, hj, hlk, hrt, hr1, hly, hR, hstr⟩ := X
  intro r hr H locs ls hP hS hl
  exact lv_iadd hx hb d  (kk r hr H locs ls hP hS hl)
theorem r_isub (X : Cx E lay cc own nL ret lev) {x y : Int32} (d : decode cc pc = .ok (.isub, 1)) (kk : G E f S (pc + 1) lv (.int (x - y) :: st)) : G E f S pc lv (.int y :: .int x :: st) := by
  obtain ⟨p, l, e, R, s, m, args, below, meth, c, rt, D, ad, cI, cZ, ly⟩ := E
  obtain ⟨hx, hb, hml, hown, hts, hK, hN, hj, hlk, hrt, hr1, hly, hR, hstr⟩ := X
  intro r hr H locs ls hP hS hl
  exact lv_isub hx hb d  (kk r hr H locs ls hP hS hl)
theorem r_imul (X : Cx E lay cc own nL ret lev) {x y : Int32} (d : decode cc pc = .ok (.imul, 1)) (kk : G E f S (pc + 1) lv (.int (x * y) :: st)) : G E f S pc lv (.int y :: .int x :: st) := by
  obtain ⟨p, l, e, R, s, m, args, below, meth, c, rt, D, ad, cI, cZ, ly⟩ := E
  obtain ⟨hx, hb, hml, hown, hts, hK, hN, hj, hlk, hrt, hr1, hly, hR, hstr⟩ := X
  intro r hr H locs ls hP hS hl
  exact lv_imul hx hb d  (kk r hr H locs ls hP hS hl)
theorem r_iand (X : Cx E lay cc own nL ret lev) {x y : Int32} (d : decode cc pc = .ok (.iand, 1)) (kk : G E f S (pc + 1) lv (.int (x &&& y) :: st)) : G E f S pc lv (.int y :: .int x :: st) := by
  obtain ⟨p, l, e, R, s, m, args, below, meth, c, rt, D, ad, cI, cZ, ly⟩ := E
  obtain ⟨hx, hb, hml, hown, hts, hK, hN, hj, hlk, hrt, hr1, hly, hR, hstr⟩ := X
  intro r hr H locs ls hP hS hl
  exact lv_iand hx hb d  (kk r hr H locs ls hP hS hl)
theorem r_ior (X : Cx E lay cc own nL ret lev) {x y : Int32} (d : decode cc pc = .ok (.ior, 1)) (kk : G E f S (pc + 1) lv (.int (x ||| y) :: st)) : G E f S pc lv (.int y :: .int x :: st) := by
  obtain ⟨p, l, e, R, s, m, args, below, meth, c, rt, D, ad, cI, cZ, ly⟩ := E
  obtain ⟨hx, hb, hml, hown, hts, hK, hN, hj, hlk, hrt, hr1, hly, hR, hstr⟩ := X
  intro r hr H locs ls hP hS hl
  exact lv_ior hx hb d  (kk r hr H locs ls hP hS hl)
theorem r_ixor (X : Cx E lay cc own nL ret lev) {x y : Int32} (d : decode cc pc = .ok (.ixor, 1)) (kk : G E f S (pc + 1) lv (.int (x ^^^ y) :: st)) : G E f S pc lv (.int y :: .int x :: st) := by
  obtain ⟨p, l, e, R, s, m, args, below, meth, c, rt, D, ad, cI, cZ, ly⟩ := E
  obtain ⟨hx, hb, hml, hown, hts, hK, hN, hj, hlk, hrt, hr1, hly, hR, hstr⟩ := X
  intro r hr H locs ls hP hS hl
  exact lv_ixor hx hb d  (kk r hr H locs ls hP hS hl)
theorem r_ishl (X : Cx E lay cc own nL ret lev) {x y : Int32} (d : decode cc pc = .ok (.ishl, 1)) (kk : G E f S (pc + 1) lv (.int (x <<< (y &&& 31)) :: st)) : G E f S pc lv (.int y :: .int x :: st) := by
  obtain ⟨p, l, e, R, s, m, args, below, meth, c, rt, D, ad, cI, cZ, ly⟩ := E
  obtain ⟨hx, hb, hml, hown, hts, hK, hN, hj, hlk, hrt, hr1, hly, hR, hstr⟩ := X
  intro r hr H locs ls hP hS hl
  exact lv_ishl hx hb d  (kk r hr H locs ls hP hS hl)
theorem r_ishr (X : Cx E lay cc own nL ret lev) {x y : Int32} (d : decode cc pc = .ok (.ishr, 1)) (kk : G E f S (pc + 1) lv (.int (x >>> (y &&& 31)) :: st)) : G E f S pc lv (.int y :: .int x :: st) := by
  obtain ⟨p, l, e, R, s, m, args, below, meth, c, rt, D, ad, cI, cZ, ly⟩ := E
  obtain ⟨hx, hb, hml, hown, hts, hK, hN, hj, hlk, hrt, hr1, hly, hR, hstr⟩ := X
  intro r hr H locs ls hP hS hl
  exact lv_ishr hx hb d  (kk r hr H locs ls hP hS hl)
theorem r_ineg (X : Cx E lay cc own nL ret lev) {x : Int32} (d : decode cc pc = .ok (.ineg, 1)) (kk : G E f S (pc + 1) lv (.int (-x) :: st)) : G E f S pc lv (.int x :: st) := by
  obtain ⟨p, l, e, R, s, m, args, below, meth, c, rt, D, ad, cI, cZ, ly⟩ := E
  obtain ⟨hx, hb, hml, hown, hts, hK, hN, hj, hlk, hrt, hr1, hly, hR, hstr⟩ := X
  intro r hr H locs ls hP hS hl
  exact lv_ineg hx hb d  (kk r hr H locs ls hP hS hl)
theorem r_iushr (X : Cx E lay cc own nL ret lev) {x y : Int32} (d : decode cc pc = .ok (.iushr, 1)) (kk : G E f S (pc + 1) lv (.int ((x.toUInt32 >>> (y.toUInt32 &&& Int32.toUInt32 31)).toInt32) :: st)) : G E f S pc lv (.int y :: .int x :: st) := by
  obtain ⟨p, l, e, R, s, m, args, below, meth, c, rt, D, ad, cI, cZ, ly⟩ := E
  obtain ⟨hx, hb, hml, hown, hts, hK, hN, hj, hlk, hrt, hr1, hly, hR, hstr⟩ := X
  intro r hr H locs ls hP hS hl
  exact lv_iushr hx hb d rfl (kk r hr H locs ls hP hS hl)
theorem r_i2l (X : Cx E lay cc own nL ret lev) {x : Int32} (d : decode cc pc = .ok (.i2l, 1)) (kk : G E f S (pc + 1) lv (.long (x.toInt64) :: st)) : G E f S pc lv (.int x :: st) := by
  obtain ⟨p, l, e, R, s, m, args, below, meth, c, rt, D, ad, cI, cZ, ly⟩ := E
  obtain ⟨hx, hb, hml, hown, hts, hK, hN, hj, hlk, hrt, hr1, hly, hR, hstr⟩ := X
  intro r hr H locs ls hP hS hl
  exact lv_i2l hx hb d rfl (kk r hr H locs ls hP hS hl)
theorem r_lshl (X : Cx E lay cc own nL ret lev) {x : Int64} {y : Int32} (d : decode cc pc = .ok (.lshl, 1)) (kk : G E f S (pc + 1) lv (.long (x <<< (y.toInt64 &&& 63)) :: st)) : G E f S pc lv (.int y :: .long x :: st) := by
  obtain ⟨p, l, e, R, s, m, args, below, meth, c, rt, D, ad, cI, cZ, ly⟩ := E
  obtain ⟨hx, hb, hml, hown, hts, hK, hN, hj, hlk, hrt, hr1, hly, hR, hstr⟩ := X
  intro r hr H locs ls hP hS hl
  exact lv_lshl hx hb d rfl (kk r hr H locs ls hP hS hl)
theorem r_lor (X : Cx E lay cc own nL ret lev) {x y : Int64} (d : decode cc pc = .ok (.lor, 1)) (kk : G E f S (pc + 1) lv (.long (x ||| y) :: st)) : G E f S pc lv (.long y :: .long x :: st) := by
  obtain ⟨p, l, e, R, s, m, args, below, meth, c, rt, D, ad, cI, cZ, ly⟩ := E
  obtain ⟨hx, hb, hml, hown, hts, hK, hN, hj, hlk, hrt, hr1, hly, hR, hstr⟩ := X
  intro r hr H locs ls hP hS hl
  exact lv_lor hx hb d  (kk r hr H locs ls hP hS hl)
theorem r_lcmp (X : Cx E lay cc own nL ret lev) {x y : Int64} (d : decode cc pc = .ok (.lcmp, 1)) (kk : G E f S (pc + 1) lv (.int (lg_cmp x y) :: st)) : G E f S pc lv (.long y :: .long x :: st) := by
  obtain ⟨p, l, e, R, s, m, args, below, meth, c, rt, D, ad, cI, cZ, ly⟩ := E
  obtain ⟨hx, hb, hml, hown, hts, hK, hN, hj, hlk, hrt, hr1, hly, hR, hstr⟩ := X
  intro r hr H locs ls hP hS hl
  exact W.lcmp hx hb d  (kk r hr H locs ls hP hS hl)
theorem r_dup (X : Cx E lay cc own nL ret lev) {va : Value} (hc : va.category = 1) (d : decode cc pc = .ok (.dup, 1)) (kk : G E f S (pc + 1) lv (va :: va :: st)) : G E f S pc lv (va :: st) := by
  obtain ⟨p, l, e, R, s, m, args, below, meth, c, rt, D, ad, cI, cZ, ly⟩ := E
  obtain ⟨hx, hb, hml, hown, hts, hK, hN, hj, hlk, hrt, hr1, hly, hR, hstr⟩ := X
  intro r hr H locs ls hP hS hl
  exact lv_dup hx hb d hc (kk r hr H locs ls hP hS hl)
theorem r_pop (X : Cx E lay cc own nL ret lev) {va : Value} (hc : va.category = 1) (d : decode cc pc = .ok (.pop, 1)) (kk : G E f S (pc + 1) lv (st)) : G E f S pc lv (va :: st) := by
  obtain ⟨p, l, e, R, s, m, args, below, meth, c, rt, D, ad, cI, cZ, ly⟩ := E
  obtain ⟨hx, hb, hml, hown, hts, hK, hN, hj, hlk, hrt, hr1, hly, hR, hstr⟩ := X
  intro r hr H locs ls hP hS hl
  exact lv_pop hx hb d hc (kk r hr H locs ls hP hS hl)
theorem r_dup2 (X : Cx E lay cc own nL ret lev) {va vb : Value} (hc : va.category = 1) (hc2 : vb.category = 1) (d : decode cc pc = .ok (.dup2, 1)) (kk : G E f S (pc + 1) lv (va :: vb :: va :: vb :: st)) : G E f S pc lv (va :: vb :: st) := by
  obtain ⟨p, l, e, R, s, m, args, below, meth, c, rt, D, ad, cI, cZ, ly⟩ := E
  obtain ⟨hx, hb, hml, hown, hts, hK, hN, hj, hlk, hrt, hr1, hly, hR, hstr⟩ := X
  intro r hr H locs ls hP hS hl
  exact lv_dup2_11 hx hb d hc hc2 (kk r hr H locs ls hP hS hl)
theorem r_idiv (X : Cx E lay cc own nL ret lev) {x y : Int32} (d : decode cc pc = .ok (.idiv, 1)) (kk : ¬ y = 0 → G E f S (pc + 1) lv (.int (x / y) :: st)) : G E (if y = 0 then none else f) S pc lv (.int y :: .int x :: st) := by
  refine r_ite (fun _ => r_none) (fun h0 => ?_)
  replace kk := kk h0
  obtain ⟨p, l, e, R, s, m, args, below, meth, c, rt, D, ad, cI, cZ, ly⟩ := E
  obtain ⟨hx, hb, hml, hown, hts, hK, hN, hj, hlk, hrt, hr1, hly, hR, hstr⟩ := X
  intro r hr H locs ls hP hS hl
  exact lv_idiv hx hb d h0 (kk r hr H locs ls hP hS hl)
theorem r_idivK (X : Cx E lay cc own nL ret lev) {x y : Int32} (d : decode cc pc = .ok (.idiv, 1)) (h0 : ¬ y = 0) (kk : G E f S (pc + 1) lv (.int (x / y) :: st)) : G E f S pc lv (.int y :: .int x :: st) := by
  obtain ⟨p, l, e, R, s, m, args, below, meth, c, rt, D, ad, cI, cZ, ly⟩ := E
  obtain ⟨hx, hb, hml, hown, hts, hK, hN, hj, hlk, hrt, hr1, hly, hR, hstr⟩ := X
  intro r hr H locs ls hP hS hl
  exact lv_idiv hx hb d h0 (kk r hr H locs ls hP hS hl)
theorem r_irem (X : Cx E lay cc own nL ret lev) {x y : Int32} (d : decode cc pc = .ok (.irem, 1)) (kk : ¬ y = 0 → G E f S (pc + 1) lv (.int (x - x / y * y) :: st)) : G E (if y = 0 then none else f) S pc lv (.int y :: .int x :: st) := by
  refine r_ite (fun _ => r_none) (fun h0 => ?_)
  replace kk := kk h0
  obtain ⟨p, l, e, R, s, m, args, below, meth, c, rt, D, ad, cI, cZ, ly⟩ := E
  obtain ⟨hx, hb, hml, hown, hts, hK, hN, hj, hlk, hrt, hr1, hly, hR, hstr⟩ := X
  intro r hr H locs ls hP hS hl
  exact lv_irem hx hb d h0 (kk r hr H locs ls hP hS hl)
theorem r_iremK (X : Cx E lay cc own nL ret lev) {x y : Int32} (d : decode cc pc = .ok (.irem, 1)) (h0 : ¬ y = 0) (kk : G E f S (pc + 1) lv (.int (x - x / y * y) :: st)) : G E f S pc lv (.int y :: .int x :: st) := by
  obtain ⟨p, l, e, R, s, m, args, below, meth, c, rt, D, ad, cI, cZ, ly⟩ := E
  obtain ⟨hx, hb, hml, hown, hts, hK, hN, hj, hlk, hrt, hr1, hly, hR, hstr⟩ := X
  intro r hr H locs ls hP hS hl
  exact lv_irem hx hb d h0 (kk r hr H locs ls hP hS hl)
theorem r_icmp_eq (X : Cx E lay cc own nL ret lev) {x y : Int32} {off : Int} {tgt : Nat} [Decidable (x = y)] (d : decode cc pc = .ok (.if_icmp .eq off, 3)) (ht : (pc : Int) + off = (tgt : Int)) (k1 : x = y → G E f1 S tgt lv st) (k2 : ¬ (x = y) → G E f2 S (pc + 3) lv st) : G E (if x = y then f1 else f2) S pc lv (.int y :: .int x :: st) := by
  refine r_ite (fun h0 => ?_) (fun h0 => ?_)
  · replace k1 := k1 h0
    obtain ⟨p, l, e, R, s, m, args, below, meth, c, rt, D, ad, cI, cZ, ly⟩ := E
    obtain ⟨hx, hb, hml, hown, hts, hK, hN, hj, hlk, hrt, hr1, hly, hR, hstr⟩ := X
    intro r hr H locs ls hP hS hl
    exact lv_icmp_eq hx hb d ht (fun _ => k1 r hr H locs ls hP hS hl) (fun h => absurd h0 h)
  · replace k2 := k2 h0
    obtain ⟨p, l, e, R, s, m, args, below, meth, c, rt, D, ad, cI, cZ, ly⟩ := E
    obtain ⟨hx, hb, hml, hown, hts, hK, hN, hj, hlk, hrt, hr1, hly, hR, hstr⟩ := X
    intro r hr H locs ls hP hS hl
    exact lv_icmp_eq hx hb d ht (fun h => absurd h h0) (fun _ => k2 r hr H locs ls hP hS hl)
theorem r_if_eq (X : Cx E lay cc own nL ret lev) {x : Int32} {off : Int} {tgt : Nat} [Decidable (x = 0)] (d : decode cc pc = .ok (.ifCond .eq off, 3)) (ht : (pc : Int) + off = (tgt : Int)) (k1 : x = 0 → G E f1 S tgt lv st) (k2 : ¬ (x = 0) → G E f2 S (pc + 3) lv st) : G E (if x = 0 then f1 else f2) S pc lv (.int x :: st) := by
  refine r_ite (fun h0 => ?_) (fun h0 => ?_)
  · replace k1 := k1 h0
    obtain ⟨p, l, e, R, s, m, args, below, meth, c, rt, D, ad, cI, cZ, ly⟩ := E
    obtain ⟨hx, hb, hml, hown, hts, hK, hN, hj, hlk, hrt, hr1, hly, hR, hstr⟩ := X
    intro r hr H locs ls hP hS hl
    exact lv_if_eq hx hb d ht (fun _ => k1 r hr H locs ls hP hS hl) (fun h => absurd h0 h)
  · replace k2 := k2 h0
    obtain ⟨p, l, e, R, s, m, args, below, meth, c, rt, D, ad, cI, cZ, ly⟩ := E
    obtain ⟨hx, hb, hml, hown, hts, hK, hN, hj, hlk, hrt, hr1, hly, hR, hstr⟩ := X
    intro r hr H locs ls hP hS hl
    exact lv_if_eq hx hb d ht (fun h => absurd h h0) (fun _ => k2 r hr H locs ls hP hS hl)
theorem r_if_eqT (X : Cx E lay cc own nL ret lev) {x : Int32} {off : Int} {tgt : Nat} (d : decode cc pc = .ok (.ifCond .eq off, 3)) (ht : (pc : Int) + off = (tgt : Int)) (h0 : x = 0) (k1 : G E f S tgt lv st) : G E f S pc lv (.int x :: st) := by
  obtain ⟨p, l, e, R, s, m, args, below, meth, c, rt, D, ad, cI, cZ, ly⟩ := E
  obtain ⟨hx, hb, hml, hown, hts, hK, hN, hj, hlk, hrt, hr1, hly, hR, hstr⟩ := X
  intro r hr H locs ls hP hS hl
  exact lv_if_eq hx hb d ht (fun _ => k1 r hr H locs ls hP hS hl) (fun h => absurd h0 h)
theorem r_if_eqF (X : Cx E lay cc own nL ret lev) {x : Int32} {off : Int} {tgt : Nat} (d : decode cc pc = .ok (.ifCond .eq off, 3)) (ht : (pc : Int) + off = (tgt : Int)) (h0 : ¬ (x = 0)) (k2 : G E f S (pc + 3) lv st) : G E f S pc lv (.int x :: st) := by
  obtain ⟨p, l, e, R, s, m, args, below, meth, c, rt, D, ad, cI, cZ, ly⟩ := E
  obtain ⟨hx, hb, hml, hown, hts, hK, hN, hj, hlk, hrt, hr1, hly, hR, hstr⟩ := X
  intro r hr H locs ls hP hS hl
  exact lv_if_eq hx hb d ht (fun h => absurd h h0) (fun _ => k2 r hr H locs ls hP hS hl)
theorem r_icmp_lt (X : Cx E lay cc own nL ret lev) {x y : Int32} {off : Int} {tgt : Nat} [Decidable (x < y)] (d : decode cc pc = .ok (.if_icmp .lt off, 3)) (ht : (pc : Int) + off = (tgt : Int)) (k1 : x < y → G E f1 S tgt lv st) (k2 : ¬ (x < y) → G E f2 S (pc + 3) lv st) : G E (if x < y then f1 else f2) S pc lv (.int y :: .int x :: st) := by
  refine r_ite (fun h0 => ?_) (fun h0 => ?_)
  · replace k1 := k1 h0
    obtain ⟨p, l, e, R, s, m, args, below, meth, c, rt, D, ad, cI, cZ, ly⟩ := E
    obtain ⟨hx, hb, hml, hown, hts, hK, hN, hj, hlk, hrt, hr1, hly, hR, hstr⟩ := X
    intro r hr H locs ls hP hS hl
    exact lv_icmp_lt hx hb d ht (fun _ => k1 r hr H locs ls hP hS hl) (fun h => absurd h0 h)
  · replace k2 := k2 h0
    obtain ⟨p, l, e, R, s, m, args, below, meth, c, rt, D, ad, cI, cZ, ly⟩ := E
    obtain ⟨hx, hb, hml, hown, hts, hK, hN, hj, hlk, hrt, hr1, hly, hR, hstr⟩ := X
    intro r hr H locs ls hP hS hl
    exact lv_icmp_lt hx hb d ht (fun h => absurd h h0) (fun _ => k2 r hr H locs ls hP hS hl)
theorem r_if_lt (X : Cx E lay cc own nL ret lev) {x : Int32} {off : Int} {tgt : Nat} [Decidable (x < 0)] (d : decode cc pc = .ok (.ifCond .lt off, 3)) (ht : (pc : Int) + off = (tgt : Int)) (k1 : x < 0 → G E f1 S tgt lv st) (k2 : ¬ (x < 0) → G E f2 S (pc + 3) lv st) : G E (if x < 0 then f1 else f2) S pc lv (.int x :: st) := by
  refine r_ite (fun h0 => ?_) (fun h0 => ?_)
  · replace k1 := k1 h0
    obtain ⟨p, l, e, R, s, m, args, below, meth, c, rt, D, ad, cI, cZ, ly⟩ := E
    obtain ⟨hx, hb, hml, hown, hts, hK, hN, hj, hlk, hrt, hr1, hly, hR, hstr⟩ := X
    intro r hr H locs ls hP hS hl
    exact lv_if_lt hx hb d ht (fun _ => k1 r hr H locs ls hP hS hl) (fun h => absurd h0 h)
  · replace k2 := k2 h0
    obtain ⟨p, l, e, R, s, m, args, below, meth, c, rt, D, ad, cI, cZ, ly⟩ := E
    obtain ⟨hx, hb, hml, hown, hts, hK, hN, hj, hlk, hrt, hr1, hly, hR, hstr⟩ := X
    intro r hr H locs ls hP hS hl
    exact lv_if_lt hx hb d ht (fun h => absurd h h0) (fun _ => k2 r hr H locs ls hP hS hl)
theorem r_if_ltT (X : Cx E lay cc own nL ret lev) {x : Int32} {off : Int} {tgt : Nat} (d : decode cc pc = .ok (.ifCond .lt off, 3)) (ht : (pc : Int) + off = (tgt : Int)) (h0 : x < 0) (k1 : G E f S tgt lv st) : G E f S pc lv (.int x :: st) := by
  obtain ⟨p, l, e, R, s, m, args, below, meth, c, rt, D, ad, cI, cZ, ly⟩ := E
  obtain ⟨hx, hb, hml, hown, hts, hK, hN, hj, hlk, hrt, hr1, hly, hR, hstr⟩ := X
  intro r hr H locs ls hP hS hl
  exact lv_if_lt hx hb d ht (fun _ => k1 r hr H locs ls hP hS hl) (fun h => absurd h0 h)
theorem r_if_ltF (X : Cx E lay cc own nL ret lev) {x : Int32} {off : Int} {tgt : Nat} (d : decode cc pc = .ok (.ifCond .lt off, 3)) (ht : (pc : Int) + off = (tgt : Int)) (h0 : ¬ (x < 0)) (k2 : G E f S (pc + 3) lv st) : G E f S pc lv (.int x :: st) := by
  obtain ⟨p, l, e, R, s, m, args, below, meth, c, rt, D, ad, cI, cZ, ly⟩ := E
  obtain ⟨hx, hb, hml, hown, hts, hK, hN, hj, hlk, hrt, hr1, hly, hR, hstr⟩ := X
  intro r hr H locs ls hP hS hl
  exact lv_if_lt hx hb d ht (fun h => absurd h h0) (fun _ => k2 r hr H locs ls hP hS hl)
theorem r_icmp_ge (X : Cx E lay cc own nL ret lev) {x y : Int32} {off : Int} {tgt : Nat} [Decidable (y ≤ x)] (d : decode cc pc = .ok (.if_icmp .ge off, 3)) (ht : (pc : Int) + off = (tgt : Int)) (k1 : y ≤ x → G E f1 S tgt lv st) (k2 : ¬ (y ≤ x) → G E f2 S (pc + 3) lv st) : G E (if y ≤ x then f1 else f2) S pc lv (.int y :: .int x :: st) := by
  refine r_ite (fun h0 => ?_) (fun h0 => ?_)
  · replace k1 := k1 h0
    obtain ⟨p, l, e, R, s, m, args, below, meth, c, rt, D, ad, cI, cZ, ly⟩ := E
    obtain ⟨hx, hb, hml, hown, hts, hK, hN, hj, hlk, hrt, hr1, hly, hR, hstr⟩ := X
    intro r hr H locs ls hP hS hl
    exact lv_icmp_ge hx hb d ht (fun _ => k1 r hr H locs ls hP hS hl) (fun h => absurd h0 h)
  · replace k2 := k2 h0
    obtain ⟨p, l, e, R, s, m, args, below, meth, c, rt, D, ad, cI, cZ, ly⟩ := E
    obtain ⟨hx, hb, hml, hown, hts, hK, hN, hj, hlk, hrt, hr1, hly, hR, hstr⟩ := X
    intro r hr H locs ls hP hS hl
    exact lv_icmp_ge hx hb d ht (fun h => absurd h h0) (fun _ => k2 r hr H locs ls hP hS hl)
theorem r_if_ge (X : Cx E lay cc own nL ret lev) {x : Int32} {off : Int} {tgt : Nat} [Decidable (0 ≤ x)] (d : decode cc pc = .ok (.ifCond .ge off, 3)) (ht : (pc : Int) + off = (tgt : Int)) (k1 : 0 ≤ x → G E f1 S tgt lv st) (k2 : ¬ (0 ≤ x) → G E f2 S (pc + 3) lv st) : G E (if 0 ≤ x then f1 else f2) S pc lv (.int x :: st) := by
  refine r_ite (fun h0 => ?_) (fun h0 => ?_)
  · replace k1 := k1 h0
    obtain ⟨p, l, e, R, s, m, args, below, meth, c, rt, D, ad, cI, cZ, ly⟩ := E
    obtain ⟨hx, hb, hml, hown, hts, hK, hN, hj, hlk, hrt, hr1, hly, hR, hstr⟩ := X
    intro r hr H locs ls hP hS hl
    exact lv_if_ge hx hb d ht (fun _ => k1 r hr H locs ls hP hS hl) (fun h => absurd h0 h)
  · replace k2 := k2 h0
    obtain ⟨p, l, e, R, s, m, args, below, meth, c, rt, D, ad, cI, cZ, ly⟩ := E
    obtain ⟨hx, hb, hml, hown, hts, hK, hN, hj, hlk, hrt, hr1, hly, hR, hstr⟩ := X
    intro r hr H locs ls hP hS hl
    exact lv_if_ge hx hb d ht (fun h => absurd h h0) (fun _ => k2 r hr H locs ls hP hS hl)
theorem r_if_geT (X : Cx E lay cc own nL ret lev) {x : Int32} {off : Int} {tgt : Nat} (d : decode cc pc = .ok (.ifCond .ge off, 3)) (ht : (pc : Int) + off = (tgt : Int)) (h0 : 0 ≤ x) (k1 : G E f S tgt lv st) : G E f S pc lv (.int x :: st) := by
  obtain ⟨p, l, e, R, s, m, args, below, meth, c, rt, D, ad, cI, cZ, ly⟩ := E
  obtain ⟨hx, hb, hml, hown, hts, hK, hN, hj, hlk, hrt, hr1, hly, hR, hstr⟩ := X
  intro r hr H locs ls hP hS hl
  exact lv_if_ge hx hb d ht (fun _ => k1 r hr H locs ls hP hS hl) (fun h => absurd h0 h)
theorem r_if_geF (X : Cx E lay cc own nL ret lev) {x : Int32} {off : Int} {tgt : Nat} (d : decode cc pc = .ok (.ifCond .ge off, 3)) (ht : (pc : Int) + off = (tgt : Int)) (h0 : ¬ (0 ≤ x)) (k2 : G E f S (pc + 3) lv st) : G E f S pc lv (.int x :: st) := by
  obtain ⟨p, l, e, R, s, m, args, below, meth, c, rt, D, ad, cI, cZ, ly⟩ := E
  obtain ⟨hx, hb, hml, hown, hts, hK, hN, hj, hlk, hrt, hr1, hly, hR, hstr⟩ := X
  intro r hr H locs ls hP hS hl
  exact lv_if_ge hx hb d ht (fun h => absurd h h0) (fun _ => k2 r hr H locs ls hP hS hl)
theorem r_icmp_gt (X : Cx E lay cc own nL ret lev) {x y : Int32} {off : Int} {tgt : Nat} [Decidable (y < x)] (d : decode cc pc = .ok (.if_icmp .gt off, 3)) (ht : (pc : Int) + off = (tgt : Int)) (k1 : y < x → G E f1 S tgt lv st) (k2 : ¬ (y < x) → G E f2 S (pc + 3) lv st) : G E (if y < x then f1 else f2) S pc lv (.int y :: .int x :: st) := by
  refine r_ite (fun h0 => ?_) (fun h0 => ?_)
  · replace k1 := k1 h0
    obtain ⟨p, l, e, R, s, m, args, below, meth, c, rt, D, ad, cI, cZ, ly⟩ := E
    obtain ⟨hx, hb, hml, hown, hts, hK, hN, hj, hlk, hrt, hr1, hly, hR, hstr⟩ := X
    intro r hr H locs ls hP hS hl
    exact lv_icmp_gt hx hb d ht (fun _ => k1 r hr H locs ls hP hS hl) (fun h => absurd h0 h)
  · replace k2 := k2 h0
    obtain ⟨p, l, e, R, s, m, args, below, meth, c, rt, D, ad, cI, cZ, ly⟩ := E
    obtain ⟨hx, hb, hml, hown, hts, hK, hN, hj, hlk, hrt, hr1, hly, hR, hstr⟩ := X
    intro r hr H locs ls hP hS hl
    exact lv_icmp_gt hx hb d ht (fun h => absurd h h0) (fun _ => k2 r hr H locs ls hP hS hl)
theorem r_if_gt (X : Cx E lay cc own nL ret lev) {x : Int32} {off : Int} {tgt : Nat} [Decidable (0 < x)] (d : decode cc pc = .ok (.ifCond .gt off, 3)) (ht : (pc : Int) + off = (tgt : Int)) (k1 : 0 < x → G E f1 S tgt lv st) (k2 : ¬ (0 < x) → G E f2 S (pc + 3) lv st) : G E (if 0 < x then f1 else f2) S pc lv (.int x :: st) := by
  refine r_ite (fun h0 => ?_) (fun h0 => ?_)
  · replace k1 := k1 h0
    obtain ⟨p, l, e, R, s, m, args, below, meth, c, rt, D, ad, cI, cZ, ly⟩ := E
    obtain ⟨hx, hb, hml, hown, hts, hK, hN, hj, hlk, hrt, hr1, hly, hR, hstr⟩ := X
    intro r hr H locs ls hP hS hl
    exact lv_if_gt hx hb d ht (fun _ => k1 r hr H locs ls hP hS hl) (fun h => absurd h0 h)
  · replace k2 := k2 h0
    obtain ⟨p, l, e, R, s, m, args, below, meth, c, rt, D, ad, cI, cZ, ly⟩ := E
    obtain ⟨hx, hb, hml, hown, hts, hK, hN, hj, hlk, hrt, hr1, hly, hR, hstr⟩ := X
    intro r hr H locs ls hP hS hl
    exact lv_if_gt hx hb d ht (fun h => absurd h h0) (fun _ => k2 r hr H locs ls hP hS hl)
theorem r_if_gtT (X : Cx E lay cc own nL ret lev) {x : Int32} {off : Int} {tgt : Nat} (d : decode cc pc = .ok (.ifCond .gt off, 3)) (ht : (pc : Int) + off = (tgt : Int)) (h0 : 0 < x) (k1 : G E f S tgt lv st) : G E f S pc lv (.int x :: st) := by
  obtain ⟨p, l, e, R, s, m, args, below, meth, c, rt, D, ad, cI, cZ, ly⟩ := E
  obtain ⟨hx, hb, hml, hown, hts, hK, hN, hj, hlk, hrt, hr1, hly, hR, hstr⟩ := X
  intro r hr H locs ls hP hS hl
  exact lv_if_gt hx hb d ht (fun _ => k1 r hr H locs ls hP hS hl) (fun h => absurd h0 h)
theorem r_if_gtF (X : Cx E lay cc own nL ret lev) {x : Int32} {off : Int} {tgt : Nat} (d : decode cc pc = .ok (.ifCond .gt off, 3)) (ht : (pc : Int) + off = (tgt : Int)) (h0 : ¬ (0 < x)) (k2 : G E f S (pc + 3) lv st) : G E f S pc lv (.int x :: st) := by
  obtain ⟨p, l, e, R, s, m, args, below, meth, c, rt, D, ad, cI, cZ, ly⟩ := E
  obtain ⟨hx, hb, hml, hown, hts, hK, hN, hj, hlk, hrt, hr1, hly, hR, hstr⟩ := X
  intro r hr H locs ls hP hS hl
  exact lv_if_gt hx hb d ht (fun h => absurd h h0) (fun _ => k2 r hr H locs ls hP hS hl)
theorem r_icmp_le (X : Cx E lay cc own nL ret lev) {x y : Int32} {off : Int} {tgt : Nat} [Decidable (x ≤ y)] (d : decode cc pc = .ok (.if_icmp .le off, 3)) (ht : (pc : Int) + off = (tgt : Int)) (k1 : x ≤ y → G E f1 S tgt lv st) (k2 : ¬ (x ≤ y) → G E f2 S (pc + 3) lv st) : G E (if x ≤ y then f1 else f2) S pc lv (.int y :: .int x :: st) := by
  refine r_ite (fun h0 => ?_) (fun h0 => ?_)
  · replace k1 := k1 h0
    obtain ⟨p, l, e, R, s, m, args, below, meth, c, rt, D, ad, cI, cZ, ly⟩ := E
    obtain ⟨hx, hb, hml, hown, hts, hK, hN, hj, hlk, hrt, hr1, hly, hR, hstr⟩ := X
    intro r hr H locs ls hP hS hl
    exact lv_icmp_le hx hb d ht (fun _ => k1 r hr H locs ls hP hS hl) (fun h => absurd h0 h)
  · replace k2 := k2 h0
    obtain ⟨p, l, e, R, s, m, args, below, meth, c, rt, D, ad, cI, cZ, ly⟩ := E
    obtain ⟨hx, hb, hml, hown, hts, hK, hN, hj, hlk, hrt, hr1, hly, hR, hstr⟩ := X
    intro r hr H locs ls hP hS hl
    exact lv_icmp_le hx hb d ht (fun h => absurd h h0) (fun _ => k2 r hr H locs ls hP hS hl)
theorem r_if_le (X : Cx E lay cc own nL ret lev) {x : Int32} {off : Int} {tgt : Nat} [Decidable (x ≤ 0)] (d : decode cc pc = .ok (.ifCond .le off, 3)) (ht : (pc : Int) + off = (tgt : Int)) (k1 : x ≤ 0 → G E f1 S tgt lv st) (k2 : ¬ (x ≤ 0) → G E f2 S (pc + 3) lv st) : G E (if x ≤ 0 then f1 else f2) S pc lv (.int x :: st) := by
  refine r_ite (fun h0 => ?_) (fun h0 => ?_)
  · replace k1 := k1 h0
    obtain ⟨p, l, e, R, s, m, args, below, meth, c, rt, D, ad, cI, cZ, ly⟩ := E
    obtain ⟨hx, hb, hml, hown, hts, hK, hN, hj, hlk, hrt, hr1, hly, hR, hstr⟩ := X
    intro r hr H locs ls hP hS hl
    exact lv_if_le hx hb d ht (fun _ => k1 r hr H locs ls hP hS hl) (fun h => absurd h0 h)
  · replace k2 := k2 h0
    obtain ⟨p, l, e, R, s, m, args, below, meth, c, rt, D, ad, cI, cZ, ly⟩ := E
    obtain ⟨hx, hb, hml, hown, hts, hK, hN, hj, hlk, hrt, hr1, hly, hR, hstr⟩ := X
    intro r hr H locs ls hP hS hl
    exact lv_if_le hx hb d ht (fun h => absurd h h0) (fun _ => k2 r hr H locs ls hP hS hl)
theorem r_if_leT (X : Cx E lay cc own nL ret lev) {x : Int32} {off : Int} {tgt : Nat} (d : decode cc pc = .ok (.ifCond .le off, 3)) (ht : (pc : Int) + off = (tgt : Int)) (h0 : x ≤ 0) (k1 : G E f S tgt lv st) : G E f S pc lv (.int x :: st) := by
  obtain ⟨p, l, e, R, s, m, args, below, meth, c, rt, D, ad, cI, cZ, ly⟩ := E
  obtain ⟨hx, hb, hml, hown, hts, hK, hN, hj, hlk, hrt, hr1, hly, hR, hstr⟩ := X
  intro r hr H locs ls hP hS hl
  exact lv_if_le hx hb d ht (fun _ => k1 r hr H locs ls hP hS hl) (fun h => absurd h0 h)
theorem r_if_leF (X : Cx E lay cc own nL ret lev) {x : Int32} {off : Int} {tgt : Nat} (d : decode cc pc = .ok (.ifCond .le off, 3)) (ht : (pc : Int) + off = (tgt : Int)) (h0 : ¬ (x ≤ 0)) (k2 : G E f S (pc + 3) lv st) : G E f S pc lv (.int x :: st) := by
  obtain ⟨p, l, e, R, s, m, args, below, meth, c, rt, D, ad, cI, cZ, ly⟩ := E
  obtain ⟨hx, hb, hml, hown, hts, hK, hN, hj, hlk, hrt, hr1, hly, hR, hstr⟩ := X
  intro r hr H locs ls hP hS hl
  exact lv_if_le hx hb d ht (fun h => absurd h h0) (fun _ => k2 r hr H locs ls hP hS hl)
theorem r_goto (X : Cx E lay cc own nL ret lev) {off : Int} {tgt : Nat} (d : decode cc pc = .ok (.goto off, 3)) (ht : (pc : Int) + off = (tgt : Int)) (kk : G E f S (tgt) lv (st)) : G E f S pc lv (st) := by
  obtain ⟨p, l, e, R, s, m, args, below, meth, c, rt, D, ad, cI, cZ, ly⟩ := E
  obtain ⟨hx, hb, hml, hown, hts, hK, hN, hj, hlk, hrt, hr1, hly, hR, hstr⟩ := X
  intro r hr H locs ls hP hS hl
  exact lv_goto hx hb d ht (kk r hr H locs ls hP hS hl)
theorem r_ldc (X : Cx E lay cc own nL ret lev) {i : Nat} {v : Int32} (hw : Cond.constant own i v ∈ TG) (d : decode cc pc = .ok (.ldc i, 2)) (kk : G E f S (pc + 2) lv (.int v :: st)) : G E f S pc lv (st) := by
  obtain ⟨p, l, e, R, s, m, args, below, meth, c, rt, D, ad, cI, cZ, ly⟩ := E
  obtain ⟨hx, hb, hml, hown, hts, hK, hN, hj, hlk, hrt, hr1, hly, hR, hstr⟩ := X
  intro r hr H locs ls hP hS hl
  exact lv_ldc hx hb hown (hts _ hw) d (kk r hr H locs ls hP hS hl)
theorem r_ldcw (X : Cx E lay cc own nL ret lev) {i : Nat} {v : Int32} (hw : Cond.constant own i v ∈ TG) (d : decode cc pc = .ok (.ldc_w i, 3)) (kk : G E f S (pc + 3) lv (.int v :: st)) : G E f S pc lv (st) := by
  obtain ⟨p, l, e, R, s, m, args, below, meth, c, rt, D, ad, cI, cZ, ly⟩ := E
  obtain ⟨hx, hb, hml, hown, hts, hK, hN, hj, hlk, hrt, hr1, hly, hR, hstr⟩ := X
  intro r hr H locs ls hP hS hl
  exact lv_ldcw hx hb hown (hts _ hw) d (kk r hr H locs ls hP hS hl)
theorem r_ldc2 (X : Cx E lay cc own nL ret lev) {i : Nat} {v : Int64} (hw : Cond.constantLong own i v ∈ TG) (d : decode cc pc = .ok (.ldc2_w i, 3)) (kk : G E f S (pc + 3) lv (.long v :: st)) : G E f S pc lv (st) := by
  obtain ⟨p, l, e, R, s, m, args, below, meth, c, rt, D, ad, cI, cZ, ly⟩ := E
  obtain ⟨hx, hb, hml, hown, hts, hK, hN, hj, hlk, hrt, hr1, hly, hR, hstr⟩ := X
  intro r hr H locs ls hP hS hl
  exact lv_ldc2 hx hb hown (hts _ hw) d (kk r hr H locs ls hP hS hl)
theorem r_tsIn (X : Cx E lay cc own nL ret lev) {x : Int32} {dflt lo hi off : Int} {offs : Array Int} {len tgt : Nat} (cv : Int32) (h : x = cv) (d : decode cc pc = .ok (.tableswitch dflt lo hi offs, len)) (h1 : ¬ cv.toInt < lo) (h2 : ¬ hi < cv.toInt) (ho : offs[(cv.toInt - lo).toNat]? = some off) (ht : (pc : Int) + off = (tgt : Int)) (kk : G E f S (tgt) lv (st)) : G E f S pc lv (.int x :: st) := by
  obtain ⟨p, l, e, R, s, m, args, below, meth, c, rt, D, ad, cI, cZ, ly⟩ := E
  obtain ⟨hx, hb, hml, hown, hts, hK, hN, hj, hlk, hrt, hr1, hly, hR, hstr⟩ := X
  intro r hr H locs ls hP hS hl
  exact lv_tableIn hx hb d (by rw [h]; exact h1) (by rw [h]; exact h2) (by rw [h]; exact ho) ht (kk r hr H locs ls hP hS hl)
theorem r_tsOut (X : Cx E lay cc own nL ret lev) {x : Int32} {dflt lo hi : Int} {offs : Array Int} {len tgt : Nat} (h : x.toInt < lo ∨ hi < x.toInt) (d : decode cc pc = .ok (.tableswitch dflt lo hi offs, len)) (ht : (pc : Int) + dflt = (tgt : Int)) (kk : G E f S (tgt) lv (st)) : G E f S pc lv (.int x :: st) := by
  obtain ⟨p, l, e, R, s, m, args, below, meth, c, rt, D, ad, cI, cZ, ly⟩ := E
  obtain ⟨hx, hb, hml, hown, hts, hK, hN, hj, hlk, hrt, hr1, hly, hR, hstr⟩ := X
  intro r hr H locs ls hP hS hl
  exact lv_tableOut hx hb d h ht (kk r hr H locs ls hP hS hl)
theorem r_lsw (X : Cx E lay cc own nL ret lev) {x : Int32} {dflt off : Int} {ps : Array (Int × Int)} {len tgt : Nat} (d : decode cc pc = .ok (.lookupswitch dflt ps, len)) (hp : (ps.toList.zip (ps.toList.drop 1)).all (fun (a, next) => a.1 < next.1) = true) (ho : Op.lookupswitch.offset ps.toList dflt x.toInt = off) (ht : (pc : Int) + off = (tgt : Int)) (kk : G E f S (tgt) lv (st)) : G E f S pc lv (.int x :: st) := by
  obtain ⟨p, l, e, R, s, m, args, below, meth, c, rt, D, ad, cI, cZ, ly⟩ := E
  obtain ⟨hx, hb, hml, hown, hts, hK, hN, hj, hlk, hrt, hr1, hly, hR, hstr⟩ := X
  intro r hr H locs ls hP hS hl
  exact lv_lookup hx hb d hp ho ht (kk r hr H locs ls hP hS hl)
theorem r_mmax (X : Cx E lay cc own nL ret lev) {i : Nat} {x y : Int32} (hw : Cond.methodLink own i Lib.Math.max.name ∈ TG) (hw2 : Cond.static Lib.Math.max.name ∈ TG) (hw3 : Cond.initialized "java/lang/Math" ∈ TG) (hw4 : Cond.code Lib.Math.max.name Lib.Math.max.code 2 (some .int) ∈ TG) (hlev : 1 ≤ lev) (hroom : (st.map fun v => v.category).sum ≤ 8) (d : decode cc pc = .ok (.invokestatic i, 3)) (kk : G E f S (pc + 3) lv (.int (jmax x y) :: st)) : G E f S pc lv (.int y :: .int x :: st) := by
  obtain ⟨p, l, e, R, s, m, args, below, meth, c, rt, D, ad, cI, cZ, ly⟩ := E
  obtain ⟨hx, hb, hml, hown, hts, hK, hN, hj, hlk, hrt, hr1, hly, hR, hstr⟩ := X
  intro r hr H locs ls hP hS hl
  subst hR
  exact va_mmax hx hb hl.1.symm hown (hts _ hw) (hts _ hw2) (hts _ hw3) (hts _ hw4) hlev (by show _ ≤ 40 * lev + 20; omega) (Nat.zero_le _) (Nat.zero_le _) d (kk r hr H locs ls hP hS hl)
theorem r_mmin (X : Cx E lay cc own nL ret lev) {i : Nat} {x y : Int32} (hw : Cond.methodLink own i Lib.Math.min.name ∈ TG) (hw2 : Cond.static Lib.Math.min.name ∈ TG) (hw3 : Cond.initialized "java/lang/Math" ∈ TG) (hw4 : Cond.code Lib.Math.min.name Lib.Math.min.code 2 (some .int) ∈ TG) (hlev : 1 ≤ lev) (hroom : (st.map fun v => v.category).sum ≤ 8) (d : decode cc pc = .ok (.invokestatic i, 3)) (kk : G E f S (pc + 3) lv (.int (jmin x y) :: st)) : G E f S pc lv (.int y :: .int x :: st) := by
  obtain ⟨p, l, e, R, s, m, args, below, meth, c, rt, D, ad, cI, cZ, ly⟩ := E
  obtain ⟨hx, hb, hml, hown, hts, hK, hN, hj, hlk, hrt, hr1, hly, hR, hstr⟩ := X
  intro r hr H locs ls hP hS hl
  subst hR
  exact va_mmin hx hb hl.1.symm hown (hts _ hw) (hts _ hw2) (hts _ hw3) (hts _ hw4) hlev (by show _ ≤ 40 * lev + 20; omega) (Nat.zero_le _) (Nat.zero_le _) d (kk r hr H locs ls hP hS hl)
theorem r_get (X : Cx E lay cc own nL ret lev) {i k ci j : Nat} {fl : List (Nat × Nat)} {q : Nat × Nat} (hF : fOK own i ci j) (hk : lay[k]? = some (.inl (ci, fl))) (hq : fl[j]? = some q) (d : decode cc pc = .ok (.getfield i, 3)) (kk : G E f S (pc + 3) lv (sF (eA E) S k j q :: st)) : G E f S pc lv (.ref (eA E k) :: st) := by
  obtain ⟨p, l, e, R, s, m, args, below, meth, c, rt, D, ad, cI, cZ, ly⟩ := E
  obtain ⟨hx, hb, hml, hown, hts, hK, hN, hj, hlk, hrt, hr1, hly, hR, hstr⟩ := X
  intro r hr H locs ls hP hS hl
  subst hly
  obtain ⟨C, T, N, ty0, ⟨hc, hin, -, -⟩, hj2, hL⟩ := hF
  have hv : (fl.mapIdx (sF ad S k))[j]? = some (sF ad S k j q) := by rw [List.getElem?_mapIdx, hq]; rfl
  rcases hL with hL | ⟨host, hL⟩
  · exact va_get hx hb hts hin hown hK hP k (sW_at hk) hc j hj2 (hts _ hL) (fun _ h => h) hv d (kk r hr H locs ls hP hS hl)
  · exact va_getN hx hb hts hin hown hK hP k (sW_at hk) hc j hj2 (va_Nw.use rfl (hN _ hL)) (fun _ h => h) hv d (kk r hr H locs ls hP hS hl)
theorem r_getI (X : Cx E lay cc own nL ret lev) {i k ci j : Nat} {fl : List (Nat × Nat)} {dd : Nat} (hF : fOK own i ci j) (hk : lay[k]? = some (.inl (ci, fl))) (hq : fl[j]? = some (1, dd)) (d : decode cc pc = .ok (.getfield i, 3)) (kk : G E f S (pc + 3) lv (.int (S.1 k j) :: st)) : G E f S pc lv (.ref (eA E k) :: st) := r_get X hF hk hq d kk
theorem r_getL (X : Cx E lay cc own nL ret lev) {i k ci j : Nat} {fl : List (Nat × Nat)} {dd : Nat} (hF : fOK own i ci j) (hk : lay[k]? = some (.inl (ci, fl))) (hq : fl[j]? = some (2, dd)) (d : decode cc pc = .ok (.getfield i, 3)) (kk : G E f S (pc + 3) lv (.long S.2 :: st)) : G E f S pc lv (.ref (eA E k) :: st) := r_get X hF hk hq d kk
theorem r_getR (X : Cx E lay cc own nL ret lev) {i k ci j : Nat} {fl : List (Nat × Nat)} {dd : Nat} (hF : fOK own i ci j) (hk : lay[k]? = some (.inl (ci, fl))) (hq : fl[j]? = some (0, dd)) (d : decode cc pc = .ok (.getfield i, 3)) (kk : G E f S (pc + 3) lv (.ref (eA E dd) :: st)) : G E f S pc lv (.ref (eA E k) :: st) := r_get X hF hk hq d kk
theorem r_putV (X : Cx E lay cc own nL ret lev) {i k ci j : Nat} {fl : List (Nat × Nat)} {v : Value} {S' : ST} {ty : FieldType} (hF : pOK own i ci j ty) (hk : lay[k]? = some (.inl (ci, fl))) (hl0 : j < fl.length) (hn : narrow ty v = v) (hfit : fits ty v = true) (hS' : ∀ cI cZ, (sW lay (eA E) cI cZ S).set k (eA E k, .inr (ci, (fl.mapIdx (sF (eA E) S k)).set j v)) = sW lay (eA E) cI cZ S') (d : decode cc pc = .ok (.putfield i, 3)) (kk : G E f S' (pc + 3) lv st) : G E f S pc lv (v :: .ref (eA E k) :: st) := by
  obtain ⟨p, l, e, R, s, m, args, below, meth, c, rt, D, ad, cI, cZ, ly⟩ := E
  obtain ⟨hx, hb, hml, hown, hts, hK, hN, hj, hlk, hrt, hr1, hly, hR, hstr⟩ := X
  intro r hr H locs ls hP hS hl
  subst hly
  obtain ⟨C, T, N, ty0, ⟨hc, hin, hty, hnm⟩, hj2, hL, hfin, hd⟩ := hF
  have hll : j < (fl.mapIdx (sF ad S k)).length := by simpa using hl0
  have fin : ∀ (H1 : Heap) (locs1 : List Loc), va_P D vwCl ((sW ly ad cI cZ S).set k (ad k, .inr (ci, (fl.mapIdx (sF ad S k)).set j v))) H1 → va_S (aW ly ad) s.heap H1 locs1 → W p l e R s m args below meth c H1 locs1 0 0 (MQ below (qqS ly ad cI cZ D rt r) args s 0 0 (aW ly ad)) (F0 m (pc + 3) ls st) := fun H1 locs1 h1 h3 => kk r hr H1 locs1 ls ((hS' cI cZ) ▸ h1) h3 hl
  rcases hL with hL | ⟨host, hL⟩
  · exact va_put hx hb hts hin ty0 hty hnm hown hK hP (sW_D hj S) hS k (sW_at hk) hc j hj2 (hts _ hL) (fun _ h => h) hfin hd hn hfit hll d (fun H1 locs1 h1 _ h3 => fin H1 locs1 h1 h3)
  · exact va_putN hx hb hts hin ty0 hty hnm hown hK hP (sW_D hj S) hS k (sW_at hk) hc j hj2 (va_Nw.use rfl (hN _ hL)) (fun _ h => h) hfin hd hn hfit hll d (fun H1 locs1 h1 _ h3 => fin H1 locs1 h1 h3)
theorem r_putI (X : Cx E lay cc own nL ret lev) {i k ci j dd : Nat} {fl : List (Nat × Nat)} {v : Int32} (hF : pOK own i ci j .int) (hk : lay[k]? = some (.inl (ci, fl))) (hq : fl[j]? = some (1, dd)) (d : decode cc pc = .ok (.putfield i, 3)) (kk : G E f (us S k j v) (pc + 3) lv st) : G E f S pc lv (.int v :: .ref (eA E k) :: st) := r_putV X hF hk (List.getElem?_eq_some_iff.mp hq).1 rfl rfl (fun _ _ => sW_putI hk hq) d kk
theorem r_putZ (X : Cx E lay cc own nL ret lev) {i k ci j dd : Nat} {fl : List (Nat × Nat)} {v : Int32} (hF : pOK own i ci j .boolean) (hk : lay[k]? = some (.inl (ci, fl))) (hq : fl[j]? = some (1, dd)) (hv : v &&& 1 = v) (d : decode cc pc = .ok (.putfield i, 3)) (kk : G E f (us S k j v) (pc + 3) lv st) : G E f S pc lv (.int v :: .ref (eA E k) :: st) := r_putV X hF hk (List.getElem?_eq_some_iff.mp hq).1 (by show Value.int (v &&& 1) = _; rw [hv]) (fits_z hv) (fun _ _ => sW_putI hk hq) d kk
theorem r_iald (X : Cx E lay cc own nL ret lev) {k n : Nat} {i : Int32} (hk : lay[k]? = some (.inr (false, n))) (d : decode cc pc = .ok (.iaload, 1)) (kk : vin i n = true → G E f S (pc + 1) lv (.int (S.1 k (ix i)) :: st)) : G E (if vin i n = true then f else none) S pc lv (.int i :: .ref (eA E k) :: st) := by
  refine r_chk (fun h0 => ?_)
  replace kk := kk h0
  obtain ⟨p, l, e, R, s, m, args, below, meth, c, rt, D, ad, cI, cZ, ly⟩ := E
  obtain ⟨hx, hb, hml, hown, hts, hK, hN, hj, hlk, hrt, hr1, hly, hR, hstr⟩ := X
  intro r hr H locs ls hP hS hl
  subst hly
  exact va_iald hx hb hK hP k 0 (sW_at hk) rfl (vin_in h0) d (kk r hr H locs ls hP hS hl)
theorem r_zald (X : Cx E lay cc own nL ret lev) {k n : Nat} {i : Int32} (hk : lay[k]? = some (.inr (true, n))) (d : decode cc pc = .ok (.baload, 1)) (kk : vin i n = true → G E f S (pc + 1) lv (.int (S.1 k (ix i)) :: st)) : G E (if vin i n = true then f else none) S pc lv (.int i :: .ref (eA E k) :: st) := by
  refine r_chk (fun h0 => ?_)
  replace kk := kk h0
  obtain ⟨p, l, e, R, s, m, args, below, meth, c, rt, D, ad, cI, cZ, ly⟩ := E
  obtain ⟨hx, hb, hml, hown, hts, hK, hN, hj, hlk, hrt, hr1, hly, hR, hstr⟩ := X
  intro r hr H locs ls hP hS hl
  subst hly
  exact va_zald hx hb hK hP k 1 (sW_at hk) rfl (vin_in h0) d (kk r hr H locs ls hP hS hl)
theorem r_iast (X : Cx E lay cc own nL ret lev) {k n : Nat} {i x : Int32} (hk : lay[k]? = some (.inr (false, n))) (d : decode cc pc = .ok (.iastore, 1)) (kk : vin i n = true → G E f (us S k (ix i) x) (pc + 1) lv st) : G E (if vin i n = true then f else none) S pc lv (.int x :: .int i :: .ref (eA E k) :: st) := by
  refine r_chk (fun h0 => ?_)
  replace kk := kk h0
  obtain ⟨p, l, e, R, s, m, args, below, meth, c, rt, D, ad, cI, cZ, ly⟩ := E
  obtain ⟨hx, hb, hml, hown, hts, hK, hN, hj, hlk, hrt, hr1, hly, hR, hstr⟩ := X
  intro r hr H locs ls hP hS hl
  subst hly
  exact va_iast hx hb hK hP (sW_D hj S) hS k 0 (sW_at hk) rfl (vin_in h0) d (fun H1 locs1 h1 _ h3 => kk r hr H1 locs1 ls ((sW_putA (cI := cI) (cZ := cZ) (ad := ad) (S := S) (i := ix i) (v := x) hk) ▸ h1) h3 hl)
theorem r_zast (X : Cx E lay cc own nL ret lev) {k n : Nat} {i x : Int32} (hk : lay[k]? = some (.inr (true, n))) (d : decode cc pc = .ok (.bastore, 1)) (kk : vin i n = true → G E f (us S k (ix i) (x &&& 1)) (pc + 1) lv st) : G E (if vin i n = true then f else none) S pc lv (.int x :: .int i :: .ref (eA E k) :: st) := by
  refine r_chk (fun h0 => ?_)
  replace kk := kk h0
  obtain ⟨p, l, e, R, s, m, args, below, meth, c, rt, D, ad, cI, cZ, ly⟩ := E
  obtain ⟨hx, hb, hml, hown, hts, hK, hN, hj, hlk, hrt, hr1, hly, hR, hstr⟩ := X
  intro r hr H locs ls hP hS hl
  subst hly
  exact va_zast hx hb hK hP (sW_D hj S) hS k 1 (sW_at hk) rfl (vin_in h0) d (fun H1 locs1 h1 _ h3 => kk r hr H1 locs1 ls ((sW_putA (cI := cI) (cZ := cZ) (ad := ad) (S := S) (i := ix i) (v := x &&& 1) hk) ▸ h1) h3 hl)
theorem r_alen (X : Cx E lay cc own nL ret lev) {k n : Nat} {v : Int32} (hk : lay[k]? = some (.inr (false, n))) (hv : Int32.ofNat n = v) (d : decode cc pc = .ok (.arraylength, 1)) (kk : G E f S (pc + 1) lv (.int v :: st)) : G E f S pc lv (.ref (eA E k) :: st) := by
  obtain ⟨p, l, e, R, s, m, args, below, meth, c, rt, D, ad, cI, cZ, ly⟩ := E
  obtain ⟨hx, hb, hml, hown, hts, hK, hN, hj, hlk, hrt, hr1, hly, hR, hstr⟩ := X
  intro r hr H locs ls hP hS hl
  subst hly
  exact va_alen hx hb hK hP k 0 (sW_at hk) rfl hv d (kk r hr H locs ls hP hS hl)
theorem r_iret (X : Cx E lay cc own nL (some .int) lev) {v : Int32} (d : decode cc pc = .ok (.ireturn, 1)) : G E (some (v, S)) S pc lv [.int v] := by
  obtain ⟨p, l, e, R, s, m, args, below, meth, c, rt, D, ad, cI, cZ, ly⟩ := E
  obtain ⟨hx, hb, hml, hown, hts, hK, hN, hj, hlk, hrt, hr1, hly, hR, hstr⟩ := X
  intro r hr H locs ls hP hS hl
  cases hr
  subst hr1
  exact W.iret hx hb hrt (fun t ht hW => ⟨⟨v, (), rfl, rfl, by show va_P _ _ _ t.heap; rw [ht]; exact hP⟩, hS.F ht⟩) hS.2.2 d
theorem r_zret (X : Cx E lay cc own nL (some .boolean) lev) {v : Int32} (hv : v &&& 1 = v) (d : decode cc pc = .ok (.ireturn, 1)) : G E (some (v, S)) S pc lv [.int v] := by
  obtain ⟨p, l, e, R, s, m, args, below, meth, c, rt, D, ad, cI, cZ, ly⟩ := E
  obtain ⟨hx, hb, hml, hown, hts, hK, hN, hj, hlk, hrt, hr1, hly, hR, hstr⟩ := X
  intro r hr H locs ls hP hS hl
  cases hr
  subst hr1
  exact W.zret hx hb hrt (by show Value.int (v &&& 1) = _; rw [hv]) (fun t ht hW => ⟨⟨v, (), rfl, rfl, by show va_P _ _ _ t.heap; rw [ht]; exact hP⟩, hS.F ht⟩) hS.2.2 d
theorem r_zretC (X : Cx E lay cc own nL (some .boolean) lev) {v : Int32} (d : decode cc pc = .ok (.ireturn, 1)) : G E (if v &&& 1 = v then some (v, S) else none) S pc lv [.int v] := r_ite (fun h => r_zret X h d) (fun _ => r_none)
theorem r_vret (X : Cx E lay cc own nL none lev) (d : decode cc pc = .ok (.return_, 1)) : G E (some (0, S)) S pc lv [] := by
  obtain ⟨p, l, e, R, s, m, args, below, meth, c, rt, D, ad, cI, cZ, ly⟩ := E
  obtain ⟨hx, hb, hml, hown, hts, hK, hN, hj, hlk, hrt, hr1, hly, hR, hstr⟩ := X
  intro r hr H locs ls hP hS hl
  cases hr
  subst hr1
  exact W.vret hx hb hrt (fun t ht hW => ⟨⟨(), rfl, trivial, by show va_P _ _ _ t.heap; rw [ht]; exact hP⟩, hS.F ht⟩) hS.2.2 d
theorem r_icmp_ne (X : Cx E lay cc own nL ret lev) {x y : Int32} {off : Int} {tgt : Nat} [Decidable (x = y)] (d : decode cc pc = .ok (.if_icmp .ne off, 3)) (ht : (pc : Int) + off = (tgt : Int)) (k1 : ¬ x = y → G E f1 S tgt lv st) (k2 : x = y → G E f2 S (pc + 3) lv st) : G E (if x = y then f2 else f1) S pc lv (.int y :: .int x :: st) := by
  refine r_ite (fun h0 => ?_) (fun h0 => ?_)
  · replace k2 := k2 h0
    obtain ⟨p, l, e, R, s, m, args, below, meth, c, rt, D, ad, cI, cZ, ly⟩ := E
    obtain ⟨hx, hb, hml, hown, hts, hK, hN, hj, hlk, hrt, hr1, hly, hR, hstr⟩ := X
    intro r hr H locs ls hP hS hl
    exact lv_icmp_ne hx hb d ht (fun h => absurd h0 h) (fun _ => k2 r hr H locs ls hP hS hl)
  · replace k1 := k1 h0
    obtain ⟨p, l, e, R, s, m, args, below, meth, c, rt, D, ad, cI, cZ, ly⟩ := E
    obtain ⟨hx, hb, hml, hown, hts, hK, hN, hj, hlk, hrt, hr1, hly, hR, hstr⟩ := X
    intro r hr H locs ls hP hS hl
    exact lv_icmp_ne hx hb d ht (fun _ => k1 r hr H locs ls hP hS hl) (fun h => absurd h h0)
theorem r_if_ne (X : Cx E lay cc own nL ret lev) {x : Int32} {off : Int} {tgt : Nat} [Decidable (x = 0)] (d : decode cc pc = .ok (.ifCond .ne off, 3)) (ht : (pc : Int) + off = (tgt : Int)) (k1 : ¬ x = 0 → G E f1 S tgt lv st) (k2 : x = 0 → G E f2 S (pc + 3) lv st) : G E (if x = 0 then f2 else f1) S pc lv (.int x :: st) := by
  refine r_ite (fun h0 => ?_) (fun h0 => ?_)
  · replace k2 := k2 h0
    obtain ⟨p, l, e, R, s, m, args, below, meth, c, rt, D, ad, cI, cZ, ly⟩ := E
    obtain ⟨hx, hb, hml, hown, hts, hK, hN, hj, hlk, hrt, hr1, hly, hR, hstr⟩ := X
    intro r hr H locs ls hP hS hl
    exact lv_if_ne hx hb d ht (fun h => absurd h0 h) (fun _ => k2 r hr H locs ls hP hS hl)
  · replace k1 := k1 h0
    obtain ⟨p, l, e, R, s, m, args, below, meth, c, rt, D, ad, cI, cZ, ly⟩ := E
    obtain ⟨hx, hb, hml, hown, hts, hK, hN, hj, hlk, hrt, hr1, hly, hR, hstr⟩ := X
    intro r hr H locs ls hP hS hl
    exact lv_if_ne hx hb d ht (fun _ => k1 r hr H locs ls hP hS hl) (fun h => absurd h h0)
theorem r_if_neT (X : Cx E lay cc own nL ret lev) {x : Int32} {off : Int} {tgt : Nat} (d : decode cc pc = .ok (.ifCond .ne off, 3)) (ht : (pc : Int) + off = (tgt : Int)) (h0 : ¬ x = 0) (k1 : G E f S tgt lv st) : G E f S pc lv (.int x :: st) := by
  obtain ⟨p, l, e, R, s, m, args, below, meth, c, rt, D, ad, cI, cZ, ly⟩ := E
  obtain ⟨hx, hb, hml, hown, hts, hK, hN, hj, hlk, hrt, hr1, hly, hR, hstr⟩ := X
  intro r hr H locs ls hP hS hl
  exact lv_if_ne hx hb d ht (fun _ => k1 r hr H locs ls hP hS hl) (fun h => absurd h h0)
theorem r_if_neF (X : Cx E lay cc own nL ret lev) {x : Int32} {off : Int} {tgt : Nat} (d : decode cc pc = .ok (.ifCond .ne off, 3)) (ht : (pc : Int) + off = (tgt : Int)) (h0 : x = 0) (k2 : G E f S (pc + 3) lv st) : G E f S pc lv (.int x :: st) := by
  obtain ⟨p, l, e, R, s, m, args, below, meth, c, rt, D, ad, cI, cZ, ly⟩ := E
  obtain ⟨hx, hb, hml, hown, hts, hK, hN, hj, hlk, hrt, hr1, hly, hR, hstr⟩ := X
  intro r hr H locs ls hP hS hl
  exact lv_if_ne hx hb d ht (fun h => absurd h0 h) (fun _ => k2 r hr H locs ls hP hS hl)
def MetS (y : MethodName) (bytes : ByteArray) (maxL : Nat) (ret : Option FieldType) (lev : Nat) (lay : List LE) (f : Option (Int32 × ST)) (S : ST) (As : (Nat → Nat) → List Value) : Prop := ∀ (l : Launch) (D : va_G) (ad : Nat → Nat) (cI cZ : ClassId), injW lay ad → ∀ r, f = some r → Met l y (.code y bytes maxL ret :: TG) (rmL lev) (pcS lay ad cI cZ D S (As ad)) (qqS lay ad cI cZ D ret r) 0 0 (aW lay ad)
theorem mk_met {y : MethodName} {bytes : ByteArray} {maxL : Nat} {As : (Nat → Nat) → List Value} (lv0 : (Nat → Nat) → List (Nat × Value)) (hp : plainName y.cls = true) (hlen : ∀ ad, (lg_sl (As ad)).length ≤ maxL) (hlv : ∀ ad, lv_args 0 (As ad) = lv0 ad) (hG : ∀ E, Cx E lay bytes y.cls maxL ret lev → G E f S 0 (lv0 (eA E)) []) : MetS y bytes maxL ret lev lay f S As := by
  intro l D ad cI cZ hj r hr
  refine Met.ofW (cc := bytes) (maxL := maxL) (ret := ret) hp rfl ?_
  intro p e s m args below meth c s₁ B hml hv
  obtain ⟨rfl, hP, hK, hN, hstr⟩ := hv
  have hts := atoms_spec (ws := Cond.code y bytes maxL ret :: TG) B.pre
  have X : Cx (p, l, e, (headSpec (Cond.code y bytes maxL ret :: TG) (rmL lev)).room, s, m, (As ad).toArray, below, meth, c, ret, D, ad, cI, cZ, lay) lay bytes y.cls maxL ret lev := ⟨B.exec, B.bytes, hml, findClass_of_methodNamed B.named, fun w hw => hts w (List.mem_cons_of_mem _ hw), hK, hN, hj, B.notSynchronized, B.returns, rfl, rfl, rfl, hstr⟩
  have hl := lv_entry (As ad) (n := maxL) (hlen ad)
  rw [hlv ad] at hl
  rw [lg_entry_eq]
  exact hG _ X r hr s.heap [] _ hP va_S.rf (by rw [hml]; exact hl)
def mkV (y : MethodName) (C : String) (bytes : ByteArray) (maxL : Nat) (ret : Option FieldType) (n : Nat) : Prop := Cond.instanceMethod y ∈ TG ∧ Cond.selects C y y ∈ TG ∧ Cond.initialized C ∈ TG ∧ Cond.code y bytes maxL ret ∈ TG ∧ (y.cls = C ∧ y.cls ≠ "java/lang/invoke/MethodHandle" ∧ y.cls ≠ "java/lang/invoke/VarHandle" ∧ (parseMethodDescriptor y.desc).map (fun d => d.parameters.length) = some n)
def mkS (y : MethodName) (bytes : ByteArray) (maxL : Nat) (ret : Option FieldType) (n : Nat) : Prop := Cond.static y ∈ TG ∧ Cond.initialized y.cls ∈ TG ∧ Cond.code y bytes maxL ret ∈ TG ∧ (y.cls ≠ "java/lang/invoke/MethodHandle" ∧ y.cls ≠ "java/lang/invoke/VarHandle" ∧ (parseMethodDescriptor y.desc).map (fun d => d.parameters.length) = some n)
def lkM (own : String) (i : Nat) (y : MethodName) : Prop := Cond.methodLink own i y ∈ TG ∨ ∃ host, Cond.methodLinkNest own i y host ∈ NW
theorem gi_code {y : MethodName} {bytes : ByteArray} {maxL : Nat} {rt : Option FieldType} (h : Cond.code y bytes maxL rt ∈ TG) : GoodIn TG (Cond.code y bytes maxL rt :: TG) := fun w hw => by
  rcases List.mem_cons.mp hw with h1 | h1
  · rw [h1]; exact ⟨h, tg_good h⟩
  · exact ⟨h1, tg_good h1⟩
theorem gi_app {a b : List Cond} (ha : ∀ w ∈ a, w ∈ TG) (hb : GoodIn TG b) : GoodIn TG (a ++ b) := fun w hw => (List.mem_append.mp hw).elim (fun h => ⟨ha w h, tg_good (ha w h)⟩) (hb w)
theorem gi_V {i : Nat} {y : MethodName} {C : String} {bytes : ByteArray} {maxL n : Nat} {rt : Option FieldType} (hm : mkV y C bytes maxL rt n) (hl : Cond.methodLink own i y ∈ TG) : GoodIn TG (wsV own i C y (Cond.code y bytes maxL rt :: TG)) := by
  refine gi_app (fun w hw => ?_) (gi_code hm.2.2.2.1)
  simp only [List.mem_cons, List.not_mem_nil, or_false] at hw
  rcases hw with rfl | rfl | rfl | rfl
  · exact hl
  · exact hm.1
  · exact hm.2.1
  · exact hm.2.2.1
theorem gi_S {i : Nat} {y : MethodName} {bytes : ByteArray} {maxL n : Nat} {rt : Option FieldType} (hm : mkS y bytes maxL rt n) (hl : Cond.methodLink own i y ∈ TG) : GoodIn TG (va_wsS own i y (Cond.code y bytes maxL rt :: TG)) := by
  refine gi_app (fun w hw => ?_) (gi_code hm.2.2.1)
  simp only [List.mem_cons, List.not_mem_nil, or_false] at hw
  rcases hw with rfl | rfl | rfl
  · exact hl
  · exact hm.1
  · exact hm.2.1
theorem pcS_blind {ad : Nat → Nat} {cI cZ : ClassId} {D : va_G} {As : List Value} : FrameBlind (pcS lay ad cI cZ D S As) := fun a U g mk h => by
  obtain ⟨h1, h2, h3, h4, h5⟩ := h
  exact ⟨h1, h2, va_K.moved (u := U) (U := U.calling g mk a) (Vm.Alike.refl U.vm) h3, fun w hw => va_Nw.same (u := U) (U := U.calling g mk a) (nw_tab hw) rfl (h4 w hw), sOK.same (u := U) (U := U.calling g mk a) rfl h5⟩
theorem pcS_at {ad : Nat → Nat} {cI cZ : ClassId} {D : va_G} {As : List Value} {s U : State} {H : Heap} (hP : va_P D vwCl (sW lay ad cI cZ S) H) (hK : va_K D vwCl [(cI, .int), (cZ, .boolean)] s) (hN : ∀ w ∈ NW, va_Nw w s) {locs : List Loc} (hstr : sOK lay ad s s.heap) (hS : va_S (aW lay ad) s.heap H locs) (hU : U.heap = H) (hW : s.WarmedH U.vm) : pcS lay ad cI cZ D S As As.toArray U := ⟨rfl, by rw [hU]; exact hP, va_K.moved hW.alike hK, fun w hw => nw_warm hw hW (hN w hw), by rw [hU]; exact (hstr.warm hW).kept hS⟩
theorem r_callV (X : Cx E lay cc own nL ret lev) {i k ci n maxL lev' N : Nat} {fl : List (Nat × Nat)} {y : MethodName} {C : String} {bytes : ByteArray} {T : u_T} {rt : FieldType} {As : (Nat → Nat) → List Value} {o : Option (Int32 × ST)} {kf : Int32 × ST → Option (Int32 × ST)} {st0 : List Value} (hM : MetS y bytes maxL (some rt) lev' lay o S (fun ad => .ref (ad k) :: As ad)) (hm : mkV y C bytes maxL (some rt) n) (hl0 : lkM own i y) (hk : lay[k]? = some (.inl (ci, fl))) (hc : vwCl[ci]? = some (C, T, N)) (hn : (As (eA E)).length = n) (hlev : lev' + 1 ≤ lev) (hmx : maxL ≤ 21) (hroom : (st.map fun v => v.category).sum ≤ 8) (hst : st0 = (As (eA E)).reverse ++ .ref (eA E k) :: st) (d : decode cc pc = .ok (.invokevirtual i, 3)) (kk : ∀ q : Int32 × ST, G E (kf q) q.2 (pc + 3) lv (.int q.1 :: st)) : G E (o.bind kf) S pc lv st0 := by
  obtain ⟨p, l, e, R, s, m, args, below, meth, c, rt, D, ad, cI, cZ, ly⟩ := E
  obtain ⟨hx, hb, hml, hown, hts, hK, hN, hj, hlk, hrt, hr1, hly, hR, hstr⟩ := X
  intro r hr H locs ls hP hS hl
  obtain ⟨q, ho, hq⟩ := Option.bind_eq_some_iff.mp hr
  subst hly
  subst hR
  have hMe := hM l D ad cI cZ hj q ho
  have hR2 : (rmL lev').frames + 1 ≤ (rmL lev).frames ∧ 8 + (maxL + 11) + (rmL lev').locals ≤ (rmL lev).locals := ⟨hlev, by show 8 + (maxL + 11) + (40 * lev' + 20) ≤ 40 * lev + 20; omega⟩
  have hsz : (F0 m pc ls st0).locals.size = nL := hl.1.trans hml
  have hpre : PreV s H C (ad k) (pcS ly ad cI cZ D S (.ref (ad k) :: As ad)) (As ad) := ⟨pcS_blind, va_recv hK hP hc (sW_at hk), fun U hU hW => pcS_at hP hK hN hstr hS hU hW⟩
  rcases hl0 with hL | ⟨host, hL⟩
  · exact va_calli (va_runV (As := As ad) (rest := st) ⟨hx, hb, hml, hown, hts⟩ hMe (cwV n hts (gi_V hm hL) rfl rfl rfl hm.2.2.2.2 hR2) hpre rfl hn hsz hst (lv_room hroom) d ⟨Nat.le_refl _, Nat.le_refl _⟩) hS (fun q _ h => h) (fun q h => h) (fun v u t H1 locs1 ht hvm hp1 hB hz hk1 hS1 => by rw [hp1]; exact kk q r hq H1 locs1 ls (by rw [← ht]; exact hB) hS1 hl)
  · exact va_calli (va_runVN (As := As ad) (rest := st) ⟨hx, hb, hml, hown, hts⟩ hMe ⟨va_cnB n hts (gi_code hm.2.2.2.1) rfl rfl rfl (hN _ hL) (hm.2.2.2.2.1 ▸ hts _ hm.2.2.1) hm.2.2.2.2.2 hR2, hts _ hm.1, hts _ hm.2.1⟩ hpre rfl hn hsz hst (lv_room hroom) d ⟨Nat.le_refl _, Nat.le_refl _⟩) hS (fun q _ h => h) (fun q h => h) (fun v u t H1 locs1 ht hvm hp1 hB hz hk1 hS1 => by rw [hp1]; exact kk q r hq H1 locs1 ls (by rw [← ht]; exact hB) hS1 hl)
theorem r_callVv (X : Cx E lay cc own nL ret lev) {i k ci n maxL lev' N : Nat} {fl : List (Nat × Nat)} {y : MethodName} {C : String} {bytes : ByteArray} {T : u_T} {As : (Nat → Nat) → List Value} {o : Option (Int32 × ST)} {kf : Int32 × ST → Option (Int32 × ST)} {st0 : List Value} (hM : MetS y bytes maxL none lev' lay o S (fun ad => .ref (ad k) :: As ad)) (hm : mkV y C bytes maxL none n) (hl0 : lkM own i y) (hk : lay[k]? = some (.inl (ci, fl))) (hc : vwCl[ci]? = some (C, T, N)) (hn : (As (eA E)).length = n) (hlev : lev' + 1 ≤ lev) (hmx : maxL ≤ 21) (hroom : (st.map fun v => v.category).sum ≤ 8) (hst : st0 = (As (eA E)).reverse ++ .ref (eA E k) :: st) (d : decode cc pc = .ok (.invokevirtual i, 3)) (kk : ∀ q : Int32 × ST, G E (kf q) q.2 (pc + 3) lv (st)) : G E (o.bind kf) S pc lv st0 := by
  obtain ⟨p, l, e, R, s, m, args, below, meth, c, rt, D, ad, cI, cZ, ly⟩ := E
  obtain ⟨hx, hb, hml, hown, hts, hK, hN, hj, hlk, hrt, hr1, hly, hR, hstr⟩ := X
  intro r hr H locs ls hP hS hl
  obtain ⟨q, ho, hq⟩ := Option.bind_eq_some_iff.mp hr
  subst hly
  subst hR
  have hMe := hM l D ad cI cZ hj q ho
  have hR2 : (rmL lev').frames + 1 ≤ (rmL lev).frames ∧ 8 + (maxL + 11) + (rmL lev').locals ≤ (rmL lev).locals := ⟨hlev, by show 8 + (maxL + 11) + (40 * lev' + 20) ≤ 40 * lev + 20; omega⟩
  have hsz : (F0 m pc ls st0).locals.size = nL := hl.1.trans hml
  have hpre : PreV s H C (ad k) (pcS ly ad cI cZ D S (.ref (ad k) :: As ad)) (As ad) := ⟨pcS_blind, va_recv hK hP hc (sW_at hk), fun U hU hW => pcS_at hP hK hN hstr hS hU hW⟩
  rcases hl0 with hL | ⟨host, hL⟩
  · exact va_callv (va_runV (As := As ad) (rest := st) ⟨hx, hb, hml, hown, hts⟩ hMe (cwV n hts (gi_V hm hL) rfl rfl rfl hm.2.2.2.2 hR2) hpre rfl hn hsz hst (lv_room hroom) d ⟨Nat.le_refl _, Nat.le_refl _⟩) hS (fun q _ h => h) (fun q h => h) (fun u t H1 locs1 ht hvm hp1 hB hz hk1 hS1 => kk q r hq H1 locs1 ls (by rw [← ht]; exact hB) hS1 hl)
  · exact va_callv (va_runVN (As := As ad) (rest := st) ⟨hx, hb, hml, hown, hts⟩ hMe ⟨va_cnB n hts (gi_code hm.2.2.2.1) rfl rfl rfl (hN _ hL) (hm.2.2.2.2.1 ▸ hts _ hm.2.2.1) hm.2.2.2.2.2 hR2, hts _ hm.1, hts _ hm.2.1⟩ hpre rfl hn hsz hst (lv_room hroom) d ⟨Nat.le_refl _, Nat.le_refl _⟩) hS (fun q _ h => h) (fun q h => h) (fun u t H1 locs1 ht hvm hp1 hB hz hk1 hS1 => kk q r hq H1 locs1 ls (by rw [← ht]; exact hB) hS1 hl)
theorem r_callS (X : Cx E lay cc own nL ret lev) {i n maxL lev' : Nat} {y : MethodName} {bytes : ByteArray} {rt : FieldType} {As : (Nat → Nat) → List Value} {o : Option (Int32 × ST)} {kf : Int32 × ST → Option (Int32 × ST)} {st0 : List Value} (hM : MetS y bytes maxL (some rt) lev' lay o S As) (hm : mkS y bytes maxL (some rt) n) (hl0 : lkM own i y) (hn : (As (eA E)).length = n) (hlev : lev' + 1 ≤ lev) (hmx : maxL ≤ 21) (hroom : (st.map fun v => v.category).sum ≤ 8) (hst : st0 = (As (eA E)).reverse ++ st) (d : decode cc pc = .ok (.invokestatic i, 3)) (kk : ∀ q : Int32 × ST, G E (kf q) q.2 (pc + 3) lv (.int q.1 :: st)) : G E (o.bind kf) S pc lv st0 := by
  obtain ⟨p, l, e, R, s, m, args, below, meth, c, rt, D, ad, cI, cZ, ly⟩ := E
  obtain ⟨hx, hb, hml, hown, hts, hK, hN, hj, hlk, hrt, hr1, hly, hR, hstr⟩ := X
  intro r hr H locs ls hP hS hl
  obtain ⟨q, ho, hq⟩ := Option.bind_eq_some_iff.mp hr
  subst hly
  subst hR
  have hMe := hM l D ad cI cZ hj q ho
  have hR2 : (rmL lev').frames + 1 ≤ (rmL lev).frames ∧ 8 + (maxL + 11) + (rmL lev').locals ≤ (rmL lev).locals := ⟨hlev, by show 8 + (maxL + 11) + (40 * lev' + 20) ≤ 40 * lev + 20; omega⟩
  have hsz : (F0 m pc ls st0).locals.size = nL := hl.1.trans hml
  have hpre : PreS s H (pcS ly ad cI cZ D S (As ad)) (As ad) := ⟨pcS_blind, fun U hU hW => pcS_at hP hK hN hstr hS hU hW⟩
  rcases hl0 with hL | ⟨host, hL⟩
  · exact va_calli (va_runS (As := As ad) (rest := st) ⟨hx, hb, hml, hown, hts⟩ hMe (va_cwS n hts (gi_S hm hL) rfl rfl rfl hm.2.2.2 hR2) hpre rfl hn hsz hst (lv_room hroom) d ⟨Nat.le_refl _, Nat.le_refl _⟩) hS (fun q _ h => h) (fun q h => h) (fun v u t H1 locs1 ht hvm hp1 hB hz hk1 hS1 => by rw [hp1]; exact kk q r hq H1 locs1 ls (by rw [← ht]; exact hB) hS1 hl)
  · exact va_calli (va_runSN (As := As ad) (rest := st) ⟨hx, hb, hml, hown, hts⟩ hMe ⟨va_cnB n hts (gi_code hm.2.2.1) rfl rfl rfl (hN _ hL) (hts _ hm.2.1) hm.2.2.2 hR2, hts _ hm.1, trivial⟩ hpre rfl hn hsz hst (lv_room hroom) d ⟨Nat.le_refl _, Nat.le_refl _⟩) hS (fun q _ h => h) (fun q h => h) (fun v u t H1 locs1 ht hvm hp1 hB hz hk1 hS1 => by rw [hp1]; exact kk q r hq H1 locs1 ls (by rw [← ht]; exact hB) hS1 hl)
theorem r_callSv (X : Cx E lay cc own nL ret lev) {i n maxL lev' : Nat} {y : MethodName} {bytes : ByteArray} {As : (Nat → Nat) → List Value} {o : Option (Int32 × ST)} {kf : Int32 × ST → Option (Int32 × ST)} {st0 : List Value} (hM : MetS y bytes maxL none lev' lay o S As) (hm : mkS y bytes maxL none n) (hl0 : lkM own i y) (hn : (As (eA E)).length = n) (hlev : lev' + 1 ≤ lev) (hmx : maxL ≤ 21) (hroom : (st.map fun v => v.category).sum ≤ 8) (hst : st0 = (As (eA E)).reverse ++ st) (d : decode cc pc = .ok (.invokestatic i, 3)) (kk : ∀ q : Int32 × ST, G E (kf q) q.2 (pc + 3) lv (st)) : G E (o.bind kf) S pc lv st0 := by
  obtain ⟨p, l, e, R, s, m, args, below, meth, c, rt, D, ad, cI, cZ, ly⟩ := E
  obtain ⟨hx, hb, hml, hown, hts, hK, hN, hj, hlk, hrt, hr1, hly, hR, hstr⟩ := X
  intro r hr H locs ls hP hS hl
  obtain ⟨q, ho, hq⟩ := Option.bind_eq_some_iff.mp hr
  subst hly
  subst hR
  have hMe := hM l D ad cI cZ hj q ho
  have hR2 : (rmL lev').frames + 1 ≤ (rmL lev).frames ∧ 8 + (maxL + 11) + (rmL lev').locals ≤ (rmL lev).locals := ⟨hlev, by show 8 + (maxL + 11) + (40 * lev' + 20) ≤ 40 * lev + 20; omega⟩
  have hsz : (F0 m pc ls st0).locals.size = nL := hl.1.trans hml
  have hpre : PreS s H (pcS ly ad cI cZ D S (As ad)) (As ad) := ⟨pcS_blind, fun U hU hW => pcS_at hP hK hN hstr hS hU hW⟩
  rcases hl0 with hL | ⟨host, hL⟩
  · exact va_callv (va_runS (As := As ad) (rest := st) ⟨hx, hb, hml, hown, hts⟩ hMe (va_cwS n hts (gi_S hm hL) rfl rfl rfl hm.2.2.2 hR2) hpre rfl hn hsz hst (lv_room hroom) d ⟨Nat.le_refl _, Nat.le_refl _⟩) hS (fun q _ h => h) (fun q h => h) (fun u t H1 locs1 ht hvm hp1 hB hz hk1 hS1 => kk q r hq H1 locs1 ls (by rw [← ht]; exact hB) hS1 hl)
  · exact va_callv (va_runSN (As := As ad) (rest := st) ⟨hx, hb, hml, hown, hts⟩ hMe ⟨va_cnB n hts (gi_code hm.2.2.1) rfl rfl rfl (hN _ hL) (hts _ hm.2.1) hm.2.2.2 hR2, hts _ hm.1, trivial⟩ hpre rfl hn hsz hst (lv_room hroom) d ⟨Nat.le_refl _, Nat.le_refl _⟩) hS (fun q _ h => h) (fun q h => h) (fun u t H1 locs1 ht hvm hp1 hB hz hk1 hS1 => kk q r hq H1 locs1 ls (by rw [← ht]; exact hB) hS1 hl)
end ROWS
end
