section
-- ===== PART A: goes FIRST, ahead of the names: the tables' words, and 'selects' of the private methods out of them =====
/-- a private method of a class that the tables say can be made, by its rows of tables_1 -/
def lw_okq (q : MethodName × Nat) : Prop := (q.1.cls ≠ "java/lang/invoke/MethodHandle" ∧ q.1.cls ≠ "java/lang/invoke/VarHandle") ∧ Cond.instantiable q.1.cls q.2 ∈ tables_1 ∧ Cond.privateMethod q.1 ∈ tables_1 ∧ Cond.instanceMethod q.1 ∈ tables_1
theorem lw_p0 : lw_okq (⟨"RoofNet$TextReader", "takeItem", "(LRoofNet$Net;LRoofNet$Letters;I)I"⟩, 1) := ⟨⟨by decide +kernel, by decide +kernel⟩, List.mem_of_getElem? (i := 42) (by decide +kernel), List.mem_of_getElem? (i := 299) (by decide +kernel), List.mem_of_getElem? (i := 300) (by decide +kernel)⟩
theorem lw_p1 : lw_okq (⟨"RoofNet$TextReader", "numbersOf", "(I)I"⟩, 1) := ⟨⟨by decide +kernel, by decide +kernel⟩, List.mem_of_getElem? (i := 42) (by decide +kernel), List.mem_of_getElem? (i := 307) (by decide +kernel), List.mem_of_getElem? (i := 308) (by decide +kernel)⟩
theorem lw_p2 : lw_okq (⟨"RoofNet$TextReader", "takeNumbers", "(LRoofNet$Letters;II)I"⟩, 1) := ⟨⟨by decide +kernel, by decide +kernel⟩, List.mem_of_getElem? (i := 42) (by decide +kernel), List.mem_of_getElem? (i := 311) (by decide +kernel), List.mem_of_getElem? (i := 312) (by decide +kernel)⟩
theorem lw_p3 : lw_okq (⟨"RoofNet$TextReader", "addItem", "(LRoofNet$Net;I)Z"⟩, 1) := ⟨⟨by decide +kernel, by decide +kernel⟩, List.mem_of_getElem? (i := 42) (by decide +kernel), List.mem_of_getElem? (i := 320) (by decide +kernel), List.mem_of_getElem? (i := 321) (by decide +kernel)⟩
theorem lw_p4 : lw_okq (⟨"RoofNet$Net", "takesNoMore", "(I)Z"⟩, 12) := ⟨⟨by decide +kernel, by decide +kernel⟩, List.mem_of_getElem? (i := 60) (by decide +kernel), List.mem_of_getElem? (i := 353) (by decide +kernel), List.mem_of_getElem? (i := 354) (by decide +kernel)⟩
theorem lw_p5 : lw_okq (⟨"RoofNet", "isFixedJoint", "(I)Z"⟩, 8) := ⟨⟨by decide +kernel, by decide +kernel⟩, List.mem_of_getElem? (i := 18) (by decide +kernel), List.mem_of_getElem? (i := 444) (by decide +kernel), List.mem_of_getElem? (i := 445) (by decide +kernel)⟩
theorem lw_p6 : lw_okq (⟨"RoofNet$Shape", "numberFreeJoints", "(LRoofNet$Net;)V"⟩, 6) := ⟨⟨by decide +kernel, by decide +kernel⟩, List.mem_of_getElem? (i := 140) (by decide +kernel), List.mem_of_getElem? (i := 477) (by decide +kernel), List.mem_of_getElem? (i := 478) (by decide +kernel)⟩
theorem lw_p7 : lw_okq (⟨"RoofNet$Shape", "setUpRows", "(LRoofNet$Net;)V"⟩, 6) := ⟨⟨by decide +kernel, by decide +kernel⟩, List.mem_of_getElem? (i := 140) (by decide +kernel), List.mem_of_getElem? (i := 482) (by decide +kernel), List.mem_of_getElem? (i := 483) (by decide +kernel)⟩
theorem lw_p8 : lw_okq (⟨"RoofNet$Shape", "addPullOn", "(LRoofNet$Net;II)V"⟩, 6) := ⟨⟨by decide +kernel, by decide +kernel⟩, List.mem_of_getElem? (i := 140) (by decide +kernel), List.mem_of_getElem? (i := 487) (by decide +kernel), List.mem_of_getElem? (i := 488) (by decide +kernel)⟩
theorem lw_p9 : lw_okq (⟨"RoofNet$Shape", "eliminate", "()Z"⟩, 6) := ⟨⟨by decide +kernel, by decide +kernel⟩, List.mem_of_getElem? (i := 140) (by decide +kernel), List.mem_of_getElem? (i := 495) (by decide +kernel), List.mem_of_getElem? (i := 496) (by decide +kernel)⟩
theorem lw_p10 : lw_okq (⟨"RoofNet$Shape", "clearColumn", "(IIJ)V"⟩, 6) := ⟨⟨by decide +kernel, by decide +kernel⟩, List.mem_of_getElem? (i := 140) (by decide +kernel), List.mem_of_getElem? (i := 499) (by decide +kernel), List.mem_of_getElem? (i := 500) (by decide +kernel)⟩
theorem lw_p11 : lw_okq (⟨"RoofNet$Shape", "tellHundredths", "(LRoofNet$Net;)V"⟩, 6) := ⟨⟨by decide +kernel, by decide +kernel⟩, List.mem_of_getElem? (i := 140) (by decide +kernel), List.mem_of_getElem? (i := 503) (by decide +kernel), List.mem_of_getElem? (i := 504) (by decide +kernel)⟩
theorem lw_p12 : lw_okq (⟨"RoofNet$Shape", "tellLengths", "(LRoofNet$Net;)V"⟩, 6) := ⟨⟨by decide +kernel, by decide +kernel⟩, List.mem_of_getElem? (i := 140) (by decide +kernel), List.mem_of_getElem? (i := 515) (by decide +kernel), List.mem_of_getElem? (i := 516) (by decide +kernel)⟩
theorem lw_p13 : lw_okq (⟨"RoofNet$Shape", "wayFrom", "(III)I"⟩, 6) := ⟨⟨by decide +kernel, by decide +kernel⟩, List.mem_of_getElem? (i := 140) (by decide +kernel), List.mem_of_getElem? (i := 519) (by decide +kernel), List.mem_of_getElem? (i := 520) (by decide +kernel)⟩
theorem lw_p14 : lw_okq (⟨"RoofNet$Shape", "isBetweenOthers", "(LRoofNet$Net;II)Z"⟩, 6) := ⟨⟨by decide +kernel, by decide +kernel⟩, List.mem_of_getElem? (i := 140) (by decide +kernel), List.mem_of_getElem? (i := 556) (by decide +kernel), List.mem_of_getElem? (i := 557) (by decide +kernel)⟩
theorem lw_p15 : lw_okq (⟨"RoofNet", "hangingStrand", "(II)I"⟩, 8) := ⟨⟨by decide +kernel, by decide +kernel⟩, List.mem_of_getElem? (i := 18) (by decide +kernel), List.mem_of_getElem? (i := 590) (by decide +kernel), List.mem_of_getElem? (i := 591) (by decide +kernel)⟩
def lw_privs_1 : List (MethodName × Nat) := [(⟨"RoofNet$TextReader", "takeItem", "(LRoofNet$Net;LRoofNet$Letters;I)I"⟩, 1), (⟨"RoofNet$TextReader", "numbersOf", "(I)I"⟩, 1), (⟨"RoofNet$TextReader", "takeNumbers", "(LRoofNet$Letters;II)I"⟩, 1), (⟨"RoofNet$TextReader", "addItem", "(LRoofNet$Net;I)Z"⟩, 1), (⟨"RoofNet$Net", "takesNoMore", "(I)Z"⟩, 12), (⟨"RoofNet", "isFixedJoint", "(I)Z"⟩, 8), (⟨"RoofNet$Shape", "numberFreeJoints", "(LRoofNet$Net;)V"⟩, 6), (⟨"RoofNet$Shape", "setUpRows", "(LRoofNet$Net;)V"⟩, 6), (⟨"RoofNet$Shape", "addPullOn", "(LRoofNet$Net;II)V"⟩, 6), (⟨"RoofNet$Shape", "eliminate", "()Z"⟩, 6), (⟨"RoofNet$Shape", "clearColumn", "(IIJ)V"⟩, 6), (⟨"RoofNet$Shape", "tellHundredths", "(LRoofNet$Net;)V"⟩, 6), (⟨"RoofNet$Shape", "tellLengths", "(LRoofNet$Net;)V"⟩, 6), (⟨"RoofNet$Shape", "wayFrom", "(III)I"⟩, 6), (⟨"RoofNet$Shape", "isBetweenOthers", "(LRoofNet$Net;II)Z"⟩, 6), (⟨"RoofNet", "hangingStrand", "(II)I"⟩, 8)]
theorem lw_r1 : ∀ q ∈ lw_privs_1, lw_okq q := List.forall_mem_cons.mpr ⟨lw_p0, List.forall_mem_cons.mpr ⟨lw_p1, List.forall_mem_cons.mpr ⟨lw_p2, List.forall_mem_cons.mpr ⟨lw_p3, List.forall_mem_cons.mpr ⟨lw_p4, List.forall_mem_cons.mpr ⟨lw_p5, List.forall_mem_cons.mpr ⟨lw_p6, List.forall_mem_cons.mpr ⟨lw_p7, List.forall_mem_cons.mpr ⟨lw_p8, List.forall_mem_cons.mpr ⟨lw_p9, List.forall_mem_cons.mpr ⟨lw_p10, List.forall_mem_cons.mpr ⟨lw_p11, List.forall_mem_cons.mpr ⟨lw_p12, List.forall_mem_cons.mpr ⟨lw_p13, List.forall_mem_cons.mpr ⟨lw_p14, List.forall_mem_cons.mpr ⟨lw_p15, fun _ h => absurd h List.not_mem_nil⟩⟩⟩⟩⟩⟩⟩⟩⟩⟩⟩⟩⟩⟩⟩⟩
theorem lw_p16 : lw_okq (⟨"RoofNet$Trials", "tryDensitiesOf", "(I)V"⟩, 4) := ⟨⟨by decide +kernel, by decide +kernel⟩, List.mem_of_getElem? (i := 172) (by decide +kernel), List.mem_of_getElem? (i := 647) (by decide +kernel), List.mem_of_getElem? (i := 648) (by decide +kernel)⟩
theorem lw_p17 : lw_okq (⟨"RoofNet$Cutter", "sortPieces", "(LRoofNet$Net;[I)V"⟩, 10) := ⟨⟨by decide +kernel, by decide +kernel⟩, List.mem_of_getElem? (i := 197) (by decide +kernel), List.mem_of_getElem? (i := 663) (by decide +kernel), List.mem_of_getElem? (i := 664) (by decide +kernel)⟩
theorem lw_p18 : lw_okq (⟨"RoofNet$Cutter", "rollWith", "(I)I"⟩, 10) := ⟨⟨by decide +kernel, by decide +kernel⟩, List.mem_of_getElem? (i := 197) (by decide +kernel), List.mem_of_getElem? (i := 668) (by decide +kernel), List.mem_of_getElem? (i := 669) (by decide +kernel)⟩
theorem lw_p19 : lw_okq (⟨"RoofNet$Cutter", "leastThinkable", "(I)I"⟩, 10) := ⟨⟨by decide +kernel, by decide +kernel⟩, List.mem_of_getElem? (i := 197) (by decide +kernel), List.mem_of_getElem? (i := 681) (by decide +kernel), List.mem_of_getElem? (i := 682) (by decide +kernel)⟩
theorem lw_p20 : lw_okq (⟨"RoofNet$Cutter", "tooMuchIsLost", "()Z"⟩, 10) := ⟨⟨by decide +kernel, by decide +kernel⟩, List.mem_of_getElem? (i := 197) (by decide +kernel), List.mem_of_getElem? (i := 689) (by decide +kernel), List.mem_of_getElem? (i := 690) (by decide +kernel)⟩
theorem lw_p21 : lw_okq (⟨"RoofNet$Cutter", "isLikeOneAhead", "(I)Z"⟩, 10) := ⟨⟨by decide +kernel, by decide +kernel⟩, List.mem_of_getElem? (i := 197) (by decide +kernel), List.mem_of_getElem? (i := 693) (by decide +kernel), List.mem_of_getElem? (i := 694) (by decide +kernel)⟩
theorem lw_p22 : lw_okq (⟨"RoofNetModel", "fixes", "(IIII)V"⟩, 24) := ⟨⟨by decide +kernel, by decide +kernel⟩, List.mem_of_getElem? (i := 706) (by decide +kernel), List.mem_of_getElem? (i := 712) (by decide +kernel), List.mem_of_getElem? (i := 713) (by decide +kernel)⟩
theorem lw_p23 : lw_okq (⟨"RoofNetModel", "ties", "(IIIII)V"⟩, 24) := ⟨⟨by decide +kernel, by decide +kernel⟩, List.mem_of_getElem? (i := 706) (by decide +kernel), List.mem_of_getElem? (i := 716) (by decide +kernel), List.mem_of_getElem? (i := 717) (by decide +kernel)⟩
theorem lw_p24 : lw_okq (⟨"RoofNetModel", "reads", "()I"⟩, 24) := ⟨⟨by decide +kernel, by decide +kernel⟩, List.mem_of_getElem? (i := 706) (by decide +kernel), List.mem_of_getElem? (i := 809) (by decide +kernel), List.mem_of_getElem? (i := 810) (by decide +kernel)⟩
theorem lw_p25 : lw_okq (⟨"RoofNetModel", "takesFixed", "()V"⟩, 24) := ⟨⟨by decide +kernel, by decide +kernel⟩, List.mem_of_getElem? (i := 706) (by decide +kernel), List.mem_of_getElem? (i := 813) (by decide +kernel), List.mem_of_getElem? (i := 814) (by decide +kernel)⟩
theorem lw_p26 : lw_okq (⟨"RoofNetModel", "takesNumbers", "(I)V"⟩, 24) := ⟨⟨by decide +kernel, by decide +kernel⟩, List.mem_of_getElem? (i := 706) (by decide +kernel), List.mem_of_getElem? (i := 817) (by decide +kernel), List.mem_of_getElem? (i := 818) (by decide +kernel)⟩
theorem lw_p27 : lw_okq (⟨"RoofNetModel", "takes", "(I)V"⟩, 24) := ⟨⟨by decide +kernel, by decide +kernel⟩, List.mem_of_getElem? (i := 706) (by decide +kernel), List.mem_of_getElem? (i := 821) (by decide +kernel), List.mem_of_getElem? (i := 822) (by decide +kernel)⟩
theorem lw_p28 : lw_okq (⟨"RoofNetModel", "takesNumber", "(II)I"⟩, 24) := ⟨⟨by decide +kernel, by decide +kernel⟩, List.mem_of_getElem? (i := 706) (by decide +kernel), List.mem_of_getElem? (i := 825) (by decide +kernel), List.mem_of_getElem? (i := 826) (by decide +kernel)⟩
theorem lw_p29 : lw_okq (⟨"RoofNetModel", "isFigure", "(I)Z"⟩, 24) := ⟨⟨by decide +kernel, by decide +kernel⟩, List.mem_of_getElem? (i := 706) (by decide +kernel), List.mem_of_getElem? (i := 829) (by decide +kernel), List.mem_of_getElem? (i := 830) (by decide +kernel)⟩
theorem lw_p30 : lw_okq (⟨"RoofNetModel", "takesFree", "()V"⟩, 24) := ⟨⟨by decide +kernel, by decide +kernel⟩, List.mem_of_getElem? (i := 706) (by decide +kernel), List.mem_of_getElem? (i := 833) (by decide +kernel), List.mem_of_getElem? (i := 834) (by decide +kernel)⟩
theorem lw_p31 : lw_okq (⟨"RoofNetModel", "draftFrees", "()I"⟩, 24) := ⟨⟨by decide +kernel, by decide +kernel⟩, List.mem_of_getElem? (i := 706) (by decide +kernel), List.mem_of_getElem? (i := 837) (by decide +kernel), List.mem_of_getElem? (i := 838) (by decide +kernel)⟩
def lw_privs_2 : List (MethodName × Nat) := [(⟨"RoofNet$Trials", "tryDensitiesOf", "(I)V"⟩, 4), (⟨"RoofNet$Cutter", "sortPieces", "(LRoofNet$Net;[I)V"⟩, 10), (⟨"RoofNet$Cutter", "rollWith", "(I)I"⟩, 10), (⟨"RoofNet$Cutter", "leastThinkable", "(I)I"⟩, 10), (⟨"RoofNet$Cutter", "tooMuchIsLost", "()Z"⟩, 10), (⟨"RoofNet$Cutter", "isLikeOneAhead", "(I)Z"⟩, 10), (⟨"RoofNetModel", "fixes", "(IIII)V"⟩, 24), (⟨"RoofNetModel", "ties", "(IIIII)V"⟩, 24), (⟨"RoofNetModel", "reads", "()I"⟩, 24), (⟨"RoofNetModel", "takesFixed", "()V"⟩, 24), (⟨"RoofNetModel", "takesNumbers", "(I)V"⟩, 24), (⟨"RoofNetModel", "takes", "(I)V"⟩, 24), (⟨"RoofNetModel", "takesNumber", "(II)I"⟩, 24), (⟨"RoofNetModel", "isFigure", "(I)Z"⟩, 24), (⟨"RoofNetModel", "takesFree", "()V"⟩, 24), (⟨"RoofNetModel", "draftFrees", "()I"⟩, 24)]
theorem lw_r2 : ∀ q ∈ lw_privs_2, lw_okq q := List.forall_mem_cons.mpr ⟨lw_p16, List.forall_mem_cons.mpr ⟨lw_p17, List.forall_mem_cons.mpr ⟨lw_p18, List.forall_mem_cons.mpr ⟨lw_p19, List.forall_mem_cons.mpr ⟨lw_p20, List.forall_mem_cons.mpr ⟨lw_p21, List.forall_mem_cons.mpr ⟨lw_p22, List.forall_mem_cons.mpr ⟨lw_p23, List.forall_mem_cons.mpr ⟨lw_p24, List.forall_mem_cons.mpr ⟨lw_p25, List.forall_mem_cons.mpr ⟨lw_p26, List.forall_mem_cons.mpr ⟨lw_p27, List.forall_mem_cons.mpr ⟨lw_p28, List.forall_mem_cons.mpr ⟨lw_p29, List.forall_mem_cons.mpr ⟨lw_p30, List.forall_mem_cons.mpr ⟨lw_p31, fun _ h => absurd h List.not_mem_nil⟩⟩⟩⟩⟩⟩⟩⟩⟩⟩⟩⟩⟩⟩⟩⟩
theorem lw_p32 : lw_okq (⟨"RoofNetModel", "takesStrand", "()V"⟩, 24) := ⟨⟨by decide +kernel, by decide +kernel⟩, List.mem_of_getElem? (i := 706) (by decide +kernel), List.mem_of_getElem? (i := 841) (by decide +kernel), List.mem_of_getElem? (i := 842) (by decide +kernel)⟩
theorem lw_p33 : lw_okq (⟨"RoofNetModel", "hasRoom", "(I)Z"⟩, 24) := ⟨⟨by decide +kernel, by decide +kernel⟩, List.mem_of_getElem? (i := 706) (by decide +kernel), List.mem_of_getElem? (i := 845) (by decide +kernel), List.mem_of_getElem? (i := 846) (by decide +kernel)⟩
theorem lw_p34 : lw_okq (⟨"RoofNetModel", "isTied", "(II)Z"⟩, 24) := ⟨⟨by decide +kernel, by decide +kernel⟩, List.mem_of_getElem? (i := 706) (by decide +kernel), List.mem_of_getElem? (i := 849) (by decide +kernel), List.mem_of_getElem? (i := 850) (by decide +kernel)⟩
theorem lw_p35 : lw_okq (⟨"RoofNetModel", "takesRolls", "()V"⟩, 24) := ⟨⟨by decide +kernel, by decide +kernel⟩, List.mem_of_getElem? (i := 706) (by decide +kernel), List.mem_of_getElem? (i := 853) (by decide +kernel), List.mem_of_getElem? (i := 854) (by decide +kernel)⟩
theorem lw_p36 : lw_okq (⟨"RoofNetModel", "isStrand", "(I)Z"⟩, 24) := ⟨⟨by decide +kernel, by decide +kernel⟩, List.mem_of_getElem? (i := 706) (by decide +kernel), List.mem_of_getElem? (i := 865) (by decide +kernel), List.mem_of_getElem? (i := 866) (by decide +kernel)⟩
theorem lw_p37 : lw_okq (⟨"RoofNetModel", "becomes", "(II)I"⟩, 24) := ⟨⟨by decide +kernel, by decide +kernel⟩, List.mem_of_getElem? (i := 706) (by decide +kernel), List.mem_of_getElem? (i := 869) (by decide +kernel), List.mem_of_getElem? (i := 870) (by decide +kernel)⟩
theorem lw_p38 : lw_okq (⟨"RoofNetModel", "notes", "()V"⟩, 24) := ⟨⟨by decide +kernel, by decide +kernel⟩, List.mem_of_getElem? (i := 706) (by decide +kernel), List.mem_of_getElem? (i := 873) (by decide +kernel), List.mem_of_getElem? (i := 874) (by decide +kernel)⟩
theorem lw_p39 : lw_okq (⟨"RoofNetModel", "isJoint", "(I)Z"⟩, 24) := ⟨⟨by decide +kernel, by decide +kernel⟩, List.mem_of_getElem? (i := 706) (by decide +kernel), List.mem_of_getElem? (i := 885) (by decide +kernel), List.mem_of_getElem? (i := 886) (by decide +kernel)⟩
theorem lw_p40 : lw_okq (⟨"RoofNetModel", "isFree", "(I)Z"⟩, 24) := ⟨⟨by decide +kernel, by decide +kernel⟩, List.mem_of_getElem? (i := 706) (by decide +kernel), List.mem_of_getElem? (i := 889) (by decide +kernel), List.mem_of_getElem? (i := 890) (by decide +kernel)⟩
theorem lw_p41 : lw_okq (⟨"RoofNetModel", "hanging", "()I"⟩, 24) := ⟨⟨by decide +kernel, by decide +kernel⟩, List.mem_of_getElem? (i := 706) (by decide +kernel), List.mem_of_getElem? (i := 901) (by decide +kernel), List.mem_of_getElem? (i := 902) (by decide +kernel)⟩
theorem lw_p42 : lw_okq (⟨"RoofNetModel", "hangs", "(I)Z"⟩, 24) := ⟨⟨by decide +kernel, by decide +kernel⟩, List.mem_of_getElem? (i := 706) (by decide +kernel), List.mem_of_getElem? (i := 905) (by decide +kernel), List.mem_of_getElem? (i := 906) (by decide +kernel)⟩
theorem lw_p43 : lw_okq (⟨"RoofNetModel", "of", "(II)I"⟩, 24) := ⟨⟨by decide +kernel, by decide +kernel⟩, List.mem_of_getElem? (i := 706) (by decide +kernel), List.mem_of_getElem? (i := 909) (by decide +kernel), List.mem_of_getElem? (i := 910) (by decide +kernel)⟩
theorem lw_p44 : lw_okq (⟨"RoofNetModel", "laysHung", "(I)Z"⟩, 24) := ⟨⟨by decide +kernel, by decide +kernel⟩, List.mem_of_getElem? (i := 706) (by decide +kernel), List.mem_of_getElem? (i := 917) (by decide +kernel), List.mem_of_getElem? (i := 918) (by decide +kernel)⟩
theorem lw_p45 : lw_okq (⟨"RoofNetModel", "goesRound", "()Z"⟩, 24) := ⟨⟨by decide +kernel, by decide +kernel⟩, List.mem_of_getElem? (i := 706) (by decide +kernel), List.mem_of_getElem? (i := 921) (by decide +kernel), List.mem_of_getElem? (i := 922) (by decide +kernel)⟩
theorem lw_p46 : lw_okq (⟨"RoofNetModel", "lays", "()Z"⟩, 24) := ⟨⟨by decide +kernel, by decide +kernel⟩, List.mem_of_getElem? (i := 706) (by decide +kernel), List.mem_of_getElem? (i := 925) (by decide +kernel), List.mem_of_getElem? (i := 926) (by decide +kernel)⟩
theorem lw_p47 : lw_okq (⟨"RoofNetModel", "laysTable", "()V"⟩, 24) := ⟨⟨by decide +kernel, by decide +kernel⟩, List.mem_of_getElem? (i := 706) (by decide +kernel), List.mem_of_getElem? (i := 929) (by decide +kernel), List.mem_of_getElem? (i := 930) (by decide +kernel)⟩
def lw_privs_3 : List (MethodName × Nat) := [(⟨"RoofNetModel", "takesStrand", "()V"⟩, 24), (⟨"RoofNetModel", "hasRoom", "(I)Z"⟩, 24), (⟨"RoofNetModel", "isTied", "(II)Z"⟩, 24), (⟨"RoofNetModel", "takesRolls", "()V"⟩, 24), (⟨"RoofNetModel", "isStrand", "(I)Z"⟩, 24), (⟨"RoofNetModel", "becomes", "(II)I"⟩, 24), (⟨"RoofNetModel", "notes", "()V"⟩, 24), (⟨"RoofNetModel", "isJoint", "(I)Z"⟩, 24), (⟨"RoofNetModel", "isFree", "(I)Z"⟩, 24), (⟨"RoofNetModel", "hanging", "()I"⟩, 24), (⟨"RoofNetModel", "hangs", "(I)Z"⟩, 24), (⟨"RoofNetModel", "of", "(II)I"⟩, 24), (⟨"RoofNetModel", "laysHung", "(I)Z"⟩, 24), (⟨"RoofNetModel", "goesRound", "()Z"⟩, 24), (⟨"RoofNetModel", "lays", "()Z"⟩, 24), (⟨"RoofNetModel", "laysTable", "()V"⟩, 24)]
theorem lw_r3 : ∀ q ∈ lw_privs_3, lw_okq q := List.forall_mem_cons.mpr ⟨lw_p32, List.forall_mem_cons.mpr ⟨lw_p33, List.forall_mem_cons.mpr ⟨lw_p34, List.forall_mem_cons.mpr ⟨lw_p35, List.forall_mem_cons.mpr ⟨lw_p36, List.forall_mem_cons.mpr ⟨lw_p37, List.forall_mem_cons.mpr ⟨lw_p38, List.forall_mem_cons.mpr ⟨lw_p39, List.forall_mem_cons.mpr ⟨lw_p40, List.forall_mem_cons.mpr ⟨lw_p41, List.forall_mem_cons.mpr ⟨lw_p42, List.forall_mem_cons.mpr ⟨lw_p43, List.forall_mem_cons.mpr ⟨lw_p44, List.forall_mem_cons.mpr ⟨lw_p45, List.forall_mem_cons.mpr ⟨lw_p46, List.forall_mem_cons.mpr ⟨lw_p47, fun _ h => absurd h List.not_mem_nil⟩⟩⟩⟩⟩⟩⟩⟩⟩⟩⟩⟩⟩⟩⟩⟩
theorem lw_p48 : lw_okq (⟨"RoofNetModel", "laysEnd", "(II)V"⟩, 24) := ⟨⟨by decide +kernel, by decide +kernel⟩, List.mem_of_getElem? (i := 706) (by decide +kernel), List.mem_of_getElem? (i := 933) (by decide +kernel), List.mem_of_getElem? (i := 934) (by decide +kernel)⟩
theorem lw_p49 : lw_okq (⟨"RoofNetModel", "other", "(II)I"⟩, 24) := ⟨⟨by decide +kernel, by decide +kernel⟩, List.mem_of_getElem? (i := 706) (by decide +kernel), List.mem_of_getElem? (i := 937) (by decide +kernel), List.mem_of_getElem? (i := 938) (by decide +kernel)⟩
theorem lw_p50 : lw_okq (⟨"RoofNetModel", "isAsked", "(I)Z"⟩, 24) := ⟨⟨by decide +kernel, by decide +kernel⟩, List.mem_of_getElem? (i := 706) (by decide +kernel), List.mem_of_getElem? (i := 945) (by decide +kernel), List.mem_of_getElem? (i := 946) (by decide +kernel)⟩
theorem lw_p51 : lw_okq (⟨"RoofNetModel", "lengthOf", "(I)I"⟩, 24) := ⟨⟨by decide +kernel, by decide +kernel⟩, List.mem_of_getElem? (i := 706) (by decide +kernel), List.mem_of_getElem? (i := 949) (by decide +kernel), List.mem_of_getElem? (i := 950) (by decide +kernel)⟩
theorem lw_p52 : lw_okq (⟨"RoofNetModel", "bitsOf", "(I)I"⟩, 24) := ⟨⟨by decide +kernel, by decide +kernel⟩, List.mem_of_getElem? (i := 706) (by decide +kernel), List.mem_of_getElem? (i := 966) (by decide +kernel), List.mem_of_getElem? (i := 967) (by decide +kernel)⟩
theorem lw_p53 : lw_okq (⟨"RoofNetModel", "isOf", "(II)Z"⟩, 24) := ⟨⟨by decide +kernel, by decide +kernel⟩, List.mem_of_getElem? (i := 706) (by decide +kernel), List.mem_of_getElem? (i := 970) (by decide +kernel), List.mem_of_getElem? (i := 971) (by decide +kernel)⟩
theorem lw_p54 : lw_okq (⟨"RoofNetModel", "isWithin", "(I)Z"⟩, 24) := ⟨⟨by decide +kernel, by decide +kernel⟩, List.mem_of_getElem? (i := 706) (by decide +kernel), List.mem_of_getElem? (i := 974) (by decide +kernel), List.mem_of_getElem? (i := 975) (by decide +kernel)⟩
theorem lw_p55 : lw_okq (⟨"RoofNetModel", "offOf", "(I)I"⟩, 24) := ⟨⟨by decide +kernel, by decide +kernel⟩, List.mem_of_getElem? (i := 706) (by decide +kernel), List.mem_of_getElem? (i := 996) (by decide +kernel), List.mem_of_getElem? (i := 997) (by decide +kernel)⟩
theorem lw_p56 : lw_okq (⟨"RoofNetModel", "missing", "()I"⟩, 24) := ⟨⟨by decide +kernel, by decide +kernel⟩, List.mem_of_getElem? (i := 706) (by decide +kernel), List.mem_of_getElem? (i := 1008) (by decide +kernel), List.mem_of_getElem? (i := 1009) (by decide +kernel)⟩
theorem lw_p57 : lw_okq (⟨"RoofNetModel", "laysPieces", "()Z"⟩, 24) := ⟨⟨by decide +kernel, by decide +kernel⟩, List.mem_of_getElem? (i := 706) (by decide +kernel), List.mem_of_getElem? (i := 1028) (by decide +kernel), List.mem_of_getElem? (i := 1029) (by decide +kernel)⟩
theorem lw_p58 : lw_okq (⟨"RoofNetModel", "fewestRolls", "()I"⟩, 24) := ⟨⟨by decide +kernel, by decide +kernel⟩, List.mem_of_getElem? (i := 706) (by decide +kernel), List.mem_of_getElem? (i := 1032) (by decide +kernel), List.mem_of_getElem? (i := 1033) (by decide +kernel)⟩
theorem lw_p59 : lw_okq (⟨"RoofNetModel", "joins", "(III)V"⟩, 24) := ⟨⟨by decide +kernel, by decide +kernel⟩, List.mem_of_getElem? (i := 706) (by decide +kernel), List.mem_of_getElem? (i := 1036) (by decide +kernel), List.mem_of_getElem? (i := 1037) (by decide +kernel)⟩
theorem lw_p60 : lw_okq (⟨"RoofNetModel", "firstFit", "()V"⟩, 24) := ⟨⟨by decide +kernel, by decide +kernel⟩, List.mem_of_getElem? (i := 706) (by decide +kernel), List.mem_of_getElem? (i := 1040) (by decide +kernel), List.mem_of_getElem? (i := 1041) (by decide +kernel)⟩
theorem lw_p61 : lw_okq (⟨"RoofNetModel", "longest", "()I"⟩, 24) := ⟨⟨by decide +kernel, by decide +kernel⟩, List.mem_of_getElem? (i := 706) (by decide +kernel), List.mem_of_getElem? (i := 1044) (by decide +kernel), List.mem_of_getElem? (i := 1045) (by decide +kernel)⟩
def lw_privs_4 : List (MethodName × Nat) := [(⟨"RoofNetModel", "laysEnd", "(II)V"⟩, 24), (⟨"RoofNetModel", "other", "(II)I"⟩, 24), (⟨"RoofNetModel", "isAsked", "(I)Z"⟩, 24), (⟨"RoofNetModel", "lengthOf", "(I)I"⟩, 24), (⟨"RoofNetModel", "bitsOf", "(I)I"⟩, 24), (⟨"RoofNetModel", "isOf", "(II)Z"⟩, 24), (⟨"RoofNetModel", "isWithin", "(I)Z"⟩, 24), (⟨"RoofNetModel", "offOf", "(I)I"⟩, 24), (⟨"RoofNetModel", "missing", "()I"⟩, 24), (⟨"RoofNetModel", "laysPieces", "()Z"⟩, 24), (⟨"RoofNetModel", "fewestRolls", "()I"⟩, 24), (⟨"RoofNetModel", "joins", "(III)V"⟩, 24), (⟨"RoofNetModel", "firstFit", "()V"⟩, 24), (⟨"RoofNetModel", "longest", "()I"⟩, 24)]
theorem lw_r4 : ∀ q ∈ lw_privs_4, lw_okq q := List.forall_mem_cons.mpr ⟨lw_p48, List.forall_mem_cons.mpr ⟨lw_p49, List.forall_mem_cons.mpr ⟨lw_p50, List.forall_mem_cons.mpr ⟨lw_p51, List.forall_mem_cons.mpr ⟨lw_p52, List.forall_mem_cons.mpr ⟨lw_p53, List.forall_mem_cons.mpr ⟨lw_p54, List.forall_mem_cons.mpr ⟨lw_p55, List.forall_mem_cons.mpr ⟨lw_p56, List.forall_mem_cons.mpr ⟨lw_p57, List.forall_mem_cons.mpr ⟨lw_p58, List.forall_mem_cons.mpr ⟨lw_p59, List.forall_mem_cons.mpr ⟨lw_p60, List.forall_mem_cons.mpr ⟨lw_p61, fun _ h => absurd h List.not_mem_nil⟩⟩⟩⟩⟩⟩⟩⟩⟩⟩⟩⟩⟩⟩
def lw_privs : List (MethodName × Nat) := lw_privs_1 ++ (lw_privs_2 ++ (lw_privs_3 ++ (lw_privs_4)))
def lw_tbl : List Cond := k2_sels lw_privs ++ tables_1
theorem lw_privs_ok : ∀ q ∈ lw_privs, lw_okq q := by
  show ∀ q ∈ lw_privs_1 ++ (lw_privs_2 ++ (lw_privs_3 ++ (lw_privs_4))), lw_okq q
  exact List.forall_mem_append.mpr ⟨lw_r1, List.forall_mem_append.mpr ⟨lw_r2, List.forall_mem_append.mpr ⟨lw_r3, lw_r4⟩⟩⟩
end
section
/-! ===== BEGIN words of one list among another's, by their places ===== -/
theorem goodIn_r {big : List Cond} (ws : List Cond) (ps : List Nat) (hp : ws = ps.filterMap (fun i => big[i]?)) (h : ws.all goodWord = true) : GoodIn big ws := by
  intro w hw
  have h1 := List.all_eq_true.mp h w hw
  rw [hp] at hw
  obtain ⟨i, -, hi⟩ := List.mem_filterMap.mp hw
  have hm : w ∈ big := by first | exact List.mem_of_getElem? hi | exact List.getElem?_mem hi
  exact ⟨hm, good_of_word h1⟩
theorem goodIn_app {big a b : List Cond} (ha : GoodIn big a) (hb : GoodIn big b) : GoodIn big (a ++ b) := fun w h => (List.mem_append.mp h).elim (ha w) (hb w)
theorem goodIn_ca {big a b : List Cond} {c : Cond} (ha : GoodIn big (c :: a)) (hb : GoodIn big b) : GoodIn big (c :: (a ++ b)) := fun w h => (List.mem_cons.mp h).elim (fun e => ha w (List.mem_cons.mpr (Or.inl e))) (fun h => (List.mem_append.mp h).elim (fun h => ha w (List.mem_cons.mpr (Or.inr h))) (hb w))
theorem goodIn_sub {big ws : List Cond} (hm : ∀ w ∈ ws, w ∈ big) (h : ws.all goodWord = true) : GoodIn big ws := fun w hw => ⟨hm w hw, good_of_word (List.all_eq_true.mp h w hw)⟩
/-! ===== END ===== -/
def RX0 : String := "RoofNet$Cutter"
def TX0 : u_T := fun k => match k with
  | 0 => ("RoofNet$Cutter", "strandsByLength", "[I", true)
  | 1 => ("RoofNet$Cutter", "pieceSizes", "[I", true)
  | 2 => ("RoofNet$Cutter", "leftOnRoll", "[I", true)
  | 3 => ("RoofNet$Cutter", "rollOfStrand", "[I", true)
  | 4 => ("RoofNet$Cutter", "pieces", "I", false)
  | 5 => ("RoofNet$Cutter", "rollSize", "I", false)
  | 6 => ("RoofNet$Cutter", "rollsUsed", "I", false)
  | 7 => ("RoofNet$Cutter", "leftOnTried", "[I", true)
  | 8 => ("RoofNet$Cutter", "rollsTried", "I", false)
  | _ => ("RoofNet$Cutter", "mayBeLost", "I", false)
def tyX0 : Nat → FieldType := fun k => match k with
  | 0 => .array .int
  | 1 => .array .int
  | 2 => .array .int
  | 3 => .array .int
  | 4 => .int
  | 5 => .int
  | 6 => .int
  | 7 => .array .int
  | 8 => .int
  | _ => .int
theorem nmX0 : ∀ a, a < 10 → ∀ b, b < 10 → a ≠ b → (TX0 a).2.1 ≠ (TX0 b).2.1 := by decide +kernel
theorem tyX0_ok : ∀ k, k < 10 → parseFieldDescriptor (TX0 k).2.2.1 = some (tyX0 k) := by decide +kernel
abbrev cX0_init : ByteArray := prog_2_method_1_code
def yX0_init : MethodName := ⟨RX0, "<init>", "()V"⟩
abbrev cX0_firstFit : ByteArray := prog_2_method_2_code
def yX0_firstFit : MethodName := ⟨RX0, "firstFit", "(LRoofNet$Net;[I)Z"⟩
abbrev cX0_sortPieces : ByteArray := prog_2_method_3_code
def yX0_sortPieces : MethodName := ⟨RX0, "sortPieces", "(LRoofNet$Net;[I)V"⟩
abbrev cX0_rollWith : ByteArray := prog_2_method_4_code
def yX0_rollWith : MethodName := ⟨RX0, "rollWith", "(I)I"⟩
abbrev cX0_leftOver : ByteArray := prog_2_method_5_code
def yX0_leftOver : MethodName := ⟨RX0, "leftOver", "()I"⟩
abbrev cX0_fewest : ByteArray := prog_2_method_6_code
def yX0_fewest : MethodName := ⟨RX0, "fewest", "()I"⟩
abbrev cX0_leastThinkable : ByteArray := prog_2_method_7_code
def yX0_leastThinkable : MethodName := ⟨RX0, "leastThinkable", "(I)I"⟩
abbrev cX0_canPlaceFrom : ByteArray := prog_2_method_8_code
def yX0_canPlaceFrom : MethodName := ⟨RX0, "canPlaceFrom", "(LRoofNet$Cutter;I)Z"⟩
abbrev cX0_tooMuchIsLost : ByteArray := prog_2_method_9_code
def yX0_tooMuchIsLost : MethodName := ⟨RX0, "tooMuchIsLost", "()Z"⟩
abbrev cX0_isLikeOneAhead : ByteArray := prog_2_method_10_code
def yX0_isLikeOneAhead : MethodName := ⟨RX0, "isLikeOneAhead", "(I)Z"⟩
def RX1 : String := "RoofNet$Letters"
def TX1 : u_T := fun k => match k with
  | 0 => ("RoofNet$Letters", "signs", "[C", true)
  | _ => ("RoofNet$Letters", "size", "I", false)
def tyX1 : Nat → FieldType := fun k => match k with
  | 0 => .array .char
  | _ => .int
theorem nmX1 : ∀ a, a < 2 → ∀ b, b < 2 → a ≠ b → (TX1 a).2.1 ≠ (TX1 b).2.1 := by decide +kernel
theorem tyX1_ok : ∀ k, k < 2 → parseFieldDescriptor (TX1 k).2.2.1 = some (tyX1 k) := by decide +kernel
abbrev cX1_init : ByteArray := prog_3_method_1_code
def yX1_init : MethodName := ⟨RX1, "<init>", "()V"⟩
abbrev cX1_append : ByteArray := prog_3_method_2_code
def yX1_append : MethodName := ⟨RX1, "append", "(C)Z"⟩
abbrev cX1_at : ByteArray := prog_3_method_3_code
def yX1_at : MethodName := ⟨RX1, "at", "(I)C"⟩
abbrev cX1_isFigure : ByteArray := prog_3_method_4_code
def yX1_isFigure : MethodName := ⟨RX1, "isFigure", "(I)Z"⟩
def RX2 : String := "RoofNet$Net"
def TX2 : u_T := fun k => match k with
  | 0 => ("RoofNet$Net", "joints", "I", false)
  | 1 => ("RoofNet$Net", "free", "I", false)
  | 2 => ("RoofNet$Net", "strands", "I", false)
  | 3 => ("RoofNet$Net", "hanging", "I", false)
  | 4 => ("RoofNet$Net", "rollLength", "I", false)
  | 5 => ("RoofNet$Net", "lostPerPiece", "I", false)
  | 6 => ("RoofNet$Net", "told", "[I", true)
  | 7 => ("RoofNet$Net", "loads", "[I", true)
  | 8 => ("RoofNet$Net", "firstEnds", "[I", true)
  | 9 => ("RoofNet$Net", "secondEnds", "[I", true)
  | 10 => ("RoofNet$Net", "densities", "[I", true)
  | _ => ("RoofNet$Net", "wanted", "[I", true)
def tyX2 : Nat → FieldType := fun k => match k with
  | 0 => .int
  | 1 => .int
  | 2 => .int
  | 3 => .int
  | 4 => .int
  | 5 => .int
  | 6 => .array .int
  | 7 => .array .int
  | 8 => .array .int
  | 9 => .array .int
  | 10 => .array .int
  | _ => .array .int
theorem nmX2 : ∀ a, a < 12 → ∀ b, b < 12 → a ≠ b → (TX2 a).2.1 ≠ (TX2 b).2.1 := by decide +kernel
theorem tyX2_ok : ∀ k, k < 12 → parseFieldDescriptor (TX2 k).2.2.1 = some (tyX2 k) := by decide +kernel
abbrev cX2_init : ByteArray := prog_4_method_1_code
def yX2_init : MethodName := ⟨RX2, "<init>", "()V"⟩
abbrev cX2_clear : ByteArray := prog_4_method_2_code
def yX2_clear : MethodName := ⟨RX2, "clear", "()V"⟩
abbrev cX2_copyFrom : ByteArray := prog_4_method_3_code
def yX2_copyFrom : MethodName := ⟨RX2, "copyFrom", "(LRoofNet$Net;)V"⟩
abbrev cX2_addFixed : ByteArray := prog_4_method_4_code
def yX2_addFixed : MethodName := ⟨RX2, "addFixed", "(III)Z"⟩
abbrev cX2_addFree : ByteArray := prog_4_method_5_code
def yX2_addFree : MethodName := ⟨RX2, "addFree", "(I)Z"⟩
abbrev cX2_addStrand : ByteArray := prog_4_method_6_code
def yX2_addStrand : MethodName := ⟨RX2, "addStrand", "(IIII)Z"⟩
abbrev cX2_tellRolls : ByteArray := prog_4_method_7_code
def yX2_tellRolls : MethodName := ⟨RX2, "tellRolls", "(II)Z"⟩
abbrev cX2_takesNoMore : ByteArray := prog_4_method_8_code
def yX2_takesNoMore : MethodName := ⟨RX2, "takesNoMore", "(I)Z"⟩
abbrev cX2_hasJoint : ByteArray := prog_4_method_9_code
def yX2_hasJoint : MethodName := ⟨RX2, "hasJoint", "(I)Z"⟩
abbrev cX2_hasStrand : ByteArray := prog_4_method_10_code
def yX2_hasStrand : MethodName := ⟨RX2, "hasStrand", "(I)Z"⟩
abbrev cX2_isFree : ByteArray := prog_4_method_11_code
def yX2_isFree : MethodName := ⟨RX2, "isFree", "(I)Z"⟩
abbrev cX2_hangs : ByteArray := prog_4_method_12_code
def yX2_hangs : MethodName := ⟨RX2, "hangs", "(I)Z"⟩
abbrev cX2_strandsAt : ByteArray := prog_4_method_13_code
def yX2_strandsAt : MethodName := ⟨RX2, "strandsAt", "(I)I"⟩
abbrev cX2_otherEnd : ByteArray := prog_4_method_14_code
def yX2_otherEnd : MethodName := ⟨RX2, "otherEnd", "(II)I"⟩
abbrev cX2_hungJoints : ByteArray := prog_4_method_15_code
def yX2_hungJoints : MethodName := ⟨RX2, "hungJoints", "(I)I"⟩
abbrev cX2_allHung : ByteArray := prog_4_method_16_code
def yX2_allHung : MethodName := ⟨RX2, "allHung", "()Z"⟩
abbrev cX2_isNeeded : ByteArray := prog_4_method_17_code
def yX2_isNeeded : MethodName := ⟨RX2, "isNeeded", "(I)Z"⟩
abbrev cX2_tellDensitiesAnew : ByteArray := prog_4_method_18_code
def yX2_tellDensitiesAnew : MethodName := ⟨RX2, "tellDensitiesAnew", "([I)Z"⟩
def RX3 : String := "RoofNet$Past"
def TX3 : u_T := fun k => match k with
  | 0 => ("RoofNet$Past", "nets", "[LRoofNet$Net;", true)
  | 1 => ("RoofNet$Past", "next", "I", false)
  | _ => ("RoofNet$Past", "kept", "I", false)
def tyX3 : Nat → FieldType := fun k => match k with
  | 0 => .array (.object "RoofNet$Net")
  | 1 => .int
  | _ => .int
theorem nmX3 : ∀ a, a < 3 → ∀ b, b < 3 → a ≠ b → (TX3 a).2.1 ≠ (TX3 b).2.1 := by decide +kernel
theorem tyX3_ok : ∀ k, k < 3 → parseFieldDescriptor (TX3 k).2.2.1 = some (tyX3 k) := by decide +kernel
abbrev cX3_init : ByteArray := prog_5_method_1_code
def yX3_init : MethodName := ⟨RX3, "<init>", "()V"⟩
abbrev cX3_keep : ByteArray := prog_5_method_2_code
def yX3_keep : MethodName := ⟨RX3, "keep", "(LRoofNet$Net;)V"⟩
abbrev cX3_giveBack : ByteArray := prog_5_method_3_code
def yX3_giveBack : MethodName := ⟨RX3, "giveBack", "(LRoofNet$Net;)Z"⟩
def RX4 : String := "RoofNet$Shape"
def TX4 : u_T := fun k => match k with
  | 0 => ("RoofNet$Shape", "rowOfJoint", "[I", true)
  | 1 => ("RoofNet$Shape", "rows", "[[J", true)
  | 2 => ("RoofNet$Shape", "hundredths", "[I", true)
  | 3 => ("RoofNet$Shape", "lengths", "[I", true)
  | 4 => ("RoofNet$Shape", "unknowns", "I", false)
  | _ => ("RoofNet$Shape", "below", "J", false)
def tyX4 : Nat → FieldType := fun k => match k with
  | 0 => .array .int
  | 1 => .array (.array .long)
  | 2 => .array .int
  | 3 => .array .int
  | 4 => .int
  | _ => .long
theorem nmX4 : ∀ a, a < 6 → ∀ b, b < 6 → a ≠ b → (TX4 a).2.1 ≠ (TX4 b).2.1 := by decide +kernel
theorem tyX4_ok : ∀ k, k < 6 → parseFieldDescriptor (TX4 k).2.2.1 = some (tyX4 k) := by decide +kernel
abbrev cX4_init : ByteArray := prog_6_method_1_code
def yX4_init : MethodName := ⟨RX4, "<init>", "()V"⟩
abbrev cX4_find : ByteArray := prog_6_method_2_code
def yX4_find : MethodName := ⟨RX4, "find", "(LRoofNet$Net;)Z"⟩
abbrev cX4_numberFreeJoints : ByteArray := prog_6_method_3_code
def yX4_numberFreeJoints : MethodName := ⟨RX4, "numberFreeJoints", "(LRoofNet$Net;)V"⟩
abbrev cX4_setUpRows : ByteArray := prog_6_method_4_code
def yX4_setUpRows : MethodName := ⟨RX4, "setUpRows", "(LRoofNet$Net;)V"⟩
abbrev cX4_addPullOn : ByteArray := prog_6_method_5_code
def yX4_addPullOn : MethodName := ⟨RX4, "addPullOn", "(LRoofNet$Net;II)V"⟩
abbrev cX4_eliminate : ByteArray := prog_6_method_6_code
def yX4_eliminate : MethodName := ⟨RX4, "eliminate", "()Z"⟩
abbrev cX4_clearColumn : ByteArray := prog_6_method_7_code
def yX4_clearColumn : MethodName := ⟨RX4, "clearColumn", "(IIJ)V"⟩
abbrev cX4_above : ByteArray := prog_6_method_8_code
def yX4_above : MethodName := ⟨RX4, "above", "(LRoofNet$Net;II)J"⟩
abbrev cX4_tellHundredths : ByteArray := prog_6_method_9_code
def yX4_tellHundredths : MethodName := ⟨RX4, "tellHundredths", "(LRoofNet$Net;)V"⟩
abbrev cX4_tellLengths : ByteArray := prog_6_method_10_code
def yX4_tellLengths : MethodName := ⟨RX4, "tellLengths", "(LRoofNet$Net;)V"⟩
abbrev cX4_wayFrom : ByteArray := prog_6_method_11_code
def yX4_wayFrom : MethodName := ⟨RX4, "wayFrom", "(III)I"⟩
abbrev cX4_wholeRoot : ByteArray := prog_6_method_12_code
def yX4_wholeRoot : MethodName := ⟨RX4, "wholeRoot", "(J)I"⟩
abbrev cX4_isWithinOthers : ByteArray := prog_6_method_13_code
def yX4_isWithinOthers : MethodName := ⟨RX4, "isWithinOthers", "(LRoofNet$Net;I)Z"⟩
abbrev cX4_isBetweenOthers : ByteArray := prog_6_method_14_code
def yX4_isBetweenOthers : MethodName := ⟨RX4, "isBetweenOthers", "(LRoofNet$Net;II)Z"⟩
abbrev cX4_borne : ByteArray := prog_6_method_15_code
def yX4_borne : MethodName := ⟨RX4, "borne", "(LRoofNet$Net;II)I"⟩
abbrev cX4_pull : ByteArray := prog_6_method_16_code
def yX4_pull : MethodName := ⟨RX4, "pull", "(LRoofNet$Net;I)I"⟩
abbrev cX4_off : ByteArray := prog_6_method_17_code
def yX4_off : MethodName := ⟨RX4, "off", "(LRoofNet$Net;I)I"⟩
abbrev cX4_slackStrands : ByteArray := prog_6_method_18_code
def yX4_slackStrands : MethodName := ⟨RX4, "slackStrands", "(LRoofNet$Net;)I"⟩
abbrev cX4_missed : ByteArray := prog_6_method_19_code
def yX4_missed : MethodName := ⟨RX4, "missed", "(LRoofNet$Net;)I"⟩
def RX5 : String := "RoofNet$TextReader"
def TX5 : u_T := fun k => match k with
  | _ => ("RoofNet$TextReader", "numbers", "[I", true)
def tyX5 : Nat → FieldType := fun k => match k with
  | _ => .array .int
theorem nmX5 : ∀ a, a < 1 → ∀ b, b < 1 → a ≠ b → (TX5 a).2.1 ≠ (TX5 b).2.1 := by decide +kernel
theorem tyX5_ok : ∀ k, k < 1 → parseFieldDescriptor (TX5 k).2.2.1 = some (tyX5 k) := by decide +kernel
abbrev cX5_init : ByteArray := prog_7_method_1_code
def yX5_init : MethodName := ⟨RX5, "<init>", "()V"⟩
abbrev cX5_readInto : ByteArray := prog_7_method_2_code
def yX5_readInto : MethodName := ⟨RX5, "readInto", "(LRoofNet$Net;LRoofNet$Letters;)I"⟩
abbrev cX5_takeItem : ByteArray := prog_7_method_3_code
def yX5_takeItem : MethodName := ⟨RX5, "takeItem", "(LRoofNet$Net;LRoofNet$Letters;I)I"⟩
abbrev cX5_numbersOf : ByteArray := prog_7_method_4_code
def yX5_numbersOf : MethodName := ⟨RX5, "numbersOf", "(I)I"⟩
abbrev cX5_takeNumbers : ByteArray := prog_7_method_5_code
def yX5_takeNumbers : MethodName := ⟨RX5, "takeNumbers", "(LRoofNet$Letters;II)I"⟩
abbrev cX5_addItem : ByteArray := prog_7_method_6_code
def yX5_addItem : MethodName := ⟨RX5, "addItem", "(LRoofNet$Net;I)Z"⟩
def RX6 : String := "RoofNet$Trials"
def TX6 : u_T := fun k => match k with
  | 0 => ("RoofNet$Trials", "net", "LRoofNet$Net;", true)
  | 1 => ("RoofNet$Trials", "shape", "LRoofNet$Shape;", true)
  | 2 => ("RoofNet$Trials", "answer", "I", false)
  | _ => ("RoofNet$Trials", "missed", "I", false)
def tyX6 : Nat → FieldType := fun k => match k with
  | 0 => .object "RoofNet$Net"
  | 1 => .object "RoofNet$Shape"
  | 2 => .int
  | _ => .int
theorem nmX6 : ∀ a, a < 4 → ∀ b, b < 4 → a ≠ b → (TX6 a).2.1 ≠ (TX6 b).2.1 := by decide +kernel
theorem tyX6_ok : ∀ k, k < 4 → parseFieldDescriptor (TX6 k).2.2.1 = some (tyX6 k) := by decide +kernel
abbrev cX6_init : ByteArray := prog_8_method_1_code
def yX6_init : MethodName := ⟨RX6, "<init>", "()V"⟩
abbrev cX6_seekRest : ByteArray := prog_8_method_2_code
def yX6_seekRest : MethodName := ⟨RX6, "seekRest", "(LRoofNet$Net;)Z"⟩
abbrev cX6_seekBetter : ByteArray := prog_8_method_3_code
def yX6_seekBetter : MethodName := ⟨RX6, "seekBetter", "(LRoofNet$Net;)Z"⟩
abbrev cX6_tryDensitiesOf : ByteArray := prog_8_method_4_code
def yX6_tryDensitiesOf : MethodName := ⟨RX6, "tryDensitiesOf", "(I)V"⟩
def RX7 : String := "RoofNet"
def TX7 : u_T := fun k => match k with
  | 0 => ("RoofNet", "text", "LRoofNet$Letters;", true)
  | 1 => ("RoofNet", "reader", "LRoofNet$TextReader;", true)
  | 2 => ("RoofNet", "past", "LRoofNet$Past;", true)
  | 3 => ("RoofNet", "shape", "LRoofNet$Shape;", true)
  | 4 => ("RoofNet", "trials", "LRoofNet$Trials;", true)
  | 5 => ("RoofNet", "cutter", "LRoofNet$Cutter;", true)
  | 6 => ("RoofNet", "net", "LRoofNet$Net;", false)
  | _ => ("RoofNet", "draft", "LRoofNet$Net;", false)
def tyX7 : Nat → FieldType := fun k => match k with
  | 0 => .object "RoofNet$Letters"
  | 1 => .object "RoofNet$TextReader"
  | 2 => .object "RoofNet$Past"
  | 3 => .object "RoofNet$Shape"
  | 4 => .object "RoofNet$Trials"
  | 5 => .object "RoofNet$Cutter"
  | 6 => .object "RoofNet$Net"
  | _ => .object "RoofNet$Net"
theorem nmX7 : ∀ a, a < 8 → ∀ b, b < 8 → a ≠ b → (TX7 a).2.1 ≠ (TX7 b).2.1 := by decide +kernel
theorem tyX7_ok : ∀ k, k < 8 → parseFieldDescriptor (TX7 k).2.2.1 = some (tyX7 k) := by decide +kernel
abbrev cX7_init : ByteArray := prog_1_method_1_code
def yX7_init : MethodName := ⟨RX7, "<init>", "()V"⟩
abbrev cX7_write : ByteArray := prog_1_method_2_code
def yX7_write : MethodName := ⟨RX7, "write", "(I)I"⟩
abbrev cX7_wipe : ByteArray := prog_1_method_3_code
def yX7_wipe : MethodName := ⟨RX7, "wipe", "()I"⟩
abbrev cX7_fault : ByteArray := prog_1_method_4_code
def yX7_fault : MethodName := ⟨RX7, "fault", "()I"⟩
abbrev cX7_lay : ByteArray := prog_1_method_5_code
def yX7_lay : MethodName := ⟨RX7, "lay", "()I"⟩
abbrev cX7_density : ByteArray := prog_1_method_6_code
def yX7_density : MethodName := ⟨RX7, "density", "(II)I"⟩
abbrev cX7_want : ByteArray := prog_1_method_7_code
def yX7_want : MethodName := ⟨RX7, "want", "(II)I"⟩
abbrev cX7_load : ByteArray := prog_1_method_8_code
def yX7_load : MethodName := ⟨RX7, "load", "(II)I"⟩
abbrev cX7_move : ByteArray := prog_1_method_9_code
def yX7_move : MethodName := ⟨RX7, "move", "(III)I"⟩
abbrev cX7_down : ByteArray := prog_1_method_10_code
def yX7_down : MethodName := ⟨RX7, "down", "(II)I"⟩
abbrev cX7_round : ByteArray := prog_1_method_11_code
def yX7_round : MethodName := ⟨RX7, "round", "(I)I"⟩
abbrev cX7_undo : ByteArray := prog_1_method_12_code
def yX7_undo : MethodName := ⟨RX7, "undo", "()I"⟩
abbrev cX7_joint : ByteArray := prog_1_method_13_code
def yX7_joint : MethodName := ⟨RX7, "joint", "(II)I"⟩
abbrev cX7_exact : ByteArray := prog_1_method_14_code
def yX7_exact : MethodName := ⟨RX7, "exact", "(III)I"⟩
abbrev cX7_bears : ByteArray := prog_1_method_15_code
def yX7_bears : MethodName := ⟨RX7, "bears", "(II)I"⟩
abbrev cX7_strand : ByteArray := prog_1_method_16_code
def yX7_strand : MethodName := ⟨RX7, "strand", "(II)I"⟩
abbrev cX7_hangingStrand : ByteArray := prog_1_method_17_code
def yX7_hangingStrand : MethodName := ⟨RX7, "hangingStrand", "(II)I"⟩
abbrev cX7_slack : ByteArray := prog_1_method_18_code
def yX7_slack : MethodName := ⟨RX7, "slack", "()I"⟩
abbrev cX7_miss : ByteArray := prog_1_method_19_code
def yX7_miss : MethodName := ⟨RX7, "miss", "()I"⟩
abbrev cX7_settle : ByteArray := prog_1_method_20_code
def yX7_settle : MethodName := ⟨RX7, "settle", "(I)I"⟩
abbrev cX7_better : ByteArray := prog_1_method_21_code
def yX7_better : MethodName := ⟨RX7, "better", "(I)I"⟩
abbrev cX7_greatest : ByteArray := prog_1_method_22_code
def yX7_greatest : MethodName := ⟨RX7, "greatest", "(I)I"⟩
abbrev cX7_rolls : ByteArray := prog_1_method_23_code
def yX7_rolls : MethodName := ⟨RX7, "rolls", "(I)I"⟩
abbrev cX7_rollOf : ByteArray := prog_1_method_24_code
def yX7_rollOf : MethodName := ⟨RX7, "rollOf", "(I)I"⟩
abbrev cX7_count : ByteArray := prog_1_method_25_code
def yX7_count : MethodName := ⟨RX7, "count", "(I)I"⟩
abbrev cX7_isFixedJoint : ByteArray := prog_1_method_26_code
def yX7_isFixedJoint : MethodName := ⟨RX7, "isFixedJoint", "(I)Z"⟩
abbrev cX7_isAxis : ByteArray := prog_1_method_27_code
def yX7_isAxis : MethodName := ⟨RX7, "isAxis", "(I)Z"⟩
abbrev cX7_isWithin : ByteArray := prog_1_method_28_code
def yX7_isWithin : MethodName := ⟨RX7, "isWithin", "(III)Z"⟩
abbrev cX7_greatestShared : ByteArray := prog_1_method_29_code
def yX7_greatestShared : MethodName := ⟨RX7, "greatestShared", "(JJ)J"⟩
def RX8 : String := "RoofNetModel"
def TX8 : u_T := fun k => match k with
  | 0 => ("RoofNetModel", "thrown", "I", false)
  | 1 => ("RoofNetModel", "text", "[B", true)
  | 2 => ("RoofNetModel", "letters", "I", false)
  | 3 => ("RoofNetModel", "s", "[I", true)
  | 4 => ("RoofNetModel", "draft", "[I", true)
  | 5 => ("RoofNetModel", "past", "[I", true)
  | 6 => ("RoofNetModel", "undos", "I", false)
  | 7 => ("RoofNetModel", "spare", "[I", true)
  | 8 => ("RoofNetModel", "at", "I", false)
  | 9 => ("RoofNetModel", "isSo", "Z", false)
  | 10 => ("RoofNetModel", "number", "[I", true)
  | 11 => ("RoofNetModel", "isHung", "[Z", true)
  | 12 => ("RoofNetModel", "table", "[J", true)
  | 13 => ("RoofNetModel", "row", "[I", true)
  | 14 => ("RoofNetModel", "frees", "I", false)
  | 15 => ("RoofNetModel", "lower", "J", false)
  | 16 => ("RoofNetModel", "upper", "[J", true)
  | 17 => ("RoofNetModel", "hundredths", "[I", true)
  | 18 => ("RoofNetModel", "piece", "[I", true)
  | 19 => ("RoofNetModel", "rollOf", "[I", true)
  | 20 => ("RoofNetModel", "left", "[I", true)
  | 21 => ("RoofNetModel", "rolls", "I", false)
  | 22 => ("RoofNetModel", "fewest", "[I", true)
  | _ => ("RoofNetModel", "given", "[I", true)
def tyX8 : Nat → FieldType := fun k => match k with
  | 0 => .int
  | 1 => .array .byte
  | 2 => .int
  | 3 => .array .int
  | 4 => .array .int
  | 5 => .array .int
  | 6 => .int
  | 7 => .array .int
  | 8 => .int
  | 9 => .boolean
  | 10 => .array .int
  | 11 => .array .boolean
  | 12 => .array .long
  | 13 => .array .int
  | 14 => .int
  | 15 => .long
  | 16 => .array .long
  | 17 => .array .int
  | 18 => .array .int
  | 19 => .array .int
  | 20 => .array .int
  | 21 => .int
  | 22 => .array .int
  | _ => .array .int
theorem nmX8 : ∀ a, a < 24 → ∀ b, b < 24 → a ≠ b → (TX8 a).2.1 ≠ (TX8 b).2.1 := by decide +kernel
theorem tyX8_ok : ∀ k, k < 24 → parseFieldDescriptor (TX8 k).2.2.1 = some (tyX8 k) := by decide +kernel
abbrev cX8_init : ByteArray := prog_10_method_1_code
def yX8_init : MethodName := ⟨RX8, "<init>", "()V"⟩
abbrev cX8_fixes : ByteArray := prog_10_method_2_code
def yX8_fixes : MethodName := ⟨RX8, "fixes", "(IIII)V"⟩
abbrev cX8_ties : ByteArray := prog_10_method_3_code
def yX8_ties : MethodName := ⟨RX8, "ties", "(IIIII)V"⟩
abbrev cX8_in : ByteArray := prog_10_method_5_code
def yX8_in : MethodName := ⟨RX8, "in", "(III)Z"⟩
abbrev cX8_write : ByteArray := prog_10_method_6_code
def yX8_write : MethodName := ⟨RX8, "write", "(I)I"⟩
abbrev cX8_wipe : ByteArray := prog_10_method_7_code
def yX8_wipe : MethodName := ⟨RX8, "wipe", "()I"⟩
abbrev cX8_isFigure : ByteArray := prog_10_method_8_code
def yX8_isFigure : MethodName := ⟨RX8, "isFigure", "(I)Z"⟩
abbrev cX8_takes : ByteArray := prog_10_method_9_code
def yX8_takes : MethodName := ⟨RX8, "takes", "(I)V"⟩
abbrev cX8_takesNumber : ByteArray := prog_10_method_10_code
def yX8_takesNumber : MethodName := ⟨RX8, "takesNumber", "(II)I"⟩
abbrev cX8_takesNumbers : ByteArray := prog_10_method_11_code
def yX8_takesNumbers : MethodName := ⟨RX8, "takesNumbers", "(I)V"⟩
abbrev cX8_draftFrees : ByteArray := prog_10_method_12_code
def yX8_draftFrees : MethodName := ⟨RX8, "draftFrees", "()I"⟩
abbrev cX8_takesFixed : ByteArray := prog_10_method_13_code
def yX8_takesFixed : MethodName := ⟨RX8, "takesFixed", "()V"⟩
abbrev cX8_takesFree : ByteArray := prog_10_method_14_code
def yX8_takesFree : MethodName := ⟨RX8, "takesFree", "()V"⟩
abbrev cX8_hasRoom : ByteArray := prog_10_method_15_code
def yX8_hasRoom : MethodName := ⟨RX8, "hasRoom", "(I)Z"⟩
abbrev cX8_isTied : ByteArray := prog_10_method_16_code
def yX8_isTied : MethodName := ⟨RX8, "isTied", "(II)Z"⟩
abbrev cX8_takesStrand : ByteArray := prog_10_method_17_code
def yX8_takesStrand : MethodName := ⟨RX8, "takesStrand", "()V"⟩
abbrev cX8_takesRolls : ByteArray := prog_10_method_18_code
def yX8_takesRolls : MethodName := ⟨RX8, "takesRolls", "()V"⟩
abbrev cX8_reads : ByteArray := prog_10_method_19_code
def yX8_reads : MethodName := ⟨RX8, "reads", "()I"⟩
abbrev cX8_fault : ByteArray := prog_10_method_20_code
def yX8_fault : MethodName := ⟨RX8, "fault", "()I"⟩
abbrev cX8_lay : ByteArray := prog_10_method_21_code
def yX8_lay : MethodName := ⟨RX8, "lay", "()I"⟩
abbrev cX8_isJoint : ByteArray := prog_10_method_22_code
def yX8_isJoint : MethodName := ⟨RX8, "isJoint", "(I)Z"⟩
abbrev cX8_isFree : ByteArray := prog_10_method_23_code
def yX8_isFree : MethodName := ⟨RX8, "isFree", "(I)Z"⟩
abbrev cX8_isStrand : ByteArray := prog_10_method_24_code
def yX8_isStrand : MethodName := ⟨RX8, "isStrand", "(I)Z"⟩
abbrev cX8_of : ByteArray := prog_10_method_25_code
def yX8_of : MethodName := ⟨RX8, "of", "(II)I"⟩
abbrev cX8_hangs : ByteArray := prog_10_method_26_code
def yX8_hangs : MethodName := ⟨RX8, "hangs", "(I)Z"⟩
abbrev cX8_isOf : ByteArray := prog_10_method_27_code
def yX8_isOf : MethodName := ⟨RX8, "isOf", "(II)Z"⟩
abbrev cX8_other : ByteArray := prog_10_method_28_code
def yX8_other : MethodName := ⟨RX8, "other", "(II)I"⟩
abbrev cX8_laysHung : ByteArray := prog_10_method_29_code
def yX8_laysHung : MethodName := ⟨RX8, "laysHung", "(I)Z"⟩
abbrev cX8_laysTable : ByteArray := prog_10_method_30_code
def yX8_laysTable : MethodName := ⟨RX8, "laysTable", "()V"⟩
abbrev cX8_laysEnd : ByteArray := prog_10_method_31_code
def yX8_laysEnd : MethodName := ⟨RX8, "laysEnd", "(II)V"⟩
abbrev cX8_lays : ByteArray := prog_10_method_32_code
def yX8_lays : MethodName := ⟨RX8, "lays", "()Z"⟩
abbrev cX8_down : ByteArray := prog_10_method_33_code
def yX8_down : MethodName := ⟨RX8, "down", "(JJ)J"⟩
abbrev cX8_root : ByteArray := prog_10_method_34_code
def yX8_root : MethodName := ⟨RX8, "root", "(J)J"⟩
abbrev cX8_lengthOf : ByteArray := prog_10_method_35_code
def yX8_lengthOf : MethodName := ⟨RX8, "lengthOf", "(I)I"⟩
abbrev cX8_offOf : ByteArray := prog_10_method_36_code
def yX8_offOf : MethodName := ⟨RX8, "offOf", "(I)I"⟩
abbrev cX8_isAsked : ByteArray := prog_10_method_37_code
def yX8_isAsked : MethodName := ⟨RX8, "isAsked", "(I)Z"⟩
abbrev cX8_missing : ByteArray := prog_10_method_38_code
def yX8_missing : MethodName := ⟨RX8, "missing", "()I"⟩
abbrev cX8_isWithin : ByteArray := prog_10_method_39_code
def yX8_isWithin : MethodName := ⟨RX8, "isWithin", "(I)Z"⟩
abbrev cX8_notes : ByteArray := prog_10_method_40_code
def yX8_notes : MethodName := ⟨RX8, "notes", "()V"⟩
abbrev cX8_becomes : ByteArray := prog_10_method_41_code
def yX8_becomes : MethodName := ⟨RX8, "becomes", "(II)I"⟩
abbrev cX8_density : ByteArray := prog_10_method_42_code
def yX8_density : MethodName := ⟨RX8, "density", "(II)I"⟩
abbrev cX8_want : ByteArray := prog_10_method_43_code
def yX8_want : MethodName := ⟨RX8, "want", "(II)I"⟩
abbrev cX8_load : ByteArray := prog_10_method_44_code
def yX8_load : MethodName := ⟨RX8, "load", "(II)I"⟩
abbrev cX8_move : ByteArray := prog_10_method_45_code
def yX8_move : MethodName := ⟨RX8, "move", "(III)I"⟩
abbrev cX8_hanging : ByteArray := prog_10_method_46_code
def yX8_hanging : MethodName := ⟨RX8, "hanging", "()I"⟩
abbrev cX8_down_ : ByteArray := prog_10_method_47_code
def yX8_down_ : MethodName := ⟨RX8, "down", "(II)I"⟩
abbrev cX8_goesRound : ByteArray := prog_10_method_48_code
def yX8_goesRound : MethodName := ⟨RX8, "goesRound", "()Z"⟩
abbrev cX8_round : ByteArray := prog_10_method_49_code
def yX8_round : MethodName := ⟨RX8, "round", "(I)I"⟩
abbrev cX8_undo : ByteArray := prog_10_method_50_code
def yX8_undo : MethodName := ⟨RX8, "undo", "()I"⟩
abbrev cX8_bitsOf : ByteArray := prog_10_method_51_code
def yX8_bitsOf : MethodName := ⟨RX8, "bitsOf", "(I)I"⟩
abbrev cX8_joint : ByteArray := prog_10_method_52_code
def yX8_joint : MethodName := ⟨RX8, "joint", "(II)I"⟩
abbrev cX8_common : ByteArray := prog_10_method_53_code
def yX8_common : MethodName := ⟨RX8, "common", "(JJ)J"⟩
abbrev cX8_exact : ByteArray := prog_10_method_54_code
def yX8_exact : MethodName := ⟨RX8, "exact", "(III)I"⟩
abbrev cX8_bears : ByteArray := prog_10_method_55_code
def yX8_bears : MethodName := ⟨RX8, "bears", "(II)I"⟩
abbrev cX8_strand : ByteArray := prog_10_method_56_code
def yX8_strand : MethodName := ⟨RX8, "strand", "(II)I"⟩
abbrev cX8_slack : ByteArray := prog_10_method_57_code
def yX8_slack : MethodName := ⟨RX8, "slack", "()I"⟩
abbrev cX8_miss : ByteArray := prog_10_method_58_code
def yX8_miss : MethodName := ⟨RX8, "miss", "()I"⟩
abbrev cX8_settle : ByteArray := prog_10_method_59_code
def yX8_settle : MethodName := ⟨RX8, "settle", "(I)I"⟩
abbrev cX8_better : ByteArray := prog_10_method_60_code
def yX8_better : MethodName := ⟨RX8, "better", "(I)I"⟩
abbrev cX8_greatest : ByteArray := prog_10_method_61_code
def yX8_greatest : MethodName := ⟨RX8, "greatest", "(I)I"⟩
abbrev cX8_laysPieces : ByteArray := prog_10_method_62_code
def yX8_laysPieces : MethodName := ⟨RX8, "laysPieces", "()Z"⟩
abbrev cX8_longest : ByteArray := prog_10_method_63_code
def yX8_longest : MethodName := ⟨RX8, "longest", "()I"⟩
abbrev cX8_firstFit : ByteArray := prog_10_method_64_code
def yX8_firstFit : MethodName := ⟨RX8, "firstFit", "()V"⟩
abbrev cX8_fewestRolls : ByteArray := prog_10_method_65_code
def yX8_fewestRolls : MethodName := ⟨RX8, "fewestRolls", "()I"⟩
abbrev cX8_joins : ByteArray := prog_10_method_66_code
def yX8_joins : MethodName := ⟨RX8, "joins", "(III)V"⟩
abbrev cX8_rolls : ByteArray := prog_10_method_67_code
def yX8_rolls : MethodName := ⟨RX8, "rolls", "(I)I"⟩
abbrev cX8_rollOf : ByteArray := prog_10_method_68_code
def yX8_rollOf : MethodName := ⟨RX8, "rollOf", "(I)I"⟩
abbrev cX8_count : ByteArray := prog_10_method_69_code
def yX8_count : MethodName := ⟨RX8, "count", "(I)I"⟩
def RJ6 : String := "java/lang/Integer"
def TJ6 : u_T := fun k => match k with
  | _ => ("", "", "", false)
def tyJ6 : Nat → FieldType := fun k => match k with
  | _ => .int
theorem nmJ6 : ∀ a, a < 0 → ∀ b, b < 0 → a ≠ b → (TJ6 a).2.1 ≠ (TJ6 b).2.1 := by decide +kernel
theorem tyJ6_ok : ∀ k, k < 0 → parseFieldDescriptor (TJ6 k).2.2.1 = some (tyJ6 k) := by decide +kernel
abbrev cJ6_compare_7cf53 : ByteArray := prog_11_method_40_code
def yJ6_compare_7cf53 : MethodName := ⟨RJ6, "compare", "(II)I"⟩
abbrev cJ6_bitCount_0f7a4 : ByteArray := prog_11_method_49_code
def yJ6_bitCount_0f7a4 : MethodName := ⟨RJ6, "bitCount", "(I)I"⟩
def RJ9 : String := "java/lang/Math"
def TJ9 : u_T := fun k => match k with
  | _ => ("", "", "", false)
def tyJ9 : Nat → FieldType := fun k => match k with
  | _ => .int
theorem nmJ9 : ∀ a, a < 0 → ∀ b, b < 0 → a ≠ b → (TJ9 a).2.1 ≠ (TJ9 b).2.1 := by decide +kernel
theorem tyJ9_ok : ∀ k, k < 0 → parseFieldDescriptor (TJ9 k).2.2.1 = some (tyJ9 k) := by decide +kernel
abbrev cJ9_floorDiv_f86c9 : ByteArray := prog_12_method_49_code
def yJ9_floorDiv_f86c9 : MethodName := ⟨RJ9, "floorDiv", "(JJ)J"⟩
abbrev cJ9_abs_0f7a4 : ByteArray := prog_12_method_59_code
def yJ9_abs_0f7a4 : MethodName := ⟨RJ9, "abs", "(I)I"⟩
abbrev cJ9_abs_067f4 : ByteArray := prog_12_method_61_code
def yJ9_abs_067f4 : MethodName := ⟨RJ9, "abs", "(J)J"⟩
abbrev cJ9_max_7cf53 : ByteArray := prog_12_method_65_code
def yJ9_max_7cf53 : MethodName := ⟨RJ9, "max", "(II)I"⟩
abbrev cJ9_max_f86c9 : ByteArray := prog_12_method_66_code
def yJ9_max_f86c9 : MethodName := ⟨RJ9, "max", "(JJ)J"⟩
abbrev cJ9_min_7cf53 : ByteArray := prog_12_method_69_code
def yJ9_min_7cf53 : MethodName := ⟨RJ9, "min", "(II)I"⟩
def RJ0 : String := "java/lang/String"
def TJ0 : u_T := fun k => match k with
  | _ => ("", "", "", false)
def tyJ0 : Nat → FieldType := fun k => match k with
  | _ => .int
theorem nmJ0 : ∀ a, a < 0 → ∀ b, b < 0 → a ≠ b → (TJ0 a).2.1 ≠ (TJ0 b).2.1 := by decide +kernel
theorem tyJ0_ok : ∀ k, k < 0 → parseFieldDescriptor (TJ0 k).2.2.1 = some (tyJ0 k) := by decide +kernel
abbrev cJ0_length_8abf5 : ByteArray := prog_13_method_54_code
def yJ0_length_8abf5 : MethodName := ⟨RJ0, "length", "()I"⟩
abbrev cJ0_charAt_5068e : ByteArray := prog_13_method_56_code
def yJ0_charAt_5068e : MethodName := ⟨RJ0, "charAt", "(I)C"⟩
abbrev cJ0_coder_7d493 : ByteArray := prog_13_method_152_code
def yJ0_coder_7d493 : MethodName := ⟨RJ0, "coder", "()B"⟩
abbrev cJ0_isLatin1_aae02 : ByteArray := prog_13_method_154_code
def yJ0_isLatin1_aae02 : MethodName := ⟨RJ0, "isLatin1", "()Z"⟩
abbrev cJ0_checkIndex_df160 : ByteArray := prog_13_method_155_code
def yJ0_checkIndex_df160 : MethodName := ⟨RJ0, "checkIndex", "(II)V"⟩
def RJ1 : String := "java/lang/StringLatin1"
def TJ1 : u_T := fun k => match k with
  | _ => ("", "", "", false)
def tyJ1 : Nat → FieldType := fun k => match k with
  | _ => .int
theorem nmJ1 : ∀ a, a < 0 → ∀ b, b < 0 → a ≠ b → (TJ1 a).2.1 ≠ (TJ1 b).2.1 := by decide +kernel
theorem tyJ1_ok : ∀ k, k < 0 → parseFieldDescriptor (TJ1 k).2.2.1 = some (tyJ1 k) := by decide +kernel
abbrev cJ1_charAt_3b067 : ByteArray := prog_14_method_2_code
def yJ1_charAt_3b067 : MethodName := ⟨RJ1, "charAt", "([BI)C"⟩
def RJ2 : String := "java/lang/StringUTF16"
def TJ2 : u_T := fun k => match k with
  | _ => ("", "", "", false)
def tyJ2 : Nat → FieldType := fun k => match k with
  | _ => .int
theorem nmJ2 : ∀ a, a < 0 → ∀ b, b < 0 → a ≠ b → (TJ2 a).2.1 ≠ (TJ2 b).2.1 := by decide +kernel
theorem tyJ2_ok : ∀ k, k < 0 → parseFieldDescriptor (TJ2 k).2.2.1 = some (tyJ2 k) := by decide +kernel
abbrev cJ2_getChar_3b067 : ByteArray := prog_15_method_5_code
def yJ2_getChar_3b067 : MethodName := ⟨RJ2, "getChar", "([BI)C"⟩
abbrev cJ2_length_9d52b : ByteArray := prog_15_method_6_code
def yJ2_length_9d52b : MethodName := ⟨RJ2, "length", "([B)I"⟩
abbrev cJ2_charAt_3b067 : ByteArray := prog_15_method_83_code
def yJ2_charAt_3b067 : MethodName := ⟨RJ2, "charAt", "([BI)C"⟩
abbrev cJ2_checkIndex_2214a : ByteArray := prog_15_method_91_code
def yJ2_checkIndex_2214a : MethodName := ⟨RJ2, "checkIndex", "(I[B)V"⟩
def RJ10 : String := "java/lang/System"
def TJ10 : u_T := fun k => match k with
  | _ => ("", "", "", false)
def tyJ10 : Nat → FieldType := fun k => match k with
  | _ => .int
theorem nmJ10 : ∀ a, a < 0 → ∀ b, b < 0 → a ≠ b → (TJ10 a).2.1 ≠ (TJ10 b).2.1 := by decide +kernel
theorem tyJ10_ok : ∀ k, k < 0 → parseFieldDescriptor (TJ10 k).2.2.1 = some (tyJ10 k) := by decide +kernel
def RJ3 : String := "jdk/internal/util/Preconditions"
def TJ3 : u_T := fun k => match k with
  | _ => ("", "", "", false)
def tyJ3 : Nat → FieldType := fun k => match k with
  | _ => .int
theorem nmJ3 : ∀ a, a < 0 → ∀ b, b < 0 → a ≠ b → (TJ3 a).2.1 ≠ (TJ3 b).2.1 := by decide +kernel
theorem tyJ3_ok : ∀ k, k < 0 → parseFieldDescriptor (TJ3 k).2.2.1 = some (tyJ3 k) := by decide +kernel
abbrev cJ3_checkIndex_8e157 : ByteArray := prog_17_method_11_code
def yJ3_checkIndex_8e157 : MethodName := ⟨RJ3, "checkIndex", "(IILjava/util/function/BiFunction;)I"⟩
def RL : String := "RoofNetLaw"
abbrev cL_law : ByteArray := code
def yL_law : MethodName := ⟨RL, "law", "([I)Z"⟩
end
section
theorem dX0_init_0 : decode cX0_init 0 = .ok (.aload_n 0, 1) := by decide +kernel
theorem dX0_init_1 : decode cX0_init 1 = .ok (.invokespecial 3, 3) := by decide +kernel
theorem dX0_init_4 : decode cX0_init 4 = .ok (.aload_n 0, 1) := by decide +kernel
theorem dX0_init_5 : decode cX0_init 5 = .ok (.bipush 14, 2) := by decide +kernel
theorem dX0_init_7 : decode cX0_init 7 = .ok (.newarray .int, 2) := by decide +kernel
theorem dX0_init_9 : decode cX0_init 9 = .ok (.putfield 9, 3) := by decide +kernel
theorem dX0_init_12 : decode cX0_init 12 = .ok (.aload_n 0, 1) := by decide +kernel
theorem dX0_init_13 : decode cX0_init 13 = .ok (.bipush 14, 2) := by decide +kernel
theorem dX0_init_15 : decode cX0_init 15 = .ok (.newarray .int, 2) := by decide +kernel
theorem dX0_init_17 : decode cX0_init 17 = .ok (.putfield 15, 3) := by decide +kernel
theorem dX0_init_20 : decode cX0_init 20 = .ok (.aload_n 0, 1) := by decide +kernel
theorem dX0_init_21 : decode cX0_init 21 = .ok (.bipush 14, 2) := by decide +kernel
theorem dX0_init_23 : decode cX0_init 23 = .ok (.newarray .int, 2) := by decide +kernel
theorem dX0_init_25 : decode cX0_init 25 = .ok (.putfield 18, 3) := by decide +kernel
theorem dX0_init_28 : decode cX0_init 28 = .ok (.aload_n 0, 1) := by decide +kernel
theorem dX0_init_29 : decode cX0_init 29 = .ok (.bipush 14, 2) := by decide +kernel
theorem dX0_init_31 : decode cX0_init 31 = .ok (.newarray .int, 2) := by decide +kernel
theorem dX0_init_33 : decode cX0_init 33 = .ok (.putfield 21, 3) := by decide +kernel
theorem dX0_init_36 : decode cX0_init 36 = .ok (.aload_n 0, 1) := by decide +kernel
theorem dX0_init_37 : decode cX0_init 37 = .ok (.bipush 14, 2) := by decide +kernel
theorem dX0_init_39 : decode cX0_init 39 = .ok (.newarray .int, 2) := by decide +kernel
theorem dX0_init_41 : decode cX0_init 41 = .ok (.putfield 24, 3) := by decide +kernel
theorem dX0_init_44 : decode cX0_init 44 = .ok (.return_, 1) := by decide +kernel
theorem dX0_firstFit_0 : decode cX0_firstFit 0 = .ok (.aload_n 0, 1) := by decide +kernel
theorem dX0_firstFit_1 : decode cX0_firstFit 1 = .ok (.bipush 100, 2) := by decide +kernel
theorem dX0_firstFit_3 : decode cX0_firstFit 3 = .ok (.aload_n 1, 1) := by decide +kernel
theorem dX0_firstFit_4 : decode cX0_firstFit 4 = .ok (.getfield 27, 3) := by decide +kernel
theorem dX0_firstFit_7 : decode cX0_firstFit 7 = .ok (.imul, 1) := by decide +kernel
theorem dX0_firstFit_8 : decode cX0_firstFit 8 = .ok (.putfield 33, 3) := by decide +kernel
theorem dX0_firstFit_11 : decode cX0_firstFit 11 = .ok (.aload_n 0, 1) := by decide +kernel
theorem dX0_firstFit_12 : decode cX0_firstFit 12 = .ok (.iconst 0, 1) := by decide +kernel
theorem dX0_firstFit_13 : decode cX0_firstFit 13 = .ok (.putfield 36, 3) := by decide +kernel
theorem dX0_firstFit_16 : decode cX0_firstFit 16 = .ok (.aload_n 0, 1) := by decide +kernel
theorem dX0_firstFit_17 : decode cX0_firstFit 17 = .ok (.aload_n 1, 1) := by decide +kernel
theorem dX0_firstFit_18 : decode cX0_firstFit 18 = .ok (.aload_n 2, 1) := by decide +kernel
theorem dX0_firstFit_19 : decode cX0_firstFit 19 = .ok (.invokevirtual 39, 3) := by decide +kernel
theorem dX0_firstFit_22 : decode cX0_firstFit 22 = .ok (.iconst 0, 1) := by decide +kernel
theorem dX0_firstFit_23 : decode cX0_firstFit 23 = .ok (.istore_n 3, 1) := by decide +kernel
theorem dX0_firstFit_24 : decode cX0_firstFit 24 = .ok (.iload_n 3, 1) := by decide +kernel
theorem dX0_firstFit_25 : decode cX0_firstFit 25 = .ok (.aload_n 0, 1) := by decide +kernel
theorem dX0_firstFit_26 : decode cX0_firstFit 26 = .ok (.getfield 43, 3) := by decide +kernel
theorem dX0_firstFit_29 : decode cX0_firstFit 29 = .ok (.if_icmp .ge 77, 3) := by decide +kernel
theorem dX0_firstFit_32 : decode cX0_firstFit 32 = .ok (.aload_n 0, 1) := by decide +kernel
theorem dX0_firstFit_33 : decode cX0_firstFit 33 = .ok (.getfield 9, 3) := by decide +kernel
theorem dX0_firstFit_36 : decode cX0_firstFit 36 = .ok (.iload_n 3, 1) := by decide +kernel
theorem dX0_firstFit_37 : decode cX0_firstFit 37 = .ok (.iaload, 1) := by decide +kernel
theorem dX0_firstFit_38 : decode cX0_firstFit 38 = .ok (.istore 4, 2) := by decide +kernel
theorem dX0_firstFit_40 : decode cX0_firstFit 40 = .ok (.aload_n 2, 1) := by decide +kernel
theorem dX0_firstFit_41 : decode cX0_firstFit 41 = .ok (.iload 4, 2) := by decide +kernel
theorem dX0_firstFit_43 : decode cX0_firstFit 43 = .ok (.iaload, 1) := by decide +kernel
theorem dX0_firstFit_44 : decode cX0_firstFit 44 = .ok (.aload_n 1, 1) := by decide +kernel
theorem dX0_firstFit_45 : decode cX0_firstFit 45 = .ok (.getfield 46, 3) := by decide +kernel
theorem dX0_firstFit_48 : decode cX0_firstFit 48 = .ok (.iadd, 1) := by decide +kernel
theorem dX0_firstFit_49 : decode cX0_firstFit 49 = .ok (.istore 5, 2) := by decide +kernel
theorem dX0_firstFit_51 : decode cX0_firstFit 51 = .ok (.iload 5, 2) := by decide +kernel
theorem dX0_firstFit_53 : decode cX0_firstFit 53 = .ok (.aload_n 0, 1) := by decide +kernel
theorem dX0_firstFit_54 : decode cX0_firstFit 54 = .ok (.getfield 33, 3) := by decide +kernel
theorem dX0_firstFit_57 : decode cX0_firstFit 57 = .ok (.if_icmp .le 5, 3) := by decide +kernel
theorem dX0_firstFit_60 : decode cX0_firstFit 60 = .ok (.iconst 0, 1) := by decide +kernel
theorem dX0_firstFit_61 : decode cX0_firstFit 61 = .ok (.ireturn, 1) := by decide +kernel
theorem dX0_firstFit_62 : decode cX0_firstFit 62 = .ok (.aload_n 0, 1) := by decide +kernel
theorem dX0_firstFit_63 : decode cX0_firstFit 63 = .ok (.getfield 15, 3) := by decide +kernel
theorem dX0_firstFit_66 : decode cX0_firstFit 66 = .ok (.iload_n 3, 1) := by decide +kernel
theorem dX0_firstFit_67 : decode cX0_firstFit 67 = .ok (.iload 5, 2) := by decide +kernel
theorem dX0_firstFit_69 : decode cX0_firstFit 69 = .ok (.iastore, 1) := by decide +kernel
theorem dX0_firstFit_70 : decode cX0_firstFit 70 = .ok (.aload_n 0, 1) := by decide +kernel
theorem dX0_firstFit_71 : decode cX0_firstFit 71 = .ok (.getfield 21, 3) := by decide +kernel
theorem dX0_firstFit_74 : decode cX0_firstFit 74 = .ok (.iload 4, 2) := by decide +kernel
theorem dX0_firstFit_76 : decode cX0_firstFit 76 = .ok (.aload_n 0, 1) := by decide +kernel
theorem dX0_firstFit_77 : decode cX0_firstFit 77 = .ok (.iload 5, 2) := by decide +kernel
theorem dX0_firstFit_79 : decode cX0_firstFit 79 = .ok (.invokevirtual 49, 3) := by decide +kernel
theorem dX0_firstFit_82 : decode cX0_firstFit 82 = .ok (.iastore, 1) := by decide +kernel
theorem dX0_firstFit_83 : decode cX0_firstFit 83 = .ok (.aload_n 0, 1) := by decide +kernel
theorem dX0_firstFit_84 : decode cX0_firstFit 84 = .ok (.getfield 18, 3) := by decide +kernel
theorem dX0_firstFit_87 : decode cX0_firstFit 87 = .ok (.aload_n 0, 1) := by decide +kernel
theorem dX0_firstFit_88 : decode cX0_firstFit 88 = .ok (.getfield 21, 3) := by decide +kernel
theorem dX0_firstFit_91 : decode cX0_firstFit 91 = .ok (.iload 4, 2) := by decide +kernel
theorem dX0_firstFit_93 : decode cX0_firstFit 93 = .ok (.iaload, 1) := by decide +kernel
theorem dX0_firstFit_94 : decode cX0_firstFit 94 = .ok (.dup2, 1) := by decide +kernel
theorem dX0_firstFit_95 : decode cX0_firstFit 95 = .ok (.iaload, 1) := by decide +kernel
theorem dX0_firstFit_96 : decode cX0_firstFit 96 = .ok (.iload 5, 2) := by decide +kernel
theorem dX0_firstFit_98 : decode cX0_firstFit 98 = .ok (.isub, 1) := by decide +kernel
theorem dX0_firstFit_99 : decode cX0_firstFit 99 = .ok (.iastore, 1) := by decide +kernel
theorem dX0_firstFit_100 : decode cX0_firstFit 100 = .ok (.iinc 3 1, 3) := by decide +kernel
theorem dX0_firstFit_103 : decode cX0_firstFit 103 = .ok (.goto (-79), 3) := by decide +kernel
theorem dX0_firstFit_106 : decode cX0_firstFit 106 = .ok (.iconst 1, 1) := by decide +kernel
theorem dX0_firstFit_107 : decode cX0_firstFit 107 = .ok (.ireturn, 1) := by decide +kernel
theorem dX0_sortPieces_0 : decode cX0_sortPieces 0 = .ok (.aload_n 0, 1) := by decide +kernel
theorem dX0_sortPieces_1 : decode cX0_sortPieces 1 = .ok (.iconst 0, 1) := by decide +kernel
theorem dX0_sortPieces_2 : decode cX0_sortPieces 2 = .ok (.putfield 43, 3) := by decide +kernel
theorem dX0_sortPieces_5 : decode cX0_sortPieces 5 = .ok (.iconst 0, 1) := by decide +kernel
theorem dX0_sortPieces_6 : decode cX0_sortPieces 6 = .ok (.istore_n 3, 1) := by decide +kernel
theorem dX0_sortPieces_7 : decode cX0_sortPieces 7 = .ok (.iload_n 3, 1) := by decide +kernel
theorem dX0_sortPieces_8 : decode cX0_sortPieces 8 = .ok (.aload_n 1, 1) := by decide +kernel
theorem dX0_sortPieces_9 : decode cX0_sortPieces 9 = .ok (.getfield 53, 3) := by decide +kernel
theorem dX0_sortPieces_12 : decode cX0_sortPieces 12 = .ok (.if_icmp .ge 88, 3) := by decide +kernel
theorem dX0_sortPieces_15 : decode cX0_sortPieces 15 = .ok (.aload_n 1, 1) := by decide +kernel
theorem dX0_sortPieces_16 : decode cX0_sortPieces 16 = .ok (.iload_n 3, 1) := by decide +kernel
theorem dX0_sortPieces_17 : decode cX0_sortPieces 17 = .ok (.invokevirtual 56, 3) := by decide +kernel
theorem dX0_sortPieces_20 : decode cX0_sortPieces 20 = .ok (.ifCond .ne 6, 3) := by decide +kernel
theorem dX0_sortPieces_23 : decode cX0_sortPieces 23 = .ok (.goto 71, 3) := by decide +kernel
theorem dX0_sortPieces_26 : decode cX0_sortPieces 26 = .ok (.aload_n 0, 1) := by decide +kernel
theorem dX0_sortPieces_27 : decode cX0_sortPieces 27 = .ok (.getfield 43, 3) := by decide +kernel
theorem dX0_sortPieces_30 : decode cX0_sortPieces 30 = .ok (.istore 4, 2) := by decide +kernel
theorem dX0_sortPieces_32 : decode cX0_sortPieces 32 = .ok (.iload 4, 2) := by decide +kernel
theorem dX0_sortPieces_34 : decode cX0_sortPieces 34 = .ok (.ifCond .le 42, 3) := by decide +kernel
theorem dX0_sortPieces_37 : decode cX0_sortPieces 37 = .ok (.aload_n 2, 1) := by decide +kernel
theorem dX0_sortPieces_38 : decode cX0_sortPieces 38 = .ok (.aload_n 0, 1) := by decide +kernel
theorem dX0_sortPieces_39 : decode cX0_sortPieces 39 = .ok (.getfield 9, 3) := by decide +kernel
theorem dX0_sortPieces_42 : decode cX0_sortPieces 42 = .ok (.iload 4, 2) := by decide +kernel
theorem dX0_sortPieces_44 : decode cX0_sortPieces 44 = .ok (.iconst 1, 1) := by decide +kernel
theorem dX0_sortPieces_45 : decode cX0_sortPieces 45 = .ok (.isub, 1) := by decide +kernel
theorem dX0_sortPieces_46 : decode cX0_sortPieces 46 = .ok (.iaload, 1) := by decide +kernel
theorem dX0_sortPieces_47 : decode cX0_sortPieces 47 = .ok (.iaload, 1) := by decide +kernel
theorem dX0_sortPieces_48 : decode cX0_sortPieces 48 = .ok (.aload_n 2, 1) := by decide +kernel
theorem dX0_sortPieces_49 : decode cX0_sortPieces 49 = .ok (.iload_n 3, 1) := by decide +kernel
theorem dX0_sortPieces_50 : decode cX0_sortPieces 50 = .ok (.iaload, 1) := by decide +kernel
theorem dX0_sortPieces_51 : decode cX0_sortPieces 51 = .ok (.if_icmp .ge 25, 3) := by decide +kernel
theorem dX0_sortPieces_54 : decode cX0_sortPieces 54 = .ok (.aload_n 0, 1) := by decide +kernel
theorem dX0_sortPieces_55 : decode cX0_sortPieces 55 = .ok (.getfield 9, 3) := by decide +kernel
theorem dX0_sortPieces_58 : decode cX0_sortPieces 58 = .ok (.iload 4, 2) := by decide +kernel
theorem dX0_sortPieces_60 : decode cX0_sortPieces 60 = .ok (.aload_n 0, 1) := by decide +kernel
theorem dX0_sortPieces_61 : decode cX0_sortPieces 61 = .ok (.getfield 9, 3) := by decide +kernel
theorem dX0_sortPieces_64 : decode cX0_sortPieces 64 = .ok (.iload 4, 2) := by decide +kernel
theorem dX0_sortPieces_66 : decode cX0_sortPieces 66 = .ok (.iconst 1, 1) := by decide +kernel
theorem dX0_sortPieces_67 : decode cX0_sortPieces 67 = .ok (.isub, 1) := by decide +kernel
theorem dX0_sortPieces_68 : decode cX0_sortPieces 68 = .ok (.iaload, 1) := by decide +kernel
theorem dX0_sortPieces_69 : decode cX0_sortPieces 69 = .ok (.iastore, 1) := by decide +kernel
theorem dX0_sortPieces_70 : decode cX0_sortPieces 70 = .ok (.iinc 4 (-1), 3) := by decide +kernel
theorem dX0_sortPieces_73 : decode cX0_sortPieces 73 = .ok (.goto (-41), 3) := by decide +kernel
theorem dX0_sortPieces_76 : decode cX0_sortPieces 76 = .ok (.aload_n 0, 1) := by decide +kernel
theorem dX0_sortPieces_77 : decode cX0_sortPieces 77 = .ok (.getfield 9, 3) := by decide +kernel
theorem dX0_sortPieces_80 : decode cX0_sortPieces 80 = .ok (.iload 4, 2) := by decide +kernel
theorem dX0_sortPieces_82 : decode cX0_sortPieces 82 = .ok (.iload_n 3, 1) := by decide +kernel
theorem dX0_sortPieces_83 : decode cX0_sortPieces 83 = .ok (.iastore, 1) := by decide +kernel
theorem dX0_sortPieces_84 : decode cX0_sortPieces 84 = .ok (.aload_n 0, 1) := by decide +kernel
theorem dX0_sortPieces_85 : decode cX0_sortPieces 85 = .ok (.dup, 1) := by decide +kernel
theorem dX0_sortPieces_86 : decode cX0_sortPieces 86 = .ok (.getfield 43, 3) := by decide +kernel
theorem dX0_sortPieces_89 : decode cX0_sortPieces 89 = .ok (.iconst 1, 1) := by decide +kernel
theorem dX0_sortPieces_90 : decode cX0_sortPieces 90 = .ok (.iadd, 1) := by decide +kernel
theorem dX0_sortPieces_91 : decode cX0_sortPieces 91 = .ok (.putfield 43, 3) := by decide +kernel
theorem dX0_sortPieces_94 : decode cX0_sortPieces 94 = .ok (.iinc 3 1, 3) := by decide +kernel
theorem dX0_sortPieces_97 : decode cX0_sortPieces 97 = .ok (.goto (-90), 3) := by decide +kernel
theorem dX0_sortPieces_100 : decode cX0_sortPieces 100 = .ok (.return_, 1) := by decide +kernel
theorem dX0_rollWith_0 : decode cX0_rollWith 0 = .ok (.iconst 0, 1) := by decide +kernel
theorem dX0_rollWith_1 : decode cX0_rollWith 1 = .ok (.istore_n 2, 1) := by decide +kernel
theorem dX0_rollWith_2 : decode cX0_rollWith 2 = .ok (.iload_n 2, 1) := by decide +kernel
theorem dX0_rollWith_3 : decode cX0_rollWith 3 = .ok (.aload_n 0, 1) := by decide +kernel
theorem dX0_rollWith_4 : decode cX0_rollWith 4 = .ok (.getfield 36, 3) := by decide +kernel
theorem dX0_rollWith_7 : decode cX0_rollWith 7 = .ok (.if_icmp .ge 21, 3) := by decide +kernel
theorem dX0_rollWith_10 : decode cX0_rollWith 10 = .ok (.aload_n 0, 1) := by decide +kernel
theorem dX0_rollWith_11 : decode cX0_rollWith 11 = .ok (.getfield 18, 3) := by decide +kernel
theorem dX0_rollWith_14 : decode cX0_rollWith 14 = .ok (.iload_n 2, 1) := by decide +kernel
theorem dX0_rollWith_15 : decode cX0_rollWith 15 = .ok (.iaload, 1) := by decide +kernel
theorem dX0_rollWith_16 : decode cX0_rollWith 16 = .ok (.iload_n 1, 1) := by decide +kernel
theorem dX0_rollWith_17 : decode cX0_rollWith 17 = .ok (.if_icmp .lt 5, 3) := by decide +kernel
theorem dX0_rollWith_20 : decode cX0_rollWith 20 = .ok (.iload_n 2, 1) := by decide +kernel
theorem dX0_rollWith_21 : decode cX0_rollWith 21 = .ok (.ireturn, 1) := by decide +kernel
theorem dX0_rollWith_22 : decode cX0_rollWith 22 = .ok (.iinc 2 1, 3) := by decide +kernel
theorem dX0_rollWith_25 : decode cX0_rollWith 25 = .ok (.goto (-23), 3) := by decide +kernel
theorem dX0_rollWith_28 : decode cX0_rollWith 28 = .ok (.aload_n 0, 1) := by decide +kernel
theorem dX0_rollWith_29 : decode cX0_rollWith 29 = .ok (.getfield 36, 3) := by decide +kernel
theorem dX0_rollWith_32 : decode cX0_rollWith 32 = .ok (.bipush 13, 2) := by decide +kernel
theorem dX0_rollWith_34 : decode cX0_rollWith 34 = .ok (.invokestatic 60, 3) := by decide +kernel
theorem dX0_rollWith_37 : decode cX0_rollWith 37 = .ok (.istore_n 2, 1) := by decide +kernel
theorem dX0_rollWith_38 : decode cX0_rollWith 38 = .ok (.aload_n 0, 1) := by decide +kernel
theorem dX0_rollWith_39 : decode cX0_rollWith 39 = .ok (.getfield 18, 3) := by decide +kernel
theorem dX0_rollWith_42 : decode cX0_rollWith 42 = .ok (.iload_n 2, 1) := by decide +kernel
theorem dX0_rollWith_43 : decode cX0_rollWith 43 = .ok (.aload_n 0, 1) := by decide +kernel
theorem dX0_rollWith_44 : decode cX0_rollWith 44 = .ok (.getfield 33, 3) := by decide +kernel
theorem dX0_rollWith_47 : decode cX0_rollWith 47 = .ok (.iastore, 1) := by decide +kernel
theorem dX0_rollWith_48 : decode cX0_rollWith 48 = .ok (.aload_n 0, 1) := by decide +kernel
theorem dX0_rollWith_49 : decode cX0_rollWith 49 = .ok (.iload_n 2, 1) := by decide +kernel
theorem dX0_rollWith_50 : decode cX0_rollWith 50 = .ok (.iconst 1, 1) := by decide +kernel
theorem dX0_rollWith_51 : decode cX0_rollWith 51 = .ok (.iadd, 1) := by decide +kernel
theorem dX0_rollWith_52 : decode cX0_rollWith 52 = .ok (.putfield 36, 3) := by decide +kernel
theorem dX0_rollWith_55 : decode cX0_rollWith 55 = .ok (.iload_n 2, 1) := by decide +kernel
theorem dX0_rollWith_56 : decode cX0_rollWith 56 = .ok (.ireturn, 1) := by decide +kernel
theorem dX0_leftOver_0 : decode cX0_leftOver 0 = .ok (.iconst 0, 1) := by decide +kernel
theorem dX0_leftOver_1 : decode cX0_leftOver 1 = .ok (.istore_n 1, 1) := by decide +kernel
theorem dX0_leftOver_2 : decode cX0_leftOver 2 = .ok (.iconst 0, 1) := by decide +kernel
theorem dX0_leftOver_3 : decode cX0_leftOver 3 = .ok (.istore_n 2, 1) := by decide +kernel
theorem dX0_leftOver_4 : decode cX0_leftOver 4 = .ok (.iload_n 2, 1) := by decide +kernel
theorem dX0_leftOver_5 : decode cX0_leftOver 5 = .ok (.aload_n 0, 1) := by decide +kernel
theorem dX0_leftOver_6 : decode cX0_leftOver 6 = .ok (.getfield 36, 3) := by decide +kernel
theorem dX0_leftOver_9 : decode cX0_leftOver 9 = .ok (.if_icmp .ge 18, 3) := by decide +kernel
theorem dX0_leftOver_12 : decode cX0_leftOver 12 = .ok (.iload_n 1, 1) := by decide +kernel
theorem dX0_leftOver_13 : decode cX0_leftOver 13 = .ok (.aload_n 0, 1) := by decide +kernel
theorem dX0_leftOver_14 : decode cX0_leftOver 14 = .ok (.getfield 18, 3) := by decide +kernel
theorem dX0_leftOver_17 : decode cX0_leftOver 17 = .ok (.iload_n 2, 1) := by decide +kernel
theorem dX0_leftOver_18 : decode cX0_leftOver 18 = .ok (.iaload, 1) := by decide +kernel
theorem dX0_leftOver_19 : decode cX0_leftOver 19 = .ok (.iadd, 1) := by decide +kernel
theorem dX0_leftOver_20 : decode cX0_leftOver 20 = .ok (.istore_n 1, 1) := by decide +kernel
theorem dX0_leftOver_21 : decode cX0_leftOver 21 = .ok (.iinc 2 1, 3) := by decide +kernel
theorem dX0_leftOver_24 : decode cX0_leftOver 24 = .ok (.goto (-20), 3) := by decide +kernel
theorem dX0_leftOver_27 : decode cX0_leftOver 27 = .ok (.iload_n 1, 1) := by decide +kernel
theorem dX0_leftOver_28 : decode cX0_leftOver 28 = .ok (.ireturn, 1) := by decide +kernel
theorem dX0_fewest_0 : decode cX0_fewest 0 = .ok (.aload_n 0, 1) := by decide +kernel
theorem dX0_fewest_1 : decode cX0_fewest 1 = .ok (.getfield 36, 3) := by decide +kernel
theorem dX0_fewest_4 : decode cX0_fewest 4 = .ok (.aload_n 0, 1) := by decide +kernel
theorem dX0_fewest_5 : decode cX0_fewest 5 = .ok (.getfield 33, 3) := by decide +kernel
theorem dX0_fewest_8 : decode cX0_fewest 8 = .ok (.imul, 1) := by decide +kernel
theorem dX0_fewest_9 : decode cX0_fewest 9 = .ok (.aload_n 0, 1) := by decide +kernel
theorem dX0_fewest_10 : decode cX0_fewest 10 = .ok (.invokevirtual 66, 3) := by decide +kernel
theorem dX0_fewest_13 : decode cX0_fewest 13 = .ok (.isub, 1) := by decide +kernel
theorem dX0_fewest_14 : decode cX0_fewest 14 = .ok (.istore_n 1, 1) := by decide +kernel
theorem dX0_fewest_15 : decode cX0_fewest 15 = .ok (.aload_n 0, 1) := by decide +kernel
theorem dX0_fewest_16 : decode cX0_fewest 16 = .ok (.iload_n 1, 1) := by decide +kernel
theorem dX0_fewest_17 : decode cX0_fewest 17 = .ok (.invokevirtual 70, 3) := by decide +kernel
theorem dX0_fewest_20 : decode cX0_fewest 20 = .ok (.istore_n 2, 1) := by decide +kernel
theorem dX0_fewest_21 : decode cX0_fewest 21 = .ok (.iload_n 2, 1) := by decide +kernel
theorem dX0_fewest_22 : decode cX0_fewest 22 = .ok (.aload_n 0, 1) := by decide +kernel
theorem dX0_fewest_23 : decode cX0_fewest 23 = .ok (.getfield 36, 3) := by decide +kernel
theorem dX0_fewest_26 : decode cX0_fewest 26 = .ok (.if_icmp .ge 59, 3) := by decide +kernel
theorem dX0_fewest_29 : decode cX0_fewest 29 = .ok (.iconst 0, 1) := by decide +kernel
theorem dX0_fewest_30 : decode cX0_fewest 30 = .ok (.istore_n 3, 1) := by decide +kernel
theorem dX0_fewest_31 : decode cX0_fewest 31 = .ok (.iload_n 3, 1) := by decide +kernel
theorem dX0_fewest_32 : decode cX0_fewest 32 = .ok (.iload_n 2, 1) := by decide +kernel
theorem dX0_fewest_33 : decode cX0_fewest 33 = .ok (.if_icmp .ge 19, 3) := by decide +kernel
theorem dX0_fewest_36 : decode cX0_fewest 36 = .ok (.aload_n 0, 1) := by decide +kernel
theorem dX0_fewest_37 : decode cX0_fewest 37 = .ok (.getfield 24, 3) := by decide +kernel
theorem dX0_fewest_40 : decode cX0_fewest 40 = .ok (.iload_n 3, 1) := by decide +kernel
theorem dX0_fewest_41 : decode cX0_fewest 41 = .ok (.aload_n 0, 1) := by decide +kernel
theorem dX0_fewest_42 : decode cX0_fewest 42 = .ok (.getfield 33, 3) := by decide +kernel
theorem dX0_fewest_45 : decode cX0_fewest 45 = .ok (.iastore, 1) := by decide +kernel
theorem dX0_fewest_46 : decode cX0_fewest 46 = .ok (.iinc 3 1, 3) := by decide +kernel
theorem dX0_fewest_49 : decode cX0_fewest 49 = .ok (.goto (-18), 3) := by decide +kernel
theorem dX0_fewest_52 : decode cX0_fewest 52 = .ok (.aload_n 0, 1) := by decide +kernel
theorem dX0_fewest_53 : decode cX0_fewest 53 = .ok (.iload_n 2, 1) := by decide +kernel
theorem dX0_fewest_54 : decode cX0_fewest 54 = .ok (.putfield 73, 3) := by decide +kernel
theorem dX0_fewest_57 : decode cX0_fewest 57 = .ok (.aload_n 0, 1) := by decide +kernel
theorem dX0_fewest_58 : decode cX0_fewest 58 = .ok (.iload_n 2, 1) := by decide +kernel
theorem dX0_fewest_59 : decode cX0_fewest 59 = .ok (.aload_n 0, 1) := by decide +kernel
theorem dX0_fewest_60 : decode cX0_fewest 60 = .ok (.getfield 33, 3) := by decide +kernel
theorem dX0_fewest_63 : decode cX0_fewest 63 = .ok (.imul, 1) := by decide +kernel
theorem dX0_fewest_64 : decode cX0_fewest 64 = .ok (.iload_n 1, 1) := by decide +kernel
theorem dX0_fewest_65 : decode cX0_fewest 65 = .ok (.isub, 1) := by decide +kernel
theorem dX0_fewest_66 : decode cX0_fewest 66 = .ok (.putfield 76, 3) := by decide +kernel
theorem dX0_fewest_69 : decode cX0_fewest 69 = .ok (.aload_n 0, 1) := by decide +kernel
theorem dX0_fewest_70 : decode cX0_fewest 70 = .ok (.iconst 0, 1) := by decide +kernel
theorem dX0_fewest_71 : decode cX0_fewest 71 = .ok (.invokestatic 79, 3) := by decide +kernel
theorem dX0_fewest_74 : decode cX0_fewest 74 = .ok (.ifCond .eq 5, 3) := by decide +kernel
theorem dX0_fewest_77 : decode cX0_fewest 77 = .ok (.iload_n 2, 1) := by decide +kernel
theorem dX0_fewest_78 : decode cX0_fewest 78 = .ok (.ireturn, 1) := by decide +kernel
theorem dX0_fewest_79 : decode cX0_fewest 79 = .ok (.iinc 2 1, 3) := by decide +kernel
theorem dX0_fewest_82 : decode cX0_fewest 82 = .ok (.goto (-61), 3) := by decide +kernel
theorem dX0_fewest_85 : decode cX0_fewest 85 = .ok (.aload_n 0, 1) := by decide +kernel
theorem dX0_fewest_86 : decode cX0_fewest 86 = .ok (.getfield 36, 3) := by decide +kernel
theorem dX0_fewest_89 : decode cX0_fewest 89 = .ok (.ireturn, 1) := by decide +kernel
theorem dX0_leastThinkable_0 : decode cX0_leastThinkable 0 = .ok (.aload_n 0, 1) := by decide +kernel
theorem dX0_leastThinkable_1 : decode cX0_leastThinkable 1 = .ok (.getfield 43, 3) := by decide +kernel
theorem dX0_leastThinkable_4 : decode cX0_leastThinkable 4 = .ok (.ifCond .ne 7, 3) := by decide +kernel
theorem dX0_leastThinkable_7 : decode cX0_leastThinkable 7 = .ok (.iconst 0, 1) := by decide +kernel
theorem dX0_leastThinkable_8 : decode cX0_leastThinkable 8 = .ok (.goto 4, 3) := by decide +kernel
theorem dX0_leastThinkable_11 : decode cX0_leastThinkable 11 = .ok (.iconst 1, 1) := by decide +kernel
theorem dX0_leastThinkable_12 : decode cX0_leastThinkable 12 = .ok (.istore_n 2, 1) := by decide +kernel
theorem dX0_leastThinkable_13 : decode cX0_leastThinkable 13 = .ok (.aload_n 0, 1) := by decide +kernel
theorem dX0_leastThinkable_14 : decode cX0_leastThinkable 14 = .ok (.getfield 33, 3) := by decide +kernel
theorem dX0_leastThinkable_17 : decode cX0_leastThinkable 17 = .ok (.ifCond .gt 5, 3) := by decide +kernel
theorem dX0_leastThinkable_20 : decode cX0_leastThinkable 20 = .ok (.iload_n 2, 1) := by decide +kernel
theorem dX0_leastThinkable_21 : decode cX0_leastThinkable 21 = .ok (.ireturn, 1) := by decide +kernel
theorem dX0_leastThinkable_22 : decode cX0_leastThinkable 22 = .ok (.iload_n 2, 1) := by decide +kernel
theorem dX0_leastThinkable_23 : decode cX0_leastThinkable 23 = .ok (.iload_n 1, 1) := by decide +kernel
theorem dX0_leastThinkable_24 : decode cX0_leastThinkable 24 = .ok (.aload_n 0, 1) := by decide +kernel
theorem dX0_leastThinkable_25 : decode cX0_leastThinkable 25 = .ok (.getfield 33, 3) := by decide +kernel
theorem dX0_leastThinkable_28 : decode cX0_leastThinkable 28 = .ok (.iadd, 1) := by decide +kernel
theorem dX0_leastThinkable_29 : decode cX0_leastThinkable 29 = .ok (.iconst 1, 1) := by decide +kernel
theorem dX0_leastThinkable_30 : decode cX0_leastThinkable 30 = .ok (.isub, 1) := by decide +kernel
theorem dX0_leastThinkable_31 : decode cX0_leastThinkable 31 = .ok (.aload_n 0, 1) := by decide +kernel
theorem dX0_leastThinkable_32 : decode cX0_leastThinkable 32 = .ok (.getfield 33, 3) := by decide +kernel
theorem dX0_leastThinkable_35 : decode cX0_leastThinkable 35 = .ok (.idiv, 1) := by decide +kernel
theorem dX0_leastThinkable_36 : decode cX0_leastThinkable 36 = .ok (.invokestatic 83, 3) := by decide +kernel
theorem dX0_leastThinkable_39 : decode cX0_leastThinkable 39 = .ok (.istore_n 2, 1) := by decide +kernel
theorem dX0_leastThinkable_40 : decode cX0_leastThinkable 40 = .ok (.iconst 0, 1) := by decide +kernel
theorem dX0_leastThinkable_41 : decode cX0_leastThinkable 41 = .ok (.istore_n 3, 1) := by decide +kernel
theorem dX0_leastThinkable_42 : decode cX0_leastThinkable 42 = .ok (.iload_n 3, 1) := by decide +kernel
theorem dX0_leastThinkable_43 : decode cX0_leastThinkable 43 = .ok (.aload_n 0, 1) := by decide +kernel
theorem dX0_leastThinkable_44 : decode cX0_leastThinkable 44 = .ok (.getfield 43, 3) := by decide +kernel
theorem dX0_leastThinkable_47 : decode cX0_leastThinkable 47 = .ok (.if_icmp .ge 47, 3) := by decide +kernel
theorem dX0_leastThinkable_50 : decode cX0_leastThinkable 50 = .ok (.aload_n 0, 1) := by decide +kernel
theorem dX0_leastThinkable_51 : decode cX0_leastThinkable 51 = .ok (.getfield 15, 3) := by decide +kernel
theorem dX0_leastThinkable_54 : decode cX0_leastThinkable 54 = .ok (.iload_n 3, 1) := by decide +kernel
theorem dX0_leastThinkable_55 : decode cX0_leastThinkable 55 = .ok (.iaload, 1) := by decide +kernel
theorem dX0_leastThinkable_56 : decode cX0_leastThinkable 56 = .ok (.ifCond .le 38, 3) := by decide +kernel
theorem dX0_leastThinkable_59 : decode cX0_leastThinkable 59 = .ok (.iconst 1, 1) := by decide +kernel
theorem dX0_leastThinkable_60 : decode cX0_leastThinkable 60 = .ok (.aload_n 0, 1) := by decide +kernel
theorem dX0_leastThinkable_61 : decode cX0_leastThinkable 61 = .ok (.getfield 33, 3) := by decide +kernel
theorem dX0_leastThinkable_64 : decode cX0_leastThinkable 64 = .ok (.aload_n 0, 1) := by decide +kernel
theorem dX0_leastThinkable_65 : decode cX0_leastThinkable 65 = .ok (.getfield 15, 3) := by decide +kernel
theorem dX0_leastThinkable_68 : decode cX0_leastThinkable 68 = .ok (.iload_n 3, 1) := by decide +kernel
theorem dX0_leastThinkable_69 : decode cX0_leastThinkable 69 = .ok (.iaload, 1) := by decide +kernel
theorem dX0_leastThinkable_70 : decode cX0_leastThinkable 70 = .ok (.idiv, 1) := by decide +kernel
theorem dX0_leastThinkable_71 : decode cX0_leastThinkable 71 = .ok (.invokestatic 83, 3) := by decide +kernel
theorem dX0_leastThinkable_74 : decode cX0_leastThinkable 74 = .ok (.istore 4, 2) := by decide +kernel
theorem dX0_leastThinkable_76 : decode cX0_leastThinkable 76 = .ok (.iload_n 2, 1) := by decide +kernel
theorem dX0_leastThinkable_77 : decode cX0_leastThinkable 77 = .ok (.iload_n 3, 1) := by decide +kernel
theorem dX0_leastThinkable_78 : decode cX0_leastThinkable 78 = .ok (.iload 4, 2) := by decide +kernel
theorem dX0_leastThinkable_80 : decode cX0_leastThinkable 80 = .ok (.iadd, 1) := by decide +kernel
theorem dX0_leastThinkable_81 : decode cX0_leastThinkable 81 = .ok (.iload 4, 2) := by decide +kernel
theorem dX0_leastThinkable_83 : decode cX0_leastThinkable 83 = .ok (.idiv, 1) := by decide +kernel
theorem dX0_leastThinkable_84 : decode cX0_leastThinkable 84 = .ok (.invokestatic 83, 3) := by decide +kernel
theorem dX0_leastThinkable_87 : decode cX0_leastThinkable 87 = .ok (.istore_n 2, 1) := by decide +kernel
theorem dX0_leastThinkable_88 : decode cX0_leastThinkable 88 = .ok (.iinc 3 1, 3) := by decide +kernel
theorem dX0_leastThinkable_91 : decode cX0_leastThinkable 91 = .ok (.goto (-49), 3) := by decide +kernel
theorem dX0_leastThinkable_94 : decode cX0_leastThinkable 94 = .ok (.iload_n 2, 1) := by decide +kernel
theorem dX0_leastThinkable_95 : decode cX0_leastThinkable 95 = .ok (.ireturn, 1) := by decide +kernel
theorem dX0_canPlaceFrom_0 : decode cX0_canPlaceFrom 0 = .ok (.iload_n 1, 1) := by decide +kernel
theorem dX0_canPlaceFrom_1 : decode cX0_canPlaceFrom 1 = .ok (.aload_n 0, 1) := by decide +kernel
theorem dX0_canPlaceFrom_2 : decode cX0_canPlaceFrom 2 = .ok (.getfield 43, 3) := by decide +kernel
theorem dX0_canPlaceFrom_5 : decode cX0_canPlaceFrom 5 = .ok (.if_icmp .ge 9, 3) := by decide +kernel
theorem dX0_canPlaceFrom_8 : decode cX0_canPlaceFrom 8 = .ok (.iload_n 1, 1) := by decide +kernel
theorem dX0_canPlaceFrom_9 : decode cX0_canPlaceFrom 9 = .ok (.bipush 14, 2) := by decide +kernel
theorem dX0_canPlaceFrom_11 : decode cX0_canPlaceFrom 11 = .ok (.if_icmp .lt 5, 3) := by decide +kernel
theorem dX0_canPlaceFrom_14 : decode cX0_canPlaceFrom 14 = .ok (.iconst 1, 1) := by decide +kernel
theorem dX0_canPlaceFrom_15 : decode cX0_canPlaceFrom 15 = .ok (.ireturn, 1) := by decide +kernel
theorem dX0_canPlaceFrom_16 : decode cX0_canPlaceFrom 16 = .ok (.aload_n 0, 1) := by decide +kernel
theorem dX0_canPlaceFrom_17 : decode cX0_canPlaceFrom 17 = .ok (.invokevirtual 86, 3) := by decide +kernel
theorem dX0_canPlaceFrom_20 : decode cX0_canPlaceFrom 20 = .ok (.ifCond .eq 5, 3) := by decide +kernel
theorem dX0_canPlaceFrom_23 : decode cX0_canPlaceFrom 23 = .ok (.iconst 0, 1) := by decide +kernel
theorem dX0_canPlaceFrom_24 : decode cX0_canPlaceFrom 24 = .ok (.ireturn, 1) := by decide +kernel
theorem dX0_canPlaceFrom_25 : decode cX0_canPlaceFrom 25 = .ok (.aload_n 0, 1) := by decide +kernel
theorem dX0_canPlaceFrom_26 : decode cX0_canPlaceFrom 26 = .ok (.getfield 15, 3) := by decide +kernel
theorem dX0_canPlaceFrom_29 : decode cX0_canPlaceFrom 29 = .ok (.iload_n 1, 1) := by decide +kernel
theorem dX0_canPlaceFrom_30 : decode cX0_canPlaceFrom 30 = .ok (.iaload, 1) := by decide +kernel
theorem dX0_canPlaceFrom_31 : decode cX0_canPlaceFrom 31 = .ok (.istore_n 2, 1) := by decide +kernel
theorem dX0_canPlaceFrom_32 : decode cX0_canPlaceFrom 32 = .ok (.aload_n 0, 1) := by decide +kernel
theorem dX0_canPlaceFrom_33 : decode cX0_canPlaceFrom 33 = .ok (.getfield 24, 3) := by decide +kernel
theorem dX0_canPlaceFrom_36 : decode cX0_canPlaceFrom 36 = .ok (.astore_n 3, 1) := by decide +kernel
theorem dX0_canPlaceFrom_37 : decode cX0_canPlaceFrom 37 = .ok (.iconst 0, 1) := by decide +kernel
theorem dX0_canPlaceFrom_38 : decode cX0_canPlaceFrom 38 = .ok (.istore 4, 2) := by decide +kernel
theorem dX0_canPlaceFrom_40 : decode cX0_canPlaceFrom 40 = .ok (.iload 4, 2) := by decide +kernel
theorem dX0_canPlaceFrom_42 : decode cX0_canPlaceFrom 42 = .ok (.aload_n 0, 1) := by decide +kernel
theorem dX0_canPlaceFrom_43 : decode cX0_canPlaceFrom 43 = .ok (.getfield 73, 3) := by decide +kernel
theorem dX0_canPlaceFrom_46 : decode cX0_canPlaceFrom 46 = .ok (.if_icmp .ge 70, 3) := by decide +kernel
theorem dX0_canPlaceFrom_49 : decode cX0_canPlaceFrom 49 = .ok (.aload_n 3, 1) := by decide +kernel
theorem dX0_canPlaceFrom_50 : decode cX0_canPlaceFrom 50 = .ok (.iload 4, 2) := by decide +kernel
theorem dX0_canPlaceFrom_52 : decode cX0_canPlaceFrom 52 = .ok (.iaload, 1) := by decide +kernel
theorem dX0_canPlaceFrom_53 : decode cX0_canPlaceFrom 53 = .ok (.iload_n 2, 1) := by decide +kernel
theorem dX0_canPlaceFrom_54 : decode cX0_canPlaceFrom 54 = .ok (.if_icmp .lt 56, 3) := by decide +kernel
theorem dX0_canPlaceFrom_57 : decode cX0_canPlaceFrom 57 = .ok (.aload_n 0, 1) := by decide +kernel
theorem dX0_canPlaceFrom_58 : decode cX0_canPlaceFrom 58 = .ok (.iload 4, 2) := by decide +kernel
theorem dX0_canPlaceFrom_60 : decode cX0_canPlaceFrom 60 = .ok (.invokevirtual 90, 3) := by decide +kernel
theorem dX0_canPlaceFrom_63 : decode cX0_canPlaceFrom 63 = .ok (.ifCond .eq 6, 3) := by decide +kernel
theorem dX0_canPlaceFrom_66 : decode cX0_canPlaceFrom 66 = .ok (.goto 44, 3) := by decide +kernel
theorem dX0_canPlaceFrom_69 : decode cX0_canPlaceFrom 69 = .ok (.aload_n 3, 1) := by decide +kernel
theorem dX0_canPlaceFrom_70 : decode cX0_canPlaceFrom 70 = .ok (.iload 4, 2) := by decide +kernel
theorem dX0_canPlaceFrom_72 : decode cX0_canPlaceFrom 72 = .ok (.dup2, 1) := by decide +kernel
theorem dX0_canPlaceFrom_73 : decode cX0_canPlaceFrom 73 = .ok (.iaload, 1) := by decide +kernel
theorem dX0_canPlaceFrom_74 : decode cX0_canPlaceFrom 74 = .ok (.iload_n 2, 1) := by decide +kernel
theorem dX0_canPlaceFrom_75 : decode cX0_canPlaceFrom 75 = .ok (.isub, 1) := by decide +kernel
theorem dX0_canPlaceFrom_76 : decode cX0_canPlaceFrom 76 = .ok (.iastore, 1) := by decide +kernel
theorem dX0_canPlaceFrom_77 : decode cX0_canPlaceFrom 77 = .ok (.aload_n 0, 1) := by decide +kernel
theorem dX0_canPlaceFrom_78 : decode cX0_canPlaceFrom 78 = .ok (.iload_n 1, 1) := by decide +kernel
theorem dX0_canPlaceFrom_79 : decode cX0_canPlaceFrom 79 = .ok (.iconst 1, 1) := by decide +kernel
theorem dX0_canPlaceFrom_80 : decode cX0_canPlaceFrom 80 = .ok (.iadd, 1) := by decide +kernel
theorem dX0_canPlaceFrom_81 : decode cX0_canPlaceFrom 81 = .ok (.invokestatic 79, 3) := by decide +kernel
theorem dX0_canPlaceFrom_84 : decode cX0_canPlaceFrom 84 = .ok (.istore 5, 2) := by decide +kernel
theorem dX0_canPlaceFrom_86 : decode cX0_canPlaceFrom 86 = .ok (.aload_n 3, 1) := by decide +kernel
theorem dX0_canPlaceFrom_87 : decode cX0_canPlaceFrom 87 = .ok (.iload 4, 2) := by decide +kernel
theorem dX0_canPlaceFrom_89 : decode cX0_canPlaceFrom 89 = .ok (.dup2, 1) := by decide +kernel
theorem dX0_canPlaceFrom_90 : decode cX0_canPlaceFrom 90 = .ok (.iaload, 1) := by decide +kernel
theorem dX0_canPlaceFrom_91 : decode cX0_canPlaceFrom 91 = .ok (.iload_n 2, 1) := by decide +kernel
theorem dX0_canPlaceFrom_92 : decode cX0_canPlaceFrom 92 = .ok (.iadd, 1) := by decide +kernel
theorem dX0_canPlaceFrom_93 : decode cX0_canPlaceFrom 93 = .ok (.iastore, 1) := by decide +kernel
theorem dX0_canPlaceFrom_94 : decode cX0_canPlaceFrom 94 = .ok (.iload 5, 2) := by decide +kernel
theorem dX0_canPlaceFrom_96 : decode cX0_canPlaceFrom 96 = .ok (.ifCond .ne 11, 3) := by decide +kernel
theorem dX0_canPlaceFrom_99 : decode cX0_canPlaceFrom 99 = .ok (.aload_n 3, 1) := by decide +kernel
theorem dX0_canPlaceFrom_100 : decode cX0_canPlaceFrom 100 = .ok (.iload 4, 2) := by decide +kernel
theorem dX0_canPlaceFrom_102 : decode cX0_canPlaceFrom 102 = .ok (.iaload, 1) := by decide +kernel
theorem dX0_canPlaceFrom_103 : decode cX0_canPlaceFrom 103 = .ok (.iload_n 2, 1) := by decide +kernel
theorem dX0_canPlaceFrom_104 : decode cX0_canPlaceFrom 104 = .ok (.if_icmp .ne 6, 3) := by decide +kernel
theorem dX0_canPlaceFrom_107 : decode cX0_canPlaceFrom 107 = .ok (.iload 5, 2) := by decide +kernel
theorem dX0_canPlaceFrom_109 : decode cX0_canPlaceFrom 109 = .ok (.ireturn, 1) := by decide +kernel
theorem dX0_canPlaceFrom_110 : decode cX0_canPlaceFrom 110 = .ok (.iinc 4 1, 3) := by decide +kernel
theorem dX0_canPlaceFrom_113 : decode cX0_canPlaceFrom 113 = .ok (.goto (-73), 3) := by decide +kernel
theorem dX0_canPlaceFrom_116 : decode cX0_canPlaceFrom 116 = .ok (.iconst 0, 1) := by decide +kernel
theorem dX0_canPlaceFrom_117 : decode cX0_canPlaceFrom 117 = .ok (.ireturn, 1) := by decide +kernel
theorem dX0_tooMuchIsLost_0 : decode cX0_tooMuchIsLost 0 = .ok (.aload_n 0, 1) := by decide +kernel
theorem dX0_tooMuchIsLost_1 : decode cX0_tooMuchIsLost 1 = .ok (.getfield 43, 3) := by decide +kernel
theorem dX0_tooMuchIsLost_4 : decode cX0_tooMuchIsLost 4 = .ok (.ifCond .le 17, 3) := by decide +kernel
theorem dX0_tooMuchIsLost_7 : decode cX0_tooMuchIsLost 7 = .ok (.aload_n 0, 1) := by decide +kernel
theorem dX0_tooMuchIsLost_8 : decode cX0_tooMuchIsLost 8 = .ok (.getfield 15, 3) := by decide +kernel
theorem dX0_tooMuchIsLost_11 : decode cX0_tooMuchIsLost 11 = .ok (.aload_n 0, 1) := by decide +kernel
theorem dX0_tooMuchIsLost_12 : decode cX0_tooMuchIsLost 12 = .ok (.getfield 43, 3) := by decide +kernel
theorem dX0_tooMuchIsLost_15 : decode cX0_tooMuchIsLost 15 = .ok (.iconst 1, 1) := by decide +kernel
theorem dX0_tooMuchIsLost_16 : decode cX0_tooMuchIsLost 16 = .ok (.isub, 1) := by decide +kernel
theorem dX0_tooMuchIsLost_17 : decode cX0_tooMuchIsLost 17 = .ok (.iaload, 1) := by decide +kernel
theorem dX0_tooMuchIsLost_18 : decode cX0_tooMuchIsLost 18 = .ok (.goto 4, 3) := by decide +kernel
theorem dX0_tooMuchIsLost_21 : decode cX0_tooMuchIsLost 21 = .ok (.iconst 0, 1) := by decide +kernel
theorem dX0_tooMuchIsLost_22 : decode cX0_tooMuchIsLost 22 = .ok (.istore_n 1, 1) := by decide +kernel
theorem dX0_tooMuchIsLost_23 : decode cX0_tooMuchIsLost 23 = .ok (.iconst 0, 1) := by decide +kernel
theorem dX0_tooMuchIsLost_24 : decode cX0_tooMuchIsLost 24 = .ok (.istore_n 2, 1) := by decide +kernel
theorem dX0_tooMuchIsLost_25 : decode cX0_tooMuchIsLost 25 = .ok (.iconst 0, 1) := by decide +kernel
theorem dX0_tooMuchIsLost_26 : decode cX0_tooMuchIsLost 26 = .ok (.istore_n 3, 1) := by decide +kernel
theorem dX0_tooMuchIsLost_27 : decode cX0_tooMuchIsLost 27 = .ok (.iload_n 3, 1) := by decide +kernel
theorem dX0_tooMuchIsLost_28 : decode cX0_tooMuchIsLost 28 = .ok (.aload_n 0, 1) := by decide +kernel
theorem dX0_tooMuchIsLost_29 : decode cX0_tooMuchIsLost 29 = .ok (.getfield 73, 3) := by decide +kernel
theorem dX0_tooMuchIsLost_32 : decode cX0_tooMuchIsLost 32 = .ok (.if_icmp .ge 28, 3) := by decide +kernel
theorem dX0_tooMuchIsLost_35 : decode cX0_tooMuchIsLost 35 = .ok (.aload_n 0, 1) := by decide +kernel
theorem dX0_tooMuchIsLost_36 : decode cX0_tooMuchIsLost 36 = .ok (.getfield 24, 3) := by decide +kernel
theorem dX0_tooMuchIsLost_39 : decode cX0_tooMuchIsLost 39 = .ok (.iload_n 3, 1) := by decide +kernel
theorem dX0_tooMuchIsLost_40 : decode cX0_tooMuchIsLost 40 = .ok (.iaload, 1) := by decide +kernel
theorem dX0_tooMuchIsLost_41 : decode cX0_tooMuchIsLost 41 = .ok (.iload_n 1, 1) := by decide +kernel
theorem dX0_tooMuchIsLost_42 : decode cX0_tooMuchIsLost 42 = .ok (.if_icmp .ge 12, 3) := by decide +kernel
theorem dX0_tooMuchIsLost_45 : decode cX0_tooMuchIsLost 45 = .ok (.iload_n 2, 1) := by decide +kernel
theorem dX0_tooMuchIsLost_46 : decode cX0_tooMuchIsLost 46 = .ok (.aload_n 0, 1) := by decide +kernel
theorem dX0_tooMuchIsLost_47 : decode cX0_tooMuchIsLost 47 = .ok (.getfield 24, 3) := by decide +kernel
theorem dX0_tooMuchIsLost_50 : decode cX0_tooMuchIsLost 50 = .ok (.iload_n 3, 1) := by decide +kernel
theorem dX0_tooMuchIsLost_51 : decode cX0_tooMuchIsLost 51 = .ok (.iaload, 1) := by decide +kernel
theorem dX0_tooMuchIsLost_52 : decode cX0_tooMuchIsLost 52 = .ok (.iadd, 1) := by decide +kernel
theorem dX0_tooMuchIsLost_53 : decode cX0_tooMuchIsLost 53 = .ok (.istore_n 2, 1) := by decide +kernel
theorem dX0_tooMuchIsLost_54 : decode cX0_tooMuchIsLost 54 = .ok (.iinc 3 1, 3) := by decide +kernel
theorem dX0_tooMuchIsLost_57 : decode cX0_tooMuchIsLost 57 = .ok (.goto (-30), 3) := by decide +kernel
theorem dX0_tooMuchIsLost_60 : decode cX0_tooMuchIsLost 60 = .ok (.iload_n 2, 1) := by decide +kernel
theorem dX0_tooMuchIsLost_61 : decode cX0_tooMuchIsLost 61 = .ok (.aload_n 0, 1) := by decide +kernel
theorem dX0_tooMuchIsLost_62 : decode cX0_tooMuchIsLost 62 = .ok (.getfield 76, 3) := by decide +kernel
theorem dX0_tooMuchIsLost_65 : decode cX0_tooMuchIsLost 65 = .ok (.if_icmp .le 7, 3) := by decide +kernel
theorem dX0_tooMuchIsLost_68 : decode cX0_tooMuchIsLost 68 = .ok (.iconst 1, 1) := by decide +kernel
theorem dX0_tooMuchIsLost_69 : decode cX0_tooMuchIsLost 69 = .ok (.goto 4, 3) := by decide +kernel
theorem dX0_tooMuchIsLost_72 : decode cX0_tooMuchIsLost 72 = .ok (.iconst 0, 1) := by decide +kernel
theorem dX0_tooMuchIsLost_73 : decode cX0_tooMuchIsLost 73 = .ok (.ireturn, 1) := by decide +kernel
theorem dX0_isLikeOneAhead_0 : decode cX0_isLikeOneAhead 0 = .ok (.iconst 0, 1) := by decide +kernel
theorem dX0_isLikeOneAhead_1 : decode cX0_isLikeOneAhead 1 = .ok (.istore_n 2, 1) := by decide +kernel
theorem dX0_isLikeOneAhead_2 : decode cX0_isLikeOneAhead 2 = .ok (.iload_n 2, 1) := by decide +kernel
theorem dX0_isLikeOneAhead_3 : decode cX0_isLikeOneAhead 3 = .ok (.iload_n 1, 1) := by decide +kernel
theorem dX0_isLikeOneAhead_4 : decode cX0_isLikeOneAhead 4 = .ok (.if_icmp .ge 26, 3) := by decide +kernel
theorem dX0_isLikeOneAhead_7 : decode cX0_isLikeOneAhead 7 = .ok (.aload_n 0, 1) := by decide +kernel
theorem dX0_isLikeOneAhead_8 : decode cX0_isLikeOneAhead 8 = .ok (.getfield 24, 3) := by decide +kernel
theorem dX0_isLikeOneAhead_11 : decode cX0_isLikeOneAhead 11 = .ok (.iload_n 2, 1) := by decide +kernel
theorem dX0_isLikeOneAhead_12 : decode cX0_isLikeOneAhead 12 = .ok (.iaload, 1) := by decide +kernel
theorem dX0_isLikeOneAhead_13 : decode cX0_isLikeOneAhead 13 = .ok (.aload_n 0, 1) := by decide +kernel
theorem dX0_isLikeOneAhead_14 : decode cX0_isLikeOneAhead 14 = .ok (.getfield 24, 3) := by decide +kernel
theorem dX0_isLikeOneAhead_17 : decode cX0_isLikeOneAhead 17 = .ok (.iload_n 1, 1) := by decide +kernel
theorem dX0_isLikeOneAhead_18 : decode cX0_isLikeOneAhead 18 = .ok (.iaload, 1) := by decide +kernel
theorem dX0_isLikeOneAhead_19 : decode cX0_isLikeOneAhead 19 = .ok (.if_icmp .ne 5, 3) := by decide +kernel
theorem dX0_isLikeOneAhead_22 : decode cX0_isLikeOneAhead 22 = .ok (.iconst 1, 1) := by decide +kernel
theorem dX0_isLikeOneAhead_23 : decode cX0_isLikeOneAhead 23 = .ok (.ireturn, 1) := by decide +kernel
theorem dX0_isLikeOneAhead_24 : decode cX0_isLikeOneAhead 24 = .ok (.iinc 2 1, 3) := by decide +kernel
theorem dX0_isLikeOneAhead_27 : decode cX0_isLikeOneAhead 27 = .ok (.goto (-25), 3) := by decide +kernel
theorem dX0_isLikeOneAhead_30 : decode cX0_isLikeOneAhead 30 = .ok (.iconst 0, 1) := by decide +kernel
theorem dX0_isLikeOneAhead_31 : decode cX0_isLikeOneAhead 31 = .ok (.ireturn, 1) := by decide +kernel
theorem dX1_init_0 : decode cX1_init 0 = .ok (.aload_n 0, 1) := by decide +kernel
theorem dX1_init_1 : decode cX1_init 1 = .ok (.invokespecial 3, 3) := by decide +kernel
theorem dX1_init_4 : decode cX1_init 4 = .ok (.aload_n 0, 1) := by decide +kernel
theorem dX1_init_5 : decode cX1_init 5 = .ok (.sipush 200, 3) := by decide +kernel
theorem dX1_init_8 : decode cX1_init 8 = .ok (.newarray .char, 2) := by decide +kernel
theorem dX1_init_10 : decode cX1_init 10 = .ok (.putfield 9, 3) := by decide +kernel
theorem dX1_init_13 : decode cX1_init 13 = .ok (.return_, 1) := by decide +kernel
theorem dX1_append_0 : decode cX1_append 0 = .ok (.aload_n 0, 1) := by decide +kernel
theorem dX1_append_1 : decode cX1_append 1 = .ok (.getfield 15, 3) := by decide +kernel
theorem dX1_append_4 : decode cX1_append 4 = .ok (.sipush 200, 3) := by decide +kernel
theorem dX1_append_7 : decode cX1_append 7 = .ok (.if_icmp .lt 5, 3) := by decide +kernel
theorem dX1_append_10 : decode cX1_append 10 = .ok (.iconst 0, 1) := by decide +kernel
theorem dX1_append_11 : decode cX1_append 11 = .ok (.ireturn, 1) := by decide +kernel
theorem dX1_append_12 : decode cX1_append 12 = .ok (.aload_n 0, 1) := by decide +kernel
theorem dX1_append_13 : decode cX1_append 13 = .ok (.getfield 9, 3) := by decide +kernel
theorem dX1_append_16 : decode cX1_append 16 = .ok (.aload_n 0, 1) := by decide +kernel
theorem dX1_append_17 : decode cX1_append 17 = .ok (.getfield 15, 3) := by decide +kernel
theorem dX1_append_20 : decode cX1_append 20 = .ok (.iload_n 1, 1) := by decide +kernel
theorem dX1_append_21 : decode cX1_append 21 = .ok (.castore, 1) := by decide +kernel
theorem dX1_append_22 : decode cX1_append 22 = .ok (.aload_n 0, 1) := by decide +kernel
theorem dX1_append_23 : decode cX1_append 23 = .ok (.dup, 1) := by decide +kernel
theorem dX1_append_24 : decode cX1_append 24 = .ok (.getfield 15, 3) := by decide +kernel
theorem dX1_append_27 : decode cX1_append 27 = .ok (.iconst 1, 1) := by decide +kernel
theorem dX1_append_28 : decode cX1_append 28 = .ok (.iadd, 1) := by decide +kernel
theorem dX1_append_29 : decode cX1_append 29 = .ok (.putfield 15, 3) := by decide +kernel
theorem dX1_append_32 : decode cX1_append 32 = .ok (.iconst 1, 1) := by decide +kernel
theorem dX1_append_33 : decode cX1_append 33 = .ok (.ireturn, 1) := by decide +kernel
theorem dX1_at_0 : decode cX1_at 0 = .ok (.iload_n 1, 1) := by decide +kernel
theorem dX1_at_1 : decode cX1_at 1 = .ok (.ifCond .lt 20, 3) := by decide +kernel
theorem dX1_at_4 : decode cX1_at 4 = .ok (.iload_n 1, 1) := by decide +kernel
theorem dX1_at_5 : decode cX1_at 5 = .ok (.aload_n 0, 1) := by decide +kernel
theorem dX1_at_6 : decode cX1_at 6 = .ok (.getfield 15, 3) := by decide +kernel
theorem dX1_at_9 : decode cX1_at 9 = .ok (.if_icmp .ge 12, 3) := by decide +kernel
theorem dX1_at_12 : decode cX1_at 12 = .ok (.aload_n 0, 1) := by decide +kernel
theorem dX1_at_13 : decode cX1_at 13 = .ok (.getfield 9, 3) := by decide +kernel
theorem dX1_at_16 : decode cX1_at 16 = .ok (.iload_n 1, 1) := by decide +kernel
theorem dX1_at_17 : decode cX1_at 17 = .ok (.caload, 1) := by decide +kernel
theorem dX1_at_18 : decode cX1_at 18 = .ok (.goto 4, 3) := by decide +kernel
theorem dX1_at_21 : decode cX1_at 21 = .ok (.iconst 0, 1) := by decide +kernel
theorem dX1_at_22 : decode cX1_at 22 = .ok (.ireturn, 1) := by decide +kernel
theorem dX1_isFigure_0 : decode cX1_isFigure 0 = .ok (.aload_n 0, 1) := by decide +kernel
theorem dX1_isFigure_1 : decode cX1_isFigure 1 = .ok (.iload_n 1, 1) := by decide +kernel
theorem dX1_isFigure_2 : decode cX1_isFigure 2 = .ok (.invokevirtual 19, 3) := by decide +kernel
theorem dX1_isFigure_5 : decode cX1_isFigure 5 = .ok (.bipush 48, 2) := by decide +kernel
theorem dX1_isFigure_7 : decode cX1_isFigure 7 = .ok (.if_icmp .lt 17, 3) := by decide +kernel
theorem dX1_isFigure_10 : decode cX1_isFigure 10 = .ok (.aload_n 0, 1) := by decide +kernel
theorem dX1_isFigure_11 : decode cX1_isFigure 11 = .ok (.iload_n 1, 1) := by decide +kernel
theorem dX1_isFigure_12 : decode cX1_isFigure 12 = .ok (.invokevirtual 19, 3) := by decide +kernel
theorem dX1_isFigure_15 : decode cX1_isFigure 15 = .ok (.bipush 57, 2) := by decide +kernel
theorem dX1_isFigure_17 : decode cX1_isFigure 17 = .ok (.if_icmp .gt 7, 3) := by decide +kernel
theorem dX1_isFigure_20 : decode cX1_isFigure 20 = .ok (.iconst 1, 1) := by decide +kernel
theorem dX1_isFigure_21 : decode cX1_isFigure 21 = .ok (.goto 4, 3) := by decide +kernel
theorem dX1_isFigure_24 : decode cX1_isFigure 24 = .ok (.iconst 0, 1) := by decide +kernel
theorem dX1_isFigure_25 : decode cX1_isFigure 25 = .ok (.ireturn, 1) := by decide +kernel
theorem dX2_init_0 : decode cX2_init 0 = .ok (.aload_n 0, 1) := by decide +kernel
theorem dX2_init_1 : decode cX2_init 1 = .ok (.invokespecial 3, 3) := by decide +kernel
theorem dX2_init_4 : decode cX2_init 4 = .ok (.aload_n 0, 1) := by decide +kernel
theorem dX2_init_5 : decode cX2_init 5 = .ok (.bipush 30, 2) := by decide +kernel
theorem dX2_init_7 : decode cX2_init 7 = .ok (.newarray .int, 2) := by decide +kernel
theorem dX2_init_9 : decode cX2_init 9 = .ok (.putfield 9, 3) := by decide +kernel
theorem dX2_init_12 : decode cX2_init 12 = .ok (.aload_n 0, 1) := by decide +kernel
theorem dX2_init_13 : decode cX2_init 13 = .ok (.bipush 10, 2) := by decide +kernel
theorem dX2_init_15 : decode cX2_init 15 = .ok (.newarray .int, 2) := by decide +kernel
theorem dX2_init_17 : decode cX2_init 17 = .ok (.putfield 15, 3) := by decide +kernel
theorem dX2_init_20 : decode cX2_init 20 = .ok (.aload_n 0, 1) := by decide +kernel
theorem dX2_init_21 : decode cX2_init 21 = .ok (.bipush 14, 2) := by decide +kernel
theorem dX2_init_23 : decode cX2_init 23 = .ok (.newarray .int, 2) := by decide +kernel
theorem dX2_init_25 : decode cX2_init 25 = .ok (.putfield 18, 3) := by decide +kernel
theorem dX2_init_28 : decode cX2_init 28 = .ok (.aload_n 0, 1) := by decide +kernel
theorem dX2_init_29 : decode cX2_init 29 = .ok (.bipush 14, 2) := by decide +kernel
theorem dX2_init_31 : decode cX2_init 31 = .ok (.newarray .int, 2) := by decide +kernel
theorem dX2_init_33 : decode cX2_init 33 = .ok (.putfield 21, 3) := by decide +kernel
theorem dX2_init_36 : decode cX2_init 36 = .ok (.aload_n 0, 1) := by decide +kernel
theorem dX2_init_37 : decode cX2_init 37 = .ok (.bipush 14, 2) := by decide +kernel
theorem dX2_init_39 : decode cX2_init 39 = .ok (.newarray .int, 2) := by decide +kernel
theorem dX2_init_41 : decode cX2_init 41 = .ok (.putfield 24, 3) := by decide +kernel
theorem dX2_init_44 : decode cX2_init 44 = .ok (.aload_n 0, 1) := by decide +kernel
theorem dX2_init_45 : decode cX2_init 45 = .ok (.bipush 14, 2) := by decide +kernel
theorem dX2_init_47 : decode cX2_init 47 = .ok (.newarray .int, 2) := by decide +kernel
theorem dX2_init_49 : decode cX2_init 49 = .ok (.putfield 27, 3) := by decide +kernel
theorem dX2_init_52 : decode cX2_init 52 = .ok (.return_, 1) := by decide +kernel
theorem dX2_clear_0 : decode cX2_clear 0 = .ok (.aload_n 0, 1) := by decide +kernel
theorem dX2_clear_1 : decode cX2_clear 1 = .ok (.iconst 0, 1) := by decide +kernel
theorem dX2_clear_2 : decode cX2_clear 2 = .ok (.putfield 30, 3) := by decide +kernel
theorem dX2_clear_5 : decode cX2_clear 5 = .ok (.aload_n 0, 1) := by decide +kernel
theorem dX2_clear_6 : decode cX2_clear 6 = .ok (.iconst 0, 1) := by decide +kernel
theorem dX2_clear_7 : decode cX2_clear 7 = .ok (.putfield 34, 3) := by decide +kernel
theorem dX2_clear_10 : decode cX2_clear 10 = .ok (.aload_n 0, 1) := by decide +kernel
theorem dX2_clear_11 : decode cX2_clear 11 = .ok (.iconst 0, 1) := by decide +kernel
theorem dX2_clear_12 : decode cX2_clear 12 = .ok (.putfield 37, 3) := by decide +kernel
theorem dX2_clear_15 : decode cX2_clear 15 = .ok (.aload_n 0, 1) := by decide +kernel
theorem dX2_clear_16 : decode cX2_clear 16 = .ok (.iconst 0, 1) := by decide +kernel
theorem dX2_clear_17 : decode cX2_clear 17 = .ok (.putfield 40, 3) := by decide +kernel
theorem dX2_clear_20 : decode cX2_clear 20 = .ok (.aload_n 0, 1) := by decide +kernel
theorem dX2_clear_21 : decode cX2_clear 21 = .ok (.bipush 40, 2) := by decide +kernel
theorem dX2_clear_23 : decode cX2_clear 23 = .ok (.putfield 43, 3) := by decide +kernel
theorem dX2_clear_26 : decode cX2_clear 26 = .ok (.aload_n 0, 1) := by decide +kernel
theorem dX2_clear_27 : decode cX2_clear 27 = .ok (.bipush 10, 2) := by decide +kernel
theorem dX2_clear_29 : decode cX2_clear 29 = .ok (.putfield 46, 3) := by decide +kernel
theorem dX2_clear_32 : decode cX2_clear 32 = .ok (.return_, 1) := by decide +kernel
theorem dX2_copyFrom_0 : decode cX2_copyFrom 0 = .ok (.aload_n 0, 1) := by decide +kernel
theorem dX2_copyFrom_1 : decode cX2_copyFrom 1 = .ok (.aload_n 1, 1) := by decide +kernel
theorem dX2_copyFrom_2 : decode cX2_copyFrom 2 = .ok (.getfield 30, 3) := by decide +kernel
theorem dX2_copyFrom_5 : decode cX2_copyFrom 5 = .ok (.putfield 30, 3) := by decide +kernel
theorem dX2_copyFrom_8 : decode cX2_copyFrom 8 = .ok (.aload_n 0, 1) := by decide +kernel
theorem dX2_copyFrom_9 : decode cX2_copyFrom 9 = .ok (.aload_n 1, 1) := by decide +kernel
theorem dX2_copyFrom_10 : decode cX2_copyFrom 10 = .ok (.getfield 34, 3) := by decide +kernel
theorem dX2_copyFrom_13 : decode cX2_copyFrom 13 = .ok (.putfield 34, 3) := by decide +kernel
theorem dX2_copyFrom_16 : decode cX2_copyFrom 16 = .ok (.aload_n 0, 1) := by decide +kernel
theorem dX2_copyFrom_17 : decode cX2_copyFrom 17 = .ok (.aload_n 1, 1) := by decide +kernel
theorem dX2_copyFrom_18 : decode cX2_copyFrom 18 = .ok (.getfield 37, 3) := by decide +kernel
theorem dX2_copyFrom_21 : decode cX2_copyFrom 21 = .ok (.putfield 37, 3) := by decide +kernel
theorem dX2_copyFrom_24 : decode cX2_copyFrom 24 = .ok (.aload_n 0, 1) := by decide +kernel
theorem dX2_copyFrom_25 : decode cX2_copyFrom 25 = .ok (.aload_n 1, 1) := by decide +kernel
theorem dX2_copyFrom_26 : decode cX2_copyFrom 26 = .ok (.getfield 40, 3) := by decide +kernel
theorem dX2_copyFrom_29 : decode cX2_copyFrom 29 = .ok (.putfield 40, 3) := by decide +kernel
theorem dX2_copyFrom_32 : decode cX2_copyFrom 32 = .ok (.aload_n 0, 1) := by decide +kernel
theorem dX2_copyFrom_33 : decode cX2_copyFrom 33 = .ok (.aload_n 1, 1) := by decide +kernel
theorem dX2_copyFrom_34 : decode cX2_copyFrom 34 = .ok (.getfield 43, 3) := by decide +kernel
theorem dX2_copyFrom_37 : decode cX2_copyFrom 37 = .ok (.putfield 43, 3) := by decide +kernel
theorem dX2_copyFrom_40 : decode cX2_copyFrom 40 = .ok (.aload_n 0, 1) := by decide +kernel
theorem dX2_copyFrom_41 : decode cX2_copyFrom 41 = .ok (.aload_n 1, 1) := by decide +kernel
theorem dX2_copyFrom_42 : decode cX2_copyFrom 42 = .ok (.getfield 46, 3) := by decide +kernel
theorem dX2_copyFrom_45 : decode cX2_copyFrom 45 = .ok (.putfield 46, 3) := by decide +kernel
theorem dX2_copyFrom_48 : decode cX2_copyFrom 48 = .ok (.aload_n 1, 1) := by decide +kernel
theorem dX2_copyFrom_49 : decode cX2_copyFrom 49 = .ok (.getfield 9, 3) := by decide +kernel
theorem dX2_copyFrom_52 : decode cX2_copyFrom 52 = .ok (.iconst 0, 1) := by decide +kernel
theorem dX2_copyFrom_53 : decode cX2_copyFrom 53 = .ok (.aload_n 0, 1) := by decide +kernel
theorem dX2_copyFrom_54 : decode cX2_copyFrom 54 = .ok (.getfield 9, 3) := by decide +kernel
theorem dX2_copyFrom_57 : decode cX2_copyFrom 57 = .ok (.iconst 0, 1) := by decide +kernel
theorem dX2_copyFrom_58 : decode cX2_copyFrom 58 = .ok (.bipush 30, 2) := by decide +kernel
theorem dX2_copyFrom_60 : decode cX2_copyFrom 60 = .ok (.invokestatic 49, 3) := by decide +kernel
theorem dX2_copyFrom_63 : decode cX2_copyFrom 63 = .ok (.aload_n 1, 1) := by decide +kernel
theorem dX2_copyFrom_64 : decode cX2_copyFrom 64 = .ok (.getfield 15, 3) := by decide +kernel
theorem dX2_copyFrom_67 : decode cX2_copyFrom 67 = .ok (.iconst 0, 1) := by decide +kernel
theorem dX2_copyFrom_68 : decode cX2_copyFrom 68 = .ok (.aload_n 0, 1) := by decide +kernel
theorem dX2_copyFrom_69 : decode cX2_copyFrom 69 = .ok (.getfield 15, 3) := by decide +kernel
theorem dX2_copyFrom_72 : decode cX2_copyFrom 72 = .ok (.iconst 0, 1) := by decide +kernel
theorem dX2_copyFrom_73 : decode cX2_copyFrom 73 = .ok (.bipush 10, 2) := by decide +kernel
theorem dX2_copyFrom_75 : decode cX2_copyFrom 75 = .ok (.invokestatic 49, 3) := by decide +kernel
theorem dX2_copyFrom_78 : decode cX2_copyFrom 78 = .ok (.aload_n 1, 1) := by decide +kernel
theorem dX2_copyFrom_79 : decode cX2_copyFrom 79 = .ok (.getfield 18, 3) := by decide +kernel
theorem dX2_copyFrom_82 : decode cX2_copyFrom 82 = .ok (.iconst 0, 1) := by decide +kernel
theorem dX2_copyFrom_83 : decode cX2_copyFrom 83 = .ok (.aload_n 0, 1) := by decide +kernel
theorem dX2_copyFrom_84 : decode cX2_copyFrom 84 = .ok (.getfield 18, 3) := by decide +kernel
theorem dX2_copyFrom_87 : decode cX2_copyFrom 87 = .ok (.iconst 0, 1) := by decide +kernel
theorem dX2_copyFrom_88 : decode cX2_copyFrom 88 = .ok (.bipush 14, 2) := by decide +kernel
theorem dX2_copyFrom_90 : decode cX2_copyFrom 90 = .ok (.invokestatic 49, 3) := by decide +kernel
theorem dX2_copyFrom_93 : decode cX2_copyFrom 93 = .ok (.aload_n 1, 1) := by decide +kernel
theorem dX2_copyFrom_94 : decode cX2_copyFrom 94 = .ok (.getfield 21, 3) := by decide +kernel
theorem dX2_copyFrom_97 : decode cX2_copyFrom 97 = .ok (.iconst 0, 1) := by decide +kernel
theorem dX2_copyFrom_98 : decode cX2_copyFrom 98 = .ok (.aload_n 0, 1) := by decide +kernel
theorem dX2_copyFrom_99 : decode cX2_copyFrom 99 = .ok (.getfield 21, 3) := by decide +kernel
theorem dX2_copyFrom_102 : decode cX2_copyFrom 102 = .ok (.iconst 0, 1) := by decide +kernel
theorem dX2_copyFrom_103 : decode cX2_copyFrom 103 = .ok (.bipush 14, 2) := by decide +kernel
theorem dX2_copyFrom_105 : decode cX2_copyFrom 105 = .ok (.invokestatic 49, 3) := by decide +kernel
theorem dX2_copyFrom_108 : decode cX2_copyFrom 108 = .ok (.aload_n 1, 1) := by decide +kernel
theorem dX2_copyFrom_109 : decode cX2_copyFrom 109 = .ok (.getfield 24, 3) := by decide +kernel
theorem dX2_copyFrom_112 : decode cX2_copyFrom 112 = .ok (.iconst 0, 1) := by decide +kernel
theorem dX2_copyFrom_113 : decode cX2_copyFrom 113 = .ok (.aload_n 0, 1) := by decide +kernel
theorem dX2_copyFrom_114 : decode cX2_copyFrom 114 = .ok (.getfield 24, 3) := by decide +kernel
theorem dX2_copyFrom_117 : decode cX2_copyFrom 117 = .ok (.iconst 0, 1) := by decide +kernel
theorem dX2_copyFrom_118 : decode cX2_copyFrom 118 = .ok (.bipush 14, 2) := by decide +kernel
theorem dX2_copyFrom_120 : decode cX2_copyFrom 120 = .ok (.invokestatic 49, 3) := by decide +kernel
theorem dX2_copyFrom_123 : decode cX2_copyFrom 123 = .ok (.aload_n 1, 1) := by decide +kernel
theorem dX2_copyFrom_124 : decode cX2_copyFrom 124 = .ok (.getfield 27, 3) := by decide +kernel
theorem dX2_copyFrom_127 : decode cX2_copyFrom 127 = .ok (.iconst 0, 1) := by decide +kernel
theorem dX2_copyFrom_128 : decode cX2_copyFrom 128 = .ok (.aload_n 0, 1) := by decide +kernel
theorem dX2_copyFrom_129 : decode cX2_copyFrom 129 = .ok (.getfield 27, 3) := by decide +kernel
theorem dX2_copyFrom_132 : decode cX2_copyFrom 132 = .ok (.iconst 0, 1) := by decide +kernel
theorem dX2_copyFrom_133 : decode cX2_copyFrom 133 = .ok (.bipush 14, 2) := by decide +kernel
theorem dX2_copyFrom_135 : decode cX2_copyFrom 135 = .ok (.invokestatic 49, 3) := by decide +kernel
theorem dX2_copyFrom_138 : decode cX2_copyFrom 138 = .ok (.return_, 1) := by decide +kernel
theorem dX2_addFixed_0 : decode cX2_addFixed 0 = .ok (.aload_n 0, 1) := by decide +kernel
theorem dX2_addFixed_1 : decode cX2_addFixed 1 = .ok (.getfield 30, 3) := by decide +kernel
theorem dX2_addFixed_4 : decode cX2_addFixed 4 = .ok (.bipush 10, 2) := by decide +kernel
theorem dX2_addFixed_6 : decode cX2_addFixed 6 = .ok (.if_icmp .ge 21, 3) := by decide +kernel
theorem dX2_addFixed_9 : decode cX2_addFixed 9 = .ok (.iload_n 1, 1) := by decide +kernel
theorem dX2_addFixed_10 : decode cX2_addFixed 10 = .ok (.bipush 60, 2) := by decide +kernel
theorem dX2_addFixed_12 : decode cX2_addFixed 12 = .ok (.if_icmp .gt 15, 3) := by decide +kernel
theorem dX2_addFixed_15 : decode cX2_addFixed 15 = .ok (.iload_n 2, 1) := by decide +kernel
theorem dX2_addFixed_16 : decode cX2_addFixed 16 = .ok (.bipush 60, 2) := by decide +kernel
theorem dX2_addFixed_18 : decode cX2_addFixed 18 = .ok (.if_icmp .gt 9, 3) := by decide +kernel
theorem dX2_addFixed_21 : decode cX2_addFixed 21 = .ok (.iload_n 3, 1) := by decide +kernel
theorem dX2_addFixed_22 : decode cX2_addFixed 22 = .ok (.bipush 60, 2) := by decide +kernel
theorem dX2_addFixed_24 : decode cX2_addFixed 24 = .ok (.if_icmp .le 5, 3) := by decide +kernel
theorem dX2_addFixed_27 : decode cX2_addFixed 27 = .ok (.iconst 0, 1) := by decide +kernel
theorem dX2_addFixed_28 : decode cX2_addFixed 28 = .ok (.ireturn, 1) := by decide +kernel
theorem dX2_addFixed_29 : decode cX2_addFixed 29 = .ok (.aload_n 0, 1) := by decide +kernel
theorem dX2_addFixed_30 : decode cX2_addFixed 30 = .ok (.getfield 9, 3) := by decide +kernel
theorem dX2_addFixed_33 : decode cX2_addFixed 33 = .ok (.aload_n 0, 1) := by decide +kernel
theorem dX2_addFixed_34 : decode cX2_addFixed 34 = .ok (.getfield 30, 3) := by decide +kernel
theorem dX2_addFixed_37 : decode cX2_addFixed 37 = .ok (.iconst 3, 1) := by decide +kernel
theorem dX2_addFixed_38 : decode cX2_addFixed 38 = .ok (.imul, 1) := by decide +kernel
theorem dX2_addFixed_39 : decode cX2_addFixed 39 = .ok (.iload_n 1, 1) := by decide +kernel
theorem dX2_addFixed_40 : decode cX2_addFixed 40 = .ok (.iastore, 1) := by decide +kernel
theorem dX2_addFixed_41 : decode cX2_addFixed 41 = .ok (.aload_n 0, 1) := by decide +kernel
theorem dX2_addFixed_42 : decode cX2_addFixed 42 = .ok (.getfield 9, 3) := by decide +kernel
theorem dX2_addFixed_45 : decode cX2_addFixed 45 = .ok (.aload_n 0, 1) := by decide +kernel
theorem dX2_addFixed_46 : decode cX2_addFixed 46 = .ok (.getfield 30, 3) := by decide +kernel
theorem dX2_addFixed_49 : decode cX2_addFixed 49 = .ok (.iconst 3, 1) := by decide +kernel
theorem dX2_addFixed_50 : decode cX2_addFixed 50 = .ok (.imul, 1) := by decide +kernel
theorem dX2_addFixed_51 : decode cX2_addFixed 51 = .ok (.iconst 1, 1) := by decide +kernel
theorem dX2_addFixed_52 : decode cX2_addFixed 52 = .ok (.iadd, 1) := by decide +kernel
theorem dX2_addFixed_53 : decode cX2_addFixed 53 = .ok (.iload_n 2, 1) := by decide +kernel
theorem dX2_addFixed_54 : decode cX2_addFixed 54 = .ok (.iastore, 1) := by decide +kernel
theorem dX2_addFixed_55 : decode cX2_addFixed 55 = .ok (.aload_n 0, 1) := by decide +kernel
theorem dX2_addFixed_56 : decode cX2_addFixed 56 = .ok (.getfield 9, 3) := by decide +kernel
theorem dX2_addFixed_59 : decode cX2_addFixed 59 = .ok (.aload_n 0, 1) := by decide +kernel
theorem dX2_addFixed_60 : decode cX2_addFixed 60 = .ok (.getfield 30, 3) := by decide +kernel
theorem dX2_addFixed_63 : decode cX2_addFixed 63 = .ok (.iconst 3, 1) := by decide +kernel
theorem dX2_addFixed_64 : decode cX2_addFixed 64 = .ok (.imul, 1) := by decide +kernel
theorem dX2_addFixed_65 : decode cX2_addFixed 65 = .ok (.iconst 2, 1) := by decide +kernel
theorem dX2_addFixed_66 : decode cX2_addFixed 66 = .ok (.iadd, 1) := by decide +kernel
theorem dX2_addFixed_67 : decode cX2_addFixed 67 = .ok (.iload_n 3, 1) := by decide +kernel
theorem dX2_addFixed_68 : decode cX2_addFixed 68 = .ok (.iastore, 1) := by decide +kernel
theorem dX2_addFixed_69 : decode cX2_addFixed 69 = .ok (.aload_n 0, 1) := by decide +kernel
theorem dX2_addFixed_70 : decode cX2_addFixed 70 = .ok (.getfield 15, 3) := by decide +kernel
theorem dX2_addFixed_73 : decode cX2_addFixed 73 = .ok (.aload_n 0, 1) := by decide +kernel
theorem dX2_addFixed_74 : decode cX2_addFixed 74 = .ok (.getfield 30, 3) := by decide +kernel
theorem dX2_addFixed_77 : decode cX2_addFixed 77 = .ok (.iconst 0, 1) := by decide +kernel
theorem dX2_addFixed_78 : decode cX2_addFixed 78 = .ok (.iastore, 1) := by decide +kernel
theorem dX2_addFixed_79 : decode cX2_addFixed 79 = .ok (.aload_n 0, 1) := by decide +kernel
theorem dX2_addFixed_80 : decode cX2_addFixed 80 = .ok (.dup, 1) := by decide +kernel
theorem dX2_addFixed_81 : decode cX2_addFixed 81 = .ok (.getfield 30, 3) := by decide +kernel
theorem dX2_addFixed_84 : decode cX2_addFixed 84 = .ok (.iconst 1, 1) := by decide +kernel
theorem dX2_addFixed_85 : decode cX2_addFixed 85 = .ok (.iadd, 1) := by decide +kernel
theorem dX2_addFixed_86 : decode cX2_addFixed 86 = .ok (.putfield 30, 3) := by decide +kernel
theorem dX2_addFixed_89 : decode cX2_addFixed 89 = .ok (.iconst 1, 1) := by decide +kernel
theorem dX2_addFixed_90 : decode cX2_addFixed 90 = .ok (.ireturn, 1) := by decide +kernel
theorem dX2_addFree_0 : decode cX2_addFree 0 = .ok (.aload_n 0, 1) := by decide +kernel
theorem dX2_addFree_1 : decode cX2_addFree 1 = .ok (.getfield 30, 3) := by decide +kernel
theorem dX2_addFree_4 : decode cX2_addFree 4 = .ok (.bipush 10, 2) := by decide +kernel
theorem dX2_addFree_6 : decode cX2_addFree 6 = .ok (.if_icmp .ge 20, 3) := by decide +kernel
theorem dX2_addFree_9 : decode cX2_addFree 9 = .ok (.aload_n 0, 1) := by decide +kernel
theorem dX2_addFree_10 : decode cX2_addFree 10 = .ok (.getfield 34, 3) := by decide +kernel
theorem dX2_addFree_13 : decode cX2_addFree 13 = .ok (.invokestatic 55, 3) := by decide +kernel
theorem dX2_addFree_16 : decode cX2_addFree 16 = .ok (.iconst 5, 1) := by decide +kernel
theorem dX2_addFree_17 : decode cX2_addFree 17 = .ok (.if_icmp .ge 9, 3) := by decide +kernel
theorem dX2_addFree_20 : decode cX2_addFree 20 = .ok (.iload_n 1, 1) := by decide +kernel
theorem dX2_addFree_21 : decode cX2_addFree 21 = .ok (.bipush 9, 2) := by decide +kernel
theorem dX2_addFree_23 : decode cX2_addFree 23 = .ok (.if_icmp .le 5, 3) := by decide +kernel
theorem dX2_addFree_26 : decode cX2_addFree 26 = .ok (.iconst 0, 1) := by decide +kernel
theorem dX2_addFree_27 : decode cX2_addFree 27 = .ok (.ireturn, 1) := by decide +kernel
theorem dX2_addFree_28 : decode cX2_addFree 28 = .ok (.aload_n 0, 1) := by decide +kernel
theorem dX2_addFree_29 : decode cX2_addFree 29 = .ok (.dup, 1) := by decide +kernel
theorem dX2_addFree_30 : decode cX2_addFree 30 = .ok (.getfield 34, 3) := by decide +kernel
theorem dX2_addFree_33 : decode cX2_addFree 33 = .ok (.iconst 1, 1) := by decide +kernel
theorem dX2_addFree_34 : decode cX2_addFree 34 = .ok (.aload_n 0, 1) := by decide +kernel
theorem dX2_addFree_35 : decode cX2_addFree 35 = .ok (.getfield 30, 3) := by decide +kernel
theorem dX2_addFree_38 : decode cX2_addFree 38 = .ok (.ishl, 1) := by decide +kernel
theorem dX2_addFree_39 : decode cX2_addFree 39 = .ok (.ior, 1) := by decide +kernel
theorem dX2_addFree_40 : decode cX2_addFree 40 = .ok (.putfield 34, 3) := by decide +kernel
theorem dX2_addFree_43 : decode cX2_addFree 43 = .ok (.aload_n 0, 1) := by decide +kernel
theorem dX2_addFree_44 : decode cX2_addFree 44 = .ok (.getfield 15, 3) := by decide +kernel
theorem dX2_addFree_47 : decode cX2_addFree 47 = .ok (.aload_n 0, 1) := by decide +kernel
theorem dX2_addFree_48 : decode cX2_addFree 48 = .ok (.getfield 30, 3) := by decide +kernel
theorem dX2_addFree_51 : decode cX2_addFree 51 = .ok (.iload_n 1, 1) := by decide +kernel
theorem dX2_addFree_52 : decode cX2_addFree 52 = .ok (.iastore, 1) := by decide +kernel
theorem dX2_addFree_53 : decode cX2_addFree 53 = .ok (.aload_n 0, 1) := by decide +kernel
theorem dX2_addFree_54 : decode cX2_addFree 54 = .ok (.dup, 1) := by decide +kernel
theorem dX2_addFree_55 : decode cX2_addFree 55 = .ok (.getfield 30, 3) := by decide +kernel
theorem dX2_addFree_58 : decode cX2_addFree 58 = .ok (.iconst 1, 1) := by decide +kernel
theorem dX2_addFree_59 : decode cX2_addFree 59 = .ok (.iadd, 1) := by decide +kernel
theorem dX2_addFree_60 : decode cX2_addFree 60 = .ok (.putfield 30, 3) := by decide +kernel
theorem dX2_addFree_63 : decode cX2_addFree 63 = .ok (.iconst 1, 1) := by decide +kernel
theorem dX2_addFree_64 : decode cX2_addFree 64 = .ok (.ireturn, 1) := by decide +kernel
theorem dX2_addStrand_0 : decode cX2_addStrand 0 = .ok (.aload_n 0, 1) := by decide +kernel
theorem dX2_addStrand_1 : decode cX2_addStrand 1 = .ok (.iload_n 1, 1) := by decide +kernel
theorem dX2_addStrand_2 : decode cX2_addStrand 2 = .ok (.invokevirtual 61, 3) := by decide +kernel
theorem dX2_addStrand_5 : decode cX2_addStrand 5 = .ok (.ifCond .eq 20, 3) := by decide +kernel
theorem dX2_addStrand_8 : decode cX2_addStrand 8 = .ok (.aload_n 0, 1) := by decide +kernel
theorem dX2_addStrand_9 : decode cX2_addStrand 9 = .ok (.iload_n 2, 1) := by decide +kernel
theorem dX2_addStrand_10 : decode cX2_addStrand 10 = .ok (.invokevirtual 61, 3) := by decide +kernel
theorem dX2_addStrand_13 : decode cX2_addStrand 13 = .ok (.ifCond .eq 12, 3) := by decide +kernel
theorem dX2_addStrand_16 : decode cX2_addStrand 16 = .ok (.iload_n 1, 1) := by decide +kernel
theorem dX2_addStrand_17 : decode cX2_addStrand 17 = .ok (.iload_n 2, 1) := by decide +kernel
theorem dX2_addStrand_18 : decode cX2_addStrand 18 = .ok (.if_icmp .eq 7, 3) := by decide +kernel
theorem dX2_addStrand_21 : decode cX2_addStrand 21 = .ok (.iconst 1, 1) := by decide +kernel
theorem dX2_addStrand_22 : decode cX2_addStrand 22 = .ok (.goto 4, 3) := by decide +kernel
theorem dX2_addStrand_25 : decode cX2_addStrand 25 = .ok (.iconst 0, 1) := by decide +kernel
theorem dX2_addStrand_26 : decode cX2_addStrand 26 = .ok (.istore 5, 2) := by decide +kernel
theorem dX2_addStrand_28 : decode cX2_addStrand 28 = .ok (.aload_n 0, 1) := by decide +kernel
theorem dX2_addStrand_29 : decode cX2_addStrand 29 = .ok (.getfield 37, 3) := by decide +kernel
theorem dX2_addStrand_32 : decode cX2_addStrand 32 = .ok (.bipush 14, 2) := by decide +kernel
theorem dX2_addStrand_34 : decode cX2_addStrand 34 = .ok (.if_icmp .ge 17, 3) := by decide +kernel
theorem dX2_addStrand_37 : decode cX2_addStrand 37 = .ok (.iload 5, 2) := by decide +kernel
theorem dX2_addStrand_39 : decode cX2_addStrand 39 = .ok (.ifCond .eq 12, 3) := by decide +kernel
theorem dX2_addStrand_42 : decode cX2_addStrand 42 = .ok (.iload_n 3, 1) := by decide +kernel
theorem dX2_addStrand_43 : decode cX2_addStrand 43 = .ok (.iconst 1, 1) := by decide +kernel
theorem dX2_addStrand_44 : decode cX2_addStrand 44 = .ok (.iconst 5, 1) := by decide +kernel
theorem dX2_addStrand_45 : decode cX2_addStrand 45 = .ok (.invokestatic 65, 3) := by decide +kernel
theorem dX2_addStrand_48 : decode cX2_addStrand 48 = .ok (.ifCond .ne 5, 3) := by decide +kernel
theorem dX2_addStrand_51 : decode cX2_addStrand 51 = .ok (.iconst 0, 1) := by decide +kernel
theorem dX2_addStrand_52 : decode cX2_addStrand 52 = .ok (.ireturn, 1) := by decide +kernel
theorem dX2_addStrand_53 : decode cX2_addStrand 53 = .ok (.aload_n 0, 1) := by decide +kernel
theorem dX2_addStrand_54 : decode cX2_addStrand 54 = .ok (.iload_n 1, 1) := by decide +kernel
theorem dX2_addStrand_55 : decode cX2_addStrand 55 = .ok (.invokevirtual 69, 3) := by decide +kernel
theorem dX2_addStrand_58 : decode cX2_addStrand 58 = .ok (.aload_n 0, 1) := by decide +kernel
theorem dX2_addStrand_59 : decode cX2_addStrand 59 = .ok (.iload_n 2, 1) := by decide +kernel
theorem dX2_addStrand_60 : decode cX2_addStrand 60 = .ok (.invokevirtual 69, 3) := by decide +kernel
theorem dX2_addStrand_63 : decode cX2_addStrand 63 = .ok (.iand, 1) := by decide +kernel
theorem dX2_addStrand_64 : decode cX2_addStrand 64 = .ok (.ifCond .eq 7, 3) := by decide +kernel
theorem dX2_addStrand_67 : decode cX2_addStrand 67 = .ok (.iconst 1, 1) := by decide +kernel
theorem dX2_addStrand_68 : decode cX2_addStrand 68 = .ok (.goto 4, 3) := by decide +kernel
theorem dX2_addStrand_71 : decode cX2_addStrand 71 = .ok (.iconst 0, 1) := by decide +kernel
theorem dX2_addStrand_72 : decode cX2_addStrand 72 = .ok (.istore 6, 2) := by decide +kernel
theorem dX2_addStrand_74 : decode cX2_addStrand 74 = .ok (.iload 4, 2) := by decide +kernel
theorem dX2_addStrand_76 : decode cX2_addStrand 76 = .ok (.bipush 99, 2) := by decide +kernel
theorem dX2_addStrand_78 : decode cX2_addStrand 78 = .ok (.if_icmp .gt 24, 3) := by decide +kernel
theorem dX2_addStrand_81 : decode cX2_addStrand 81 = .ok (.iload 6, 2) := by decide +kernel
theorem dX2_addStrand_83 : decode cX2_addStrand 83 = .ok (.ifCond .ne 19, 3) := by decide +kernel
theorem dX2_addStrand_86 : decode cX2_addStrand 86 = .ok (.aload_n 0, 1) := by decide +kernel
theorem dX2_addStrand_87 : decode cX2_addStrand 87 = .ok (.iload_n 1, 1) := by decide +kernel
theorem dX2_addStrand_88 : decode cX2_addStrand 88 = .ok (.invokevirtual 72, 3) := by decide +kernel
theorem dX2_addStrand_91 : decode cX2_addStrand 91 = .ok (.ifCond .ne 11, 3) := by decide +kernel
theorem dX2_addStrand_94 : decode cX2_addStrand 94 = .ok (.aload_n 0, 1) := by decide +kernel
theorem dX2_addStrand_95 : decode cX2_addStrand 95 = .ok (.iload_n 2, 1) := by decide +kernel
theorem dX2_addStrand_96 : decode cX2_addStrand 96 = .ok (.invokevirtual 72, 3) := by decide +kernel
theorem dX2_addStrand_99 : decode cX2_addStrand 99 = .ok (.ifCond .eq 5, 3) := by decide +kernel
theorem dX2_addStrand_102 : decode cX2_addStrand 102 = .ok (.iconst 0, 1) := by decide +kernel
theorem dX2_addStrand_103 : decode cX2_addStrand 103 = .ok (.ireturn, 1) := by decide +kernel
theorem dX2_addStrand_104 : decode cX2_addStrand 104 = .ok (.aload_n 0, 1) := by decide +kernel
theorem dX2_addStrand_105 : decode cX2_addStrand 105 = .ok (.getfield 18, 3) := by decide +kernel
theorem dX2_addStrand_108 : decode cX2_addStrand 108 = .ok (.aload_n 0, 1) := by decide +kernel
theorem dX2_addStrand_109 : decode cX2_addStrand 109 = .ok (.getfield 37, 3) := by decide +kernel
theorem dX2_addStrand_112 : decode cX2_addStrand 112 = .ok (.iload_n 1, 1) := by decide +kernel
theorem dX2_addStrand_113 : decode cX2_addStrand 113 = .ok (.iastore, 1) := by decide +kernel
theorem dX2_addStrand_114 : decode cX2_addStrand 114 = .ok (.aload_n 0, 1) := by decide +kernel
theorem dX2_addStrand_115 : decode cX2_addStrand 115 = .ok (.getfield 21, 3) := by decide +kernel
theorem dX2_addStrand_118 : decode cX2_addStrand 118 = .ok (.aload_n 0, 1) := by decide +kernel
theorem dX2_addStrand_119 : decode cX2_addStrand 119 = .ok (.getfield 37, 3) := by decide +kernel
theorem dX2_addStrand_122 : decode cX2_addStrand 122 = .ok (.iload_n 2, 1) := by decide +kernel
theorem dX2_addStrand_123 : decode cX2_addStrand 123 = .ok (.iastore, 1) := by decide +kernel
theorem dX2_addStrand_124 : decode cX2_addStrand 124 = .ok (.aload_n 0, 1) := by decide +kernel
theorem dX2_addStrand_125 : decode cX2_addStrand 125 = .ok (.getfield 24, 3) := by decide +kernel
theorem dX2_addStrand_128 : decode cX2_addStrand 128 = .ok (.aload_n 0, 1) := by decide +kernel
theorem dX2_addStrand_129 : decode cX2_addStrand 129 = .ok (.getfield 37, 3) := by decide +kernel
theorem dX2_addStrand_132 : decode cX2_addStrand 132 = .ok (.iload_n 3, 1) := by decide +kernel
theorem dX2_addStrand_133 : decode cX2_addStrand 133 = .ok (.iastore, 1) := by decide +kernel
theorem dX2_addStrand_134 : decode cX2_addStrand 134 = .ok (.aload_n 0, 1) := by decide +kernel
theorem dX2_addStrand_135 : decode cX2_addStrand 135 = .ok (.getfield 27, 3) := by decide +kernel
theorem dX2_addStrand_138 : decode cX2_addStrand 138 = .ok (.aload_n 0, 1) := by decide +kernel
theorem dX2_addStrand_139 : decode cX2_addStrand 139 = .ok (.getfield 37, 3) := by decide +kernel
theorem dX2_addStrand_142 : decode cX2_addStrand 142 = .ok (.iload 4, 2) := by decide +kernel
theorem dX2_addStrand_144 : decode cX2_addStrand 144 = .ok (.iastore, 1) := by decide +kernel
theorem dX2_addStrand_145 : decode cX2_addStrand 145 = .ok (.aload_n 0, 1) := by decide +kernel
theorem dX2_addStrand_146 : decode cX2_addStrand 146 = .ok (.dup, 1) := by decide +kernel
theorem dX2_addStrand_147 : decode cX2_addStrand 147 = .ok (.getfield 40, 3) := by decide +kernel
theorem dX2_addStrand_150 : decode cX2_addStrand 150 = .ok (.iconst 1, 1) := by decide +kernel
theorem dX2_addStrand_151 : decode cX2_addStrand 151 = .ok (.aload_n 0, 1) := by decide +kernel
theorem dX2_addStrand_152 : decode cX2_addStrand 152 = .ok (.getfield 37, 3) := by decide +kernel
theorem dX2_addStrand_155 : decode cX2_addStrand 155 = .ok (.ishl, 1) := by decide +kernel
theorem dX2_addStrand_156 : decode cX2_addStrand 156 = .ok (.ior, 1) := by decide +kernel
theorem dX2_addStrand_157 : decode cX2_addStrand 157 = .ok (.putfield 40, 3) := by decide +kernel
theorem dX2_addStrand_160 : decode cX2_addStrand 160 = .ok (.aload_n 0, 1) := by decide +kernel
theorem dX2_addStrand_161 : decode cX2_addStrand 161 = .ok (.dup, 1) := by decide +kernel
theorem dX2_addStrand_162 : decode cX2_addStrand 162 = .ok (.getfield 37, 3) := by decide +kernel
theorem dX2_addStrand_165 : decode cX2_addStrand 165 = .ok (.iconst 1, 1) := by decide +kernel
theorem dX2_addStrand_166 : decode cX2_addStrand 166 = .ok (.iadd, 1) := by decide +kernel
theorem dX2_addStrand_167 : decode cX2_addStrand 167 = .ok (.putfield 37, 3) := by decide +kernel
theorem dX2_addStrand_170 : decode cX2_addStrand 170 = .ok (.iconst 1, 1) := by decide +kernel
theorem dX2_addStrand_171 : decode cX2_addStrand 171 = .ok (.ireturn, 1) := by decide +kernel
theorem dX2_tellRolls_0 : decode cX2_tellRolls 0 = .ok (.iload_n 1, 1) := by decide +kernel
theorem dX2_tellRolls_1 : decode cX2_tellRolls 1 = .ok (.iconst 1, 1) := by decide +kernel
theorem dX2_tellRolls_2 : decode cX2_tellRolls 2 = .ok (.bipush 99, 2) := by decide +kernel
theorem dX2_tellRolls_4 : decode cX2_tellRolls 4 = .ok (.invokestatic 65, 3) := by decide +kernel
theorem dX2_tellRolls_7 : decode cX2_tellRolls 7 = .ok (.ifCond .eq 9, 3) := by decide +kernel
theorem dX2_tellRolls_10 : decode cX2_tellRolls 10 = .ok (.iload_n 2, 1) := by decide +kernel
theorem dX2_tellRolls_11 : decode cX2_tellRolls 11 = .ok (.bipush 50, 2) := by decide +kernel
theorem dX2_tellRolls_13 : decode cX2_tellRolls 13 = .ok (.if_icmp .le 5, 3) := by decide +kernel
theorem dX2_tellRolls_16 : decode cX2_tellRolls 16 = .ok (.iconst 0, 1) := by decide +kernel
theorem dX2_tellRolls_17 : decode cX2_tellRolls 17 = .ok (.ireturn, 1) := by decide +kernel
theorem dX2_tellRolls_18 : decode cX2_tellRolls 18 = .ok (.aload_n 0, 1) := by decide +kernel
theorem dX2_tellRolls_19 : decode cX2_tellRolls 19 = .ok (.iload_n 1, 1) := by decide +kernel
theorem dX2_tellRolls_20 : decode cX2_tellRolls 20 = .ok (.putfield 43, 3) := by decide +kernel
theorem dX2_tellRolls_23 : decode cX2_tellRolls 23 = .ok (.aload_n 0, 1) := by decide +kernel
theorem dX2_tellRolls_24 : decode cX2_tellRolls 24 = .ok (.iload_n 2, 1) := by decide +kernel
theorem dX2_tellRolls_25 : decode cX2_tellRolls 25 = .ok (.putfield 46, 3) := by decide +kernel
theorem dX2_tellRolls_28 : decode cX2_tellRolls 28 = .ok (.iconst 1, 1) := by decide +kernel
theorem dX2_tellRolls_29 : decode cX2_tellRolls 29 = .ok (.ireturn, 1) := by decide +kernel
theorem dX2_takesNoMore_0 : decode cX2_takesNoMore 0 = .ok (.aload_n 0, 1) := by decide +kernel
theorem dX2_takesNoMore_1 : decode cX2_takesNoMore 1 = .ok (.iload_n 1, 1) := by decide +kernel
theorem dX2_takesNoMore_2 : decode cX2_takesNoMore 2 = .ok (.invokevirtual 75, 3) := by decide +kernel
theorem dX2_takesNoMore_5 : decode cX2_takesNoMore 5 = .ok (.ifCond .eq 19, 3) := by decide +kernel
theorem dX2_takesNoMore_8 : decode cX2_takesNoMore 8 = .ok (.aload_n 0, 1) := by decide +kernel
theorem dX2_takesNoMore_9 : decode cX2_takesNoMore 9 = .ok (.iload_n 1, 1) := by decide +kernel
theorem dX2_takesNoMore_10 : decode cX2_takesNoMore 10 = .ok (.invokevirtual 69, 3) := by decide +kernel
theorem dX2_takesNoMore_13 : decode cX2_takesNoMore 13 = .ok (.invokestatic 55, 3) := by decide +kernel
theorem dX2_takesNoMore_16 : decode cX2_takesNoMore 16 = .ok (.iconst 4, 1) := by decide +kernel
theorem dX2_takesNoMore_17 : decode cX2_takesNoMore 17 = .ok (.if_icmp .lt 7, 3) := by decide +kernel
theorem dX2_takesNoMore_20 : decode cX2_takesNoMore 20 = .ok (.iconst 1, 1) := by decide +kernel
theorem dX2_takesNoMore_21 : decode cX2_takesNoMore 21 = .ok (.goto 4, 3) := by decide +kernel
theorem dX2_takesNoMore_24 : decode cX2_takesNoMore 24 = .ok (.iconst 0, 1) := by decide +kernel
theorem dX2_takesNoMore_25 : decode cX2_takesNoMore 25 = .ok (.ireturn, 1) := by decide +kernel
theorem dX2_hasJoint_0 : decode cX2_hasJoint 0 = .ok (.iload_n 1, 1) := by decide +kernel
theorem dX2_hasJoint_1 : decode cX2_hasJoint 1 = .ok (.iconst 0, 1) := by decide +kernel
theorem dX2_hasJoint_2 : decode cX2_hasJoint 2 = .ok (.aload_n 0, 1) := by decide +kernel
theorem dX2_hasJoint_3 : decode cX2_hasJoint 3 = .ok (.getfield 30, 3) := by decide +kernel
theorem dX2_hasJoint_6 : decode cX2_hasJoint 6 = .ok (.iconst 1, 1) := by decide +kernel
theorem dX2_hasJoint_7 : decode cX2_hasJoint 7 = .ok (.isub, 1) := by decide +kernel
theorem dX2_hasJoint_8 : decode cX2_hasJoint 8 = .ok (.invokestatic 65, 3) := by decide +kernel
theorem dX2_hasJoint_11 : decode cX2_hasJoint 11 = .ok (.ireturn, 1) := by decide +kernel
theorem dX2_hasStrand_0 : decode cX2_hasStrand 0 = .ok (.iload_n 1, 1) := by decide +kernel
theorem dX2_hasStrand_1 : decode cX2_hasStrand 1 = .ok (.iconst 0, 1) := by decide +kernel
theorem dX2_hasStrand_2 : decode cX2_hasStrand 2 = .ok (.aload_n 0, 1) := by decide +kernel
theorem dX2_hasStrand_3 : decode cX2_hasStrand 3 = .ok (.getfield 37, 3) := by decide +kernel
theorem dX2_hasStrand_6 : decode cX2_hasStrand 6 = .ok (.iconst 1, 1) := by decide +kernel
theorem dX2_hasStrand_7 : decode cX2_hasStrand 7 = .ok (.isub, 1) := by decide +kernel
theorem dX2_hasStrand_8 : decode cX2_hasStrand 8 = .ok (.invokestatic 65, 3) := by decide +kernel
theorem dX2_hasStrand_11 : decode cX2_hasStrand 11 = .ok (.ireturn, 1) := by decide +kernel
theorem dX2_isFree_0 : decode cX2_isFree 0 = .ok (.aload_n 0, 1) := by decide +kernel
theorem dX2_isFree_1 : decode cX2_isFree 1 = .ok (.getfield 34, 3) := by decide +kernel
theorem dX2_isFree_4 : decode cX2_isFree 4 = .ok (.iload_n 1, 1) := by decide +kernel
theorem dX2_isFree_5 : decode cX2_isFree 5 = .ok (.ishr, 1) := by decide +kernel
theorem dX2_isFree_6 : decode cX2_isFree 6 = .ok (.iconst 1, 1) := by decide +kernel
theorem dX2_isFree_7 : decode cX2_isFree 7 = .ok (.iand, 1) := by decide +kernel
theorem dX2_isFree_8 : decode cX2_isFree 8 = .ok (.iconst 1, 1) := by decide +kernel
theorem dX2_isFree_9 : decode cX2_isFree 9 = .ok (.if_icmp .ne 7, 3) := by decide +kernel
theorem dX2_isFree_12 : decode cX2_isFree 12 = .ok (.iconst 1, 1) := by decide +kernel
theorem dX2_isFree_13 : decode cX2_isFree 13 = .ok (.goto 4, 3) := by decide +kernel
theorem dX2_isFree_16 : decode cX2_isFree 16 = .ok (.iconst 0, 1) := by decide +kernel
theorem dX2_isFree_17 : decode cX2_isFree 17 = .ok (.ireturn, 1) := by decide +kernel
theorem dX2_hangs_0 : decode cX2_hangs 0 = .ok (.aload_n 0, 1) := by decide +kernel
theorem dX2_hangs_1 : decode cX2_hangs 1 = .ok (.getfield 40, 3) := by decide +kernel
theorem dX2_hangs_4 : decode cX2_hangs 4 = .ok (.iload_n 1, 1) := by decide +kernel
theorem dX2_hangs_5 : decode cX2_hangs 5 = .ok (.ishr, 1) := by decide +kernel
theorem dX2_hangs_6 : decode cX2_hangs 6 = .ok (.iconst 1, 1) := by decide +kernel
theorem dX2_hangs_7 : decode cX2_hangs 7 = .ok (.iand, 1) := by decide +kernel
theorem dX2_hangs_8 : decode cX2_hangs 8 = .ok (.iconst 1, 1) := by decide +kernel
theorem dX2_hangs_9 : decode cX2_hangs 9 = .ok (.if_icmp .ne 7, 3) := by decide +kernel
theorem dX2_hangs_12 : decode cX2_hangs 12 = .ok (.iconst 1, 1) := by decide +kernel
theorem dX2_hangs_13 : decode cX2_hangs 13 = .ok (.goto 4, 3) := by decide +kernel
theorem dX2_hangs_16 : decode cX2_hangs 16 = .ok (.iconst 0, 1) := by decide +kernel
theorem dX2_hangs_17 : decode cX2_hangs 17 = .ok (.ireturn, 1) := by decide +kernel
theorem dX2_strandsAt_0 : decode cX2_strandsAt 0 = .ok (.iconst 0, 1) := by decide +kernel
theorem dX2_strandsAt_1 : decode cX2_strandsAt 1 = .ok (.istore_n 2, 1) := by decide +kernel
theorem dX2_strandsAt_2 : decode cX2_strandsAt 2 = .ok (.iconst 0, 1) := by decide +kernel
theorem dX2_strandsAt_3 : decode cX2_strandsAt 3 = .ok (.istore_n 3, 1) := by decide +kernel
theorem dX2_strandsAt_4 : decode cX2_strandsAt 4 = .ok (.iload_n 3, 1) := by decide +kernel
theorem dX2_strandsAt_5 : decode cX2_strandsAt 5 = .ok (.aload_n 0, 1) := by decide +kernel
theorem dX2_strandsAt_6 : decode cX2_strandsAt 6 = .ok (.getfield 37, 3) := by decide +kernel
theorem dX2_strandsAt_9 : decode cX2_strandsAt 9 = .ok (.if_icmp .ge 35, 3) := by decide +kernel
theorem dX2_strandsAt_12 : decode cX2_strandsAt 12 = .ok (.aload_n 0, 1) := by decide +kernel
theorem dX2_strandsAt_13 : decode cX2_strandsAt 13 = .ok (.getfield 18, 3) := by decide +kernel
theorem dX2_strandsAt_16 : decode cX2_strandsAt 16 = .ok (.iload_n 3, 1) := by decide +kernel
theorem dX2_strandsAt_17 : decode cX2_strandsAt 17 = .ok (.iaload, 1) := by decide +kernel
theorem dX2_strandsAt_18 : decode cX2_strandsAt 18 = .ok (.iload_n 1, 1) := by decide +kernel
theorem dX2_strandsAt_19 : decode cX2_strandsAt 19 = .ok (.if_icmp .eq 13, 3) := by decide +kernel
theorem dX2_strandsAt_22 : decode cX2_strandsAt 22 = .ok (.aload_n 0, 1) := by decide +kernel
theorem dX2_strandsAt_23 : decode cX2_strandsAt 23 = .ok (.getfield 21, 3) := by decide +kernel
theorem dX2_strandsAt_26 : decode cX2_strandsAt 26 = .ok (.iload_n 3, 1) := by decide +kernel
theorem dX2_strandsAt_27 : decode cX2_strandsAt 27 = .ok (.iaload, 1) := by decide +kernel
theorem dX2_strandsAt_28 : decode cX2_strandsAt 28 = .ok (.iload_n 1, 1) := by decide +kernel
theorem dX2_strandsAt_29 : decode cX2_strandsAt 29 = .ok (.if_icmp .ne 9, 3) := by decide +kernel
theorem dX2_strandsAt_32 : decode cX2_strandsAt 32 = .ok (.iload_n 2, 1) := by decide +kernel
theorem dX2_strandsAt_33 : decode cX2_strandsAt 33 = .ok (.iconst 1, 1) := by decide +kernel
theorem dX2_strandsAt_34 : decode cX2_strandsAt 34 = .ok (.iload_n 3, 1) := by decide +kernel
theorem dX2_strandsAt_35 : decode cX2_strandsAt 35 = .ok (.ishl, 1) := by decide +kernel
theorem dX2_strandsAt_36 : decode cX2_strandsAt 36 = .ok (.ior, 1) := by decide +kernel
theorem dX2_strandsAt_37 : decode cX2_strandsAt 37 = .ok (.istore_n 2, 1) := by decide +kernel
theorem dX2_strandsAt_38 : decode cX2_strandsAt 38 = .ok (.iinc 3 1, 3) := by decide +kernel
theorem dX2_strandsAt_41 : decode cX2_strandsAt 41 = .ok (.goto (-37), 3) := by decide +kernel
theorem dX2_strandsAt_44 : decode cX2_strandsAt 44 = .ok (.iload_n 2, 1) := by decide +kernel
theorem dX2_strandsAt_45 : decode cX2_strandsAt 45 = .ok (.ireturn, 1) := by decide +kernel
theorem dX2_otherEnd_0 : decode cX2_otherEnd 0 = .ok (.aload_n 0, 1) := by decide +kernel
theorem dX2_otherEnd_1 : decode cX2_otherEnd 1 = .ok (.getfield 18, 3) := by decide +kernel
theorem dX2_otherEnd_4 : decode cX2_otherEnd 4 = .ok (.iload_n 1, 1) := by decide +kernel
theorem dX2_otherEnd_5 : decode cX2_otherEnd 5 = .ok (.iaload, 1) := by decide +kernel
theorem dX2_otherEnd_6 : decode cX2_otherEnd 6 = .ok (.iload_n 2, 1) := by decide +kernel
theorem dX2_otherEnd_7 : decode cX2_otherEnd 7 = .ok (.if_icmp .ne 12, 3) := by decide +kernel
theorem dX2_otherEnd_10 : decode cX2_otherEnd 10 = .ok (.aload_n 0, 1) := by decide +kernel
theorem dX2_otherEnd_11 : decode cX2_otherEnd 11 = .ok (.getfield 21, 3) := by decide +kernel
theorem dX2_otherEnd_14 : decode cX2_otherEnd 14 = .ok (.iload_n 1, 1) := by decide +kernel
theorem dX2_otherEnd_15 : decode cX2_otherEnd 15 = .ok (.iaload, 1) := by decide +kernel
theorem dX2_otherEnd_16 : decode cX2_otherEnd 16 = .ok (.goto 9, 3) := by decide +kernel
theorem dX2_otherEnd_19 : decode cX2_otherEnd 19 = .ok (.aload_n 0, 1) := by decide +kernel
theorem dX2_otherEnd_20 : decode cX2_otherEnd 20 = .ok (.getfield 18, 3) := by decide +kernel
theorem dX2_otherEnd_23 : decode cX2_otherEnd 23 = .ok (.iload_n 1, 1) := by decide +kernel
theorem dX2_otherEnd_24 : decode cX2_otherEnd 24 = .ok (.iaload, 1) := by decide +kernel
theorem dX2_otherEnd_25 : decode cX2_otherEnd 25 = .ok (.ireturn, 1) := by decide +kernel
theorem dX2_hungJoints_0 : decode cX2_hungJoints 0 = .ok (.iconst 1, 1) := by decide +kernel
theorem dX2_hungJoints_1 : decode cX2_hungJoints 1 = .ok (.aload_n 0, 1) := by decide +kernel
theorem dX2_hungJoints_2 : decode cX2_hungJoints 2 = .ok (.getfield 30, 3) := by decide +kernel
theorem dX2_hungJoints_5 : decode cX2_hungJoints 5 = .ok (.ishl, 1) := by decide +kernel
theorem dX2_hungJoints_6 : decode cX2_hungJoints 6 = .ok (.iconst 1, 1) := by decide +kernel
theorem dX2_hungJoints_7 : decode cX2_hungJoints 7 = .ok (.isub, 1) := by decide +kernel
theorem dX2_hungJoints_8 : decode cX2_hungJoints 8 = .ok (.aload_n 0, 1) := by decide +kernel
theorem dX2_hungJoints_9 : decode cX2_hungJoints 9 = .ok (.getfield 34, 3) := by decide +kernel
theorem dX2_hungJoints_12 : decode cX2_hungJoints 12 = .ok (.iconst (-1), 1) := by decide +kernel
theorem dX2_hungJoints_13 : decode cX2_hungJoints 13 = .ok (.ixor, 1) := by decide +kernel
theorem dX2_hungJoints_14 : decode cX2_hungJoints 14 = .ok (.iand, 1) := by decide +kernel
theorem dX2_hungJoints_15 : decode cX2_hungJoints 15 = .ok (.istore_n 2, 1) := by decide +kernel
theorem dX2_hungJoints_16 : decode cX2_hungJoints 16 = .ok (.iconst 0, 1) := by decide +kernel
theorem dX2_hungJoints_17 : decode cX2_hungJoints 17 = .ok (.istore_n 3, 1) := by decide +kernel
theorem dX2_hungJoints_18 : decode cX2_hungJoints 18 = .ok (.iload_n 3, 1) := by decide +kernel
theorem dX2_hungJoints_19 : decode cX2_hungJoints 19 = .ok (.aload_n 0, 1) := by decide +kernel
theorem dX2_hungJoints_20 : decode cX2_hungJoints 20 = .ok (.getfield 30, 3) := by decide +kernel
theorem dX2_hungJoints_23 : decode cX2_hungJoints 23 = .ok (.if_icmp .ge 82, 3) := by decide +kernel
theorem dX2_hungJoints_26 : decode cX2_hungJoints 26 = .ok (.iload_n 2, 1) := by decide +kernel
theorem dX2_hungJoints_27 : decode cX2_hungJoints 27 = .ok (.istore 4, 2) := by decide +kernel
theorem dX2_hungJoints_29 : decode cX2_hungJoints 29 = .ok (.iconst 0, 1) := by decide +kernel
theorem dX2_hungJoints_30 : decode cX2_hungJoints 30 = .ok (.istore 5, 2) := by decide +kernel
theorem dX2_hungJoints_32 : decode cX2_hungJoints 32 = .ok (.iload 5, 2) := by decide +kernel
theorem dX2_hungJoints_34 : decode cX2_hungJoints 34 = .ok (.aload_n 0, 1) := by decide +kernel
theorem dX2_hungJoints_35 : decode cX2_hungJoints 35 = .ok (.getfield 37, 3) := by decide +kernel
theorem dX2_hungJoints_38 : decode cX2_hungJoints 38 = .ok (.if_icmp .ge 52, 3) := by decide +kernel
theorem dX2_hungJoints_41 : decode cX2_hungJoints 41 = .ok (.iconst 1, 1) := by decide +kernel
theorem dX2_hungJoints_42 : decode cX2_hungJoints 42 = .ok (.aload_n 0, 1) := by decide +kernel
theorem dX2_hungJoints_43 : decode cX2_hungJoints 43 = .ok (.getfield 18, 3) := by decide +kernel
theorem dX2_hungJoints_46 : decode cX2_hungJoints 46 = .ok (.iload 5, 2) := by decide +kernel
theorem dX2_hungJoints_48 : decode cX2_hungJoints 48 = .ok (.iaload, 1) := by decide +kernel
theorem dX2_hungJoints_49 : decode cX2_hungJoints 49 = .ok (.ishl, 1) := by decide +kernel
theorem dX2_hungJoints_50 : decode cX2_hungJoints 50 = .ok (.iconst 1, 1) := by decide +kernel
theorem dX2_hungJoints_51 : decode cX2_hungJoints 51 = .ok (.aload_n 0, 1) := by decide +kernel
theorem dX2_hungJoints_52 : decode cX2_hungJoints 52 = .ok (.getfield 21, 3) := by decide +kernel
theorem dX2_hungJoints_55 : decode cX2_hungJoints 55 = .ok (.iload 5, 2) := by decide +kernel
theorem dX2_hungJoints_57 : decode cX2_hungJoints 57 = .ok (.iaload, 1) := by decide +kernel
theorem dX2_hungJoints_58 : decode cX2_hungJoints 58 = .ok (.ishl, 1) := by decide +kernel
theorem dX2_hungJoints_59 : decode cX2_hungJoints 59 = .ok (.ior, 1) := by decide +kernel
theorem dX2_hungJoints_60 : decode cX2_hungJoints 60 = .ok (.istore 6, 2) := by decide +kernel
theorem dX2_hungJoints_62 : decode cX2_hungJoints 62 = .ok (.iload_n 1, 1) := by decide +kernel
theorem dX2_hungJoints_63 : decode cX2_hungJoints 63 = .ok (.iload 5, 2) := by decide +kernel
theorem dX2_hungJoints_65 : decode cX2_hungJoints 65 = .ok (.ishr, 1) := by decide +kernel
theorem dX2_hungJoints_66 : decode cX2_hungJoints 66 = .ok (.iconst 1, 1) := by decide +kernel
theorem dX2_hungJoints_67 : decode cX2_hungJoints 67 = .ok (.iand, 1) := by decide +kernel
theorem dX2_hungJoints_68 : decode cX2_hungJoints 68 = .ok (.iconst 1, 1) := by decide +kernel
theorem dX2_hungJoints_69 : decode cX2_hungJoints 69 = .ok (.if_icmp .ne 15, 3) := by decide +kernel
theorem dX2_hungJoints_72 : decode cX2_hungJoints 72 = .ok (.iload_n 2, 1) := by decide +kernel
theorem dX2_hungJoints_73 : decode cX2_hungJoints 73 = .ok (.iload 6, 2) := by decide +kernel
theorem dX2_hungJoints_75 : decode cX2_hungJoints 75 = .ok (.iand, 1) := by decide +kernel
theorem dX2_hungJoints_76 : decode cX2_hungJoints 76 = .ok (.ifCond .eq 8, 3) := by decide +kernel
theorem dX2_hungJoints_79 : decode cX2_hungJoints 79 = .ok (.iload_n 2, 1) := by decide +kernel
theorem dX2_hungJoints_80 : decode cX2_hungJoints 80 = .ok (.iload 6, 2) := by decide +kernel
theorem dX2_hungJoints_82 : decode cX2_hungJoints 82 = .ok (.ior, 1) := by decide +kernel
theorem dX2_hungJoints_83 : decode cX2_hungJoints 83 = .ok (.istore_n 2, 1) := by decide +kernel
theorem dX2_hungJoints_84 : decode cX2_hungJoints 84 = .ok (.iinc 5 1, 3) := by decide +kernel
theorem dX2_hungJoints_87 : decode cX2_hungJoints 87 = .ok (.goto (-55), 3) := by decide +kernel
theorem dX2_hungJoints_90 : decode cX2_hungJoints 90 = .ok (.iload_n 2, 1) := by decide +kernel
theorem dX2_hungJoints_91 : decode cX2_hungJoints 91 = .ok (.iload 4, 2) := by decide +kernel
theorem dX2_hungJoints_93 : decode cX2_hungJoints 93 = .ok (.if_icmp .ne 6, 3) := by decide +kernel
theorem dX2_hungJoints_96 : decode cX2_hungJoints 96 = .ok (.goto 9, 3) := by decide +kernel
theorem dX2_hungJoints_99 : decode cX2_hungJoints 99 = .ok (.iinc 3 1, 3) := by decide +kernel
theorem dX2_hungJoints_102 : decode cX2_hungJoints 102 = .ok (.goto (-84), 3) := by decide +kernel
theorem dX2_hungJoints_105 : decode cX2_hungJoints 105 = .ok (.iload_n 2, 1) := by decide +kernel
theorem dX2_hungJoints_106 : decode cX2_hungJoints 106 = .ok (.ireturn, 1) := by decide +kernel
theorem dX2_allHung_0 : decode cX2_allHung 0 = .ok (.aload_n 0, 1) := by decide +kernel
theorem dX2_allHung_1 : decode cX2_allHung 1 = .ok (.getfield 34, 3) := by decide +kernel
theorem dX2_allHung_4 : decode cX2_allHung 4 = .ok (.aload_n 0, 1) := by decide +kernel
theorem dX2_allHung_5 : decode cX2_allHung 5 = .ok (.aload_n 0, 1) := by decide +kernel
theorem dX2_allHung_6 : decode cX2_allHung 6 = .ok (.getfield 40, 3) := by decide +kernel
theorem dX2_allHung_9 : decode cX2_allHung 9 = .ok (.invokevirtual 78, 3) := by decide +kernel
theorem dX2_allHung_12 : decode cX2_allHung 12 = .ok (.iconst (-1), 1) := by decide +kernel
theorem dX2_allHung_13 : decode cX2_allHung 13 = .ok (.ixor, 1) := by decide +kernel
theorem dX2_allHung_14 : decode cX2_allHung 14 = .ok (.iand, 1) := by decide +kernel
theorem dX2_allHung_15 : decode cX2_allHung 15 = .ok (.ifCond .ne 7, 3) := by decide +kernel
theorem dX2_allHung_18 : decode cX2_allHung 18 = .ok (.iconst 1, 1) := by decide +kernel
theorem dX2_allHung_19 : decode cX2_allHung 19 = .ok (.goto 4, 3) := by decide +kernel
theorem dX2_allHung_22 : decode cX2_allHung 22 = .ok (.iconst 0, 1) := by decide +kernel
theorem dX2_allHung_23 : decode cX2_allHung 23 = .ok (.ireturn, 1) := by decide +kernel
theorem dX2_isNeeded_0 : decode cX2_isNeeded 0 = .ok (.aload_n 0, 1) := by decide +kernel
theorem dX2_isNeeded_1 : decode cX2_isNeeded 1 = .ok (.getfield 34, 3) := by decide +kernel
theorem dX2_isNeeded_4 : decode cX2_isNeeded 4 = .ok (.aload_n 0, 1) := by decide +kernel
theorem dX2_isNeeded_5 : decode cX2_isNeeded 5 = .ok (.aload_n 0, 1) := by decide +kernel
theorem dX2_isNeeded_6 : decode cX2_isNeeded 6 = .ok (.getfield 40, 3) := by decide +kernel
theorem dX2_isNeeded_9 : decode cX2_isNeeded 9 = .ok (.iconst 1, 1) := by decide +kernel
theorem dX2_isNeeded_10 : decode cX2_isNeeded 10 = .ok (.iload_n 1, 1) := by decide +kernel
theorem dX2_isNeeded_11 : decode cX2_isNeeded 11 = .ok (.ishl, 1) := by decide +kernel
theorem dX2_isNeeded_12 : decode cX2_isNeeded 12 = .ok (.iconst (-1), 1) := by decide +kernel
theorem dX2_isNeeded_13 : decode cX2_isNeeded 13 = .ok (.ixor, 1) := by decide +kernel
theorem dX2_isNeeded_14 : decode cX2_isNeeded 14 = .ok (.iand, 1) := by decide +kernel
theorem dX2_isNeeded_15 : decode cX2_isNeeded 15 = .ok (.invokevirtual 78, 3) := by decide +kernel
theorem dX2_isNeeded_18 : decode cX2_isNeeded 18 = .ok (.iconst (-1), 1) := by decide +kernel
theorem dX2_isNeeded_19 : decode cX2_isNeeded 19 = .ok (.ixor, 1) := by decide +kernel
theorem dX2_isNeeded_20 : decode cX2_isNeeded 20 = .ok (.iand, 1) := by decide +kernel
theorem dX2_isNeeded_21 : decode cX2_isNeeded 21 = .ok (.ifCond .eq 7, 3) := by decide +kernel
theorem dX2_isNeeded_24 : decode cX2_isNeeded 24 = .ok (.iconst 1, 1) := by decide +kernel
theorem dX2_isNeeded_25 : decode cX2_isNeeded 25 = .ok (.goto 4, 3) := by decide +kernel
theorem dX2_isNeeded_28 : decode cX2_isNeeded 28 = .ok (.iconst 0, 1) := by decide +kernel
theorem dX2_isNeeded_29 : decode cX2_isNeeded 29 = .ok (.ireturn, 1) := by decide +kernel
theorem dX2_tellDensitiesAnew_0 : decode cX2_tellDensitiesAnew 0 = .ok (.iconst 0, 1) := by decide +kernel
theorem dX2_tellDensitiesAnew_1 : decode cX2_tellDensitiesAnew 1 = .ok (.istore_n 2, 1) := by decide +kernel
theorem dX2_tellDensitiesAnew_2 : decode cX2_tellDensitiesAnew 2 = .ok (.iconst 0, 1) := by decide +kernel
theorem dX2_tellDensitiesAnew_3 : decode cX2_tellDensitiesAnew 3 = .ok (.istore_n 3, 1) := by decide +kernel
theorem dX2_tellDensitiesAnew_4 : decode cX2_tellDensitiesAnew 4 = .ok (.iload_n 3, 1) := by decide +kernel
theorem dX2_tellDensitiesAnew_5 : decode cX2_tellDensitiesAnew 5 = .ok (.aload_n 0, 1) := by decide +kernel
theorem dX2_tellDensitiesAnew_6 : decode cX2_tellDensitiesAnew 6 = .ok (.getfield 37, 3) := by decide +kernel
theorem dX2_tellDensitiesAnew_9 : decode cX2_tellDensitiesAnew 9 = .ok (.if_icmp .ge 94, 3) := by decide +kernel
theorem dX2_tellDensitiesAnew_12 : decode cX2_tellDensitiesAnew 12 = .ok (.aload_n 0, 1) := by decide +kernel
theorem dX2_tellDensitiesAnew_13 : decode cX2_tellDensitiesAnew 13 = .ok (.iload_n 3, 1) := by decide +kernel
theorem dX2_tellDensitiesAnew_14 : decode cX2_tellDensitiesAnew 14 = .ok (.invokevirtual 81, 3) := by decide +kernel
theorem dX2_tellDensitiesAnew_17 : decode cX2_tellDensitiesAnew 17 = .ok (.ifCond .eq 80, 3) := by decide +kernel
theorem dX2_tellDensitiesAnew_20 : decode cX2_tellDensitiesAnew 20 = .ok (.aload_n 0, 1) := by decide +kernel
theorem dX2_tellDensitiesAnew_21 : decode cX2_tellDensitiesAnew 21 = .ok (.getfield 27, 3) := by decide +kernel
theorem dX2_tellDensitiesAnew_24 : decode cX2_tellDensitiesAnew 24 = .ok (.iload_n 3, 1) := by decide +kernel
theorem dX2_tellDensitiesAnew_25 : decode cX2_tellDensitiesAnew 25 = .ok (.iaload, 1) := by decide +kernel
theorem dX2_tellDensitiesAnew_26 : decode cX2_tellDensitiesAnew 26 = .ok (.ifCond .ne 6, 3) := by decide +kernel
theorem dX2_tellDensitiesAnew_29 : decode cX2_tellDensitiesAnew 29 = .ok (.goto 68, 3) := by decide +kernel
theorem dX2_tellDensitiesAnew_32 : decode cX2_tellDensitiesAnew 32 = .ok (.aload_n 1, 1) := by decide +kernel
theorem dX2_tellDensitiesAnew_33 : decode cX2_tellDensitiesAnew 33 = .ok (.iload_n 3, 1) := by decide +kernel
theorem dX2_tellDensitiesAnew_34 : decode cX2_tellDensitiesAnew 34 = .ok (.iaload, 1) := by decide +kernel
theorem dX2_tellDensitiesAnew_35 : decode cX2_tellDensitiesAnew 35 = .ok (.bipush 100, 2) := by decide +kernel
theorem dX2_tellDensitiesAnew_37 : decode cX2_tellDensitiesAnew 37 = .ok (.aload_n 0, 1) := by decide +kernel
theorem dX2_tellDensitiesAnew_38 : decode cX2_tellDensitiesAnew 38 = .ok (.getfield 27, 3) := by decide +kernel
theorem dX2_tellDensitiesAnew_41 : decode cX2_tellDensitiesAnew 41 = .ok (.iload_n 3, 1) := by decide +kernel
theorem dX2_tellDensitiesAnew_42 : decode cX2_tellDensitiesAnew 42 = .ok (.iaload, 1) := by decide +kernel
theorem dX2_tellDensitiesAnew_43 : decode cX2_tellDensitiesAnew 43 = .ok (.imul, 1) := by decide +kernel
theorem dX2_tellDensitiesAnew_44 : decode cX2_tellDensitiesAnew 44 = .ok (.invokestatic 84, 3) := by decide +kernel
theorem dX2_tellDensitiesAnew_47 : decode cX2_tellDensitiesAnew 47 = .ok (.istore 4, 2) := by decide +kernel
theorem dX2_tellDensitiesAnew_49 : decode cX2_tellDensitiesAnew 49 = .ok (.iconst 5, 1) := by decide +kernel
theorem dX2_tellDensitiesAnew_50 : decode cX2_tellDensitiesAnew 50 = .ok (.iconst 1, 1) := by decide +kernel
theorem dX2_tellDensitiesAnew_51 : decode cX2_tellDensitiesAnew 51 = .ok (.aload_n 0, 1) := by decide +kernel
theorem dX2_tellDensitiesAnew_52 : decode cX2_tellDensitiesAnew 52 = .ok (.getfield 24, 3) := by decide +kernel
theorem dX2_tellDensitiesAnew_55 : decode cX2_tellDensitiesAnew 55 = .ok (.iload_n 3, 1) := by decide +kernel
theorem dX2_tellDensitiesAnew_56 : decode cX2_tellDensitiesAnew 56 = .ok (.iaload, 1) := by decide +kernel
theorem dX2_tellDensitiesAnew_57 : decode cX2_tellDensitiesAnew 57 = .ok (.iload 4, 2) := by decide +kernel
theorem dX2_tellDensitiesAnew_59 : decode cX2_tellDensitiesAnew 59 = .ok (.iadd, 1) := by decide +kernel
theorem dX2_tellDensitiesAnew_60 : decode cX2_tellDensitiesAnew 60 = .ok (.invokestatic 88, 3) := by decide +kernel
theorem dX2_tellDensitiesAnew_63 : decode cX2_tellDensitiesAnew 63 = .ok (.invokestatic 93, 3) := by decide +kernel
theorem dX2_tellDensitiesAnew_66 : decode cX2_tellDensitiesAnew 66 = .ok (.istore 5, 2) := by decide +kernel
theorem dX2_tellDensitiesAnew_68 : decode cX2_tellDensitiesAnew 68 = .ok (.iload_n 2, 1) := by decide +kernel
theorem dX2_tellDensitiesAnew_69 : decode cX2_tellDensitiesAnew 69 = .ok (.ifCond .ne 14, 3) := by decide +kernel
theorem dX2_tellDensitiesAnew_72 : decode cX2_tellDensitiesAnew 72 = .ok (.iload 5, 2) := by decide +kernel
theorem dX2_tellDensitiesAnew_74 : decode cX2_tellDensitiesAnew 74 = .ok (.aload_n 0, 1) := by decide +kernel
theorem dX2_tellDensitiesAnew_75 : decode cX2_tellDensitiesAnew 75 = .ok (.getfield 24, 3) := by decide +kernel
theorem dX2_tellDensitiesAnew_78 : decode cX2_tellDensitiesAnew 78 = .ok (.iload_n 3, 1) := by decide +kernel
theorem dX2_tellDensitiesAnew_79 : decode cX2_tellDensitiesAnew 79 = .ok (.iaload, 1) := by decide +kernel
theorem dX2_tellDensitiesAnew_80 : decode cX2_tellDensitiesAnew 80 = .ok (.if_icmp .eq 7, 3) := by decide +kernel
theorem dX2_tellDensitiesAnew_83 : decode cX2_tellDensitiesAnew 83 = .ok (.iconst 1, 1) := by decide +kernel
theorem dX2_tellDensitiesAnew_84 : decode cX2_tellDensitiesAnew 84 = .ok (.goto 4, 3) := by decide +kernel
theorem dX2_tellDensitiesAnew_87 : decode cX2_tellDensitiesAnew 87 = .ok (.iconst 0, 1) := by decide +kernel
theorem dX2_tellDensitiesAnew_88 : decode cX2_tellDensitiesAnew 88 = .ok (.istore_n 2, 1) := by decide +kernel
theorem dX2_tellDensitiesAnew_89 : decode cX2_tellDensitiesAnew 89 = .ok (.aload_n 0, 1) := by decide +kernel
theorem dX2_tellDensitiesAnew_90 : decode cX2_tellDensitiesAnew 90 = .ok (.getfield 24, 3) := by decide +kernel
theorem dX2_tellDensitiesAnew_93 : decode cX2_tellDensitiesAnew 93 = .ok (.iload_n 3, 1) := by decide +kernel
theorem dX2_tellDensitiesAnew_94 : decode cX2_tellDensitiesAnew 94 = .ok (.iload 5, 2) := by decide +kernel
theorem dX2_tellDensitiesAnew_96 : decode cX2_tellDensitiesAnew 96 = .ok (.iastore, 1) := by decide +kernel
theorem dX2_tellDensitiesAnew_97 : decode cX2_tellDensitiesAnew 97 = .ok (.iinc 3 1, 3) := by decide +kernel
theorem dX2_tellDensitiesAnew_100 : decode cX2_tellDensitiesAnew 100 = .ok (.goto (-96), 3) := by decide +kernel
theorem dX2_tellDensitiesAnew_103 : decode cX2_tellDensitiesAnew 103 = .ok (.iload_n 2, 1) := by decide +kernel
theorem dX2_tellDensitiesAnew_104 : decode cX2_tellDensitiesAnew 104 = .ok (.ireturn, 1) := by decide +kernel
theorem dX3_init_0 : decode cX3_init 0 = .ok (.aload_n 0, 1) := by decide +kernel
theorem dX3_init_1 : decode cX3_init 1 = .ok (.invokespecial 3, 3) := by decide +kernel
theorem dX3_init_4 : decode cX3_init 4 = .ok (.aload_n 0, 1) := by decide +kernel
theorem dX3_init_5 : decode cX3_init 5 = .ok (.bipush 6, 2) := by decide +kernel
theorem dX3_init_7 : decode cX3_init 7 = .ok (.anewarray 9, 3) := by decide +kernel
theorem dX3_init_10 : decode cX3_init 10 = .ok (.putfield 11, 3) := by decide +kernel
theorem dX3_init_13 : decode cX3_init 13 = .ok (.iconst 0, 1) := by decide +kernel
theorem dX3_init_14 : decode cX3_init 14 = .ok (.istore_n 1, 1) := by decide +kernel
theorem dX3_init_15 : decode cX3_init 15 = .ok (.iload_n 1, 1) := by decide +kernel
theorem dX3_init_16 : decode cX3_init 16 = .ok (.bipush 6, 2) := by decide +kernel
theorem dX3_init_18 : decode cX3_init 18 = .ok (.if_icmp .ge 22, 3) := by decide +kernel
theorem dX3_init_21 : decode cX3_init 21 = .ok (.aload_n 0, 1) := by decide +kernel
theorem dX3_init_22 : decode cX3_init 22 = .ok (.getfield 11, 3) := by decide +kernel
theorem dX3_init_25 : decode cX3_init 25 = .ok (.iload_n 1, 1) := by decide +kernel
theorem dX3_init_26 : decode cX3_init 26 = .ok (.new 9, 3) := by decide +kernel
theorem dX3_init_29 : decode cX3_init 29 = .ok (.dup, 1) := by decide +kernel
theorem dX3_init_30 : decode cX3_init 30 = .ok (.invokespecial 17, 3) := by decide +kernel
theorem dX3_init_33 : decode cX3_init 33 = .ok (.aastore, 1) := by decide +kernel
theorem dX3_init_34 : decode cX3_init 34 = .ok (.iinc 1 1, 3) := by decide +kernel
theorem dX3_init_37 : decode cX3_init 37 = .ok (.goto (-22), 3) := by decide +kernel
theorem dX3_init_40 : decode cX3_init 40 = .ok (.return_, 1) := by decide +kernel
theorem dX3_keep_0 : decode cX3_keep 0 = .ok (.aload_n 0, 1) := by decide +kernel
theorem dX3_keep_1 : decode cX3_keep 1 = .ok (.getfield 11, 3) := by decide +kernel
theorem dX3_keep_4 : decode cX3_keep 4 = .ok (.aload_n 0, 1) := by decide +kernel
theorem dX3_keep_5 : decode cX3_keep 5 = .ok (.getfield 18, 3) := by decide +kernel
theorem dX3_keep_8 : decode cX3_keep 8 = .ok (.aaload, 1) := by decide +kernel
theorem dX3_keep_9 : decode cX3_keep 9 = .ok (.aload_n 1, 1) := by decide +kernel
theorem dX3_keep_10 : decode cX3_keep 10 = .ok (.invokevirtual 22, 3) := by decide +kernel
theorem dX3_keep_13 : decode cX3_keep 13 = .ok (.aload_n 0, 1) := by decide +kernel
theorem dX3_keep_14 : decode cX3_keep 14 = .ok (.aload_n 0, 1) := by decide +kernel
theorem dX3_keep_15 : decode cX3_keep 15 = .ok (.getfield 18, 3) := by decide +kernel
theorem dX3_keep_18 : decode cX3_keep 18 = .ok (.iconst 1, 1) := by decide +kernel
theorem dX3_keep_19 : decode cX3_keep 19 = .ok (.iadd, 1) := by decide +kernel
theorem dX3_keep_20 : decode cX3_keep 20 = .ok (.bipush 6, 2) := by decide +kernel
theorem dX3_keep_22 : decode cX3_keep 22 = .ok (.irem, 1) := by decide +kernel
theorem dX3_keep_23 : decode cX3_keep 23 = .ok (.putfield 18, 3) := by decide +kernel
theorem dX3_keep_26 : decode cX3_keep 26 = .ok (.aload_n 0, 1) := by decide +kernel
theorem dX3_keep_27 : decode cX3_keep 27 = .ok (.aload_n 0, 1) := by decide +kernel
theorem dX3_keep_28 : decode cX3_keep 28 = .ok (.getfield 26, 3) := by decide +kernel
theorem dX3_keep_31 : decode cX3_keep 31 = .ok (.iconst 1, 1) := by decide +kernel
theorem dX3_keep_32 : decode cX3_keep 32 = .ok (.iadd, 1) := by decide +kernel
theorem dX3_keep_33 : decode cX3_keep 33 = .ok (.bipush 6, 2) := by decide +kernel
theorem dX3_keep_35 : decode cX3_keep 35 = .ok (.invokestatic 29, 3) := by decide +kernel
theorem dX3_keep_38 : decode cX3_keep 38 = .ok (.putfield 26, 3) := by decide +kernel
theorem dX3_keep_41 : decode cX3_keep 41 = .ok (.return_, 1) := by decide +kernel
theorem dX3_giveBack_0 : decode cX3_giveBack 0 = .ok (.aload_n 0, 1) := by decide +kernel
theorem dX3_giveBack_1 : decode cX3_giveBack 1 = .ok (.getfield 26, 3) := by decide +kernel
theorem dX3_giveBack_4 : decode cX3_giveBack 4 = .ok (.ifCond .ne 5, 3) := by decide +kernel
theorem dX3_giveBack_7 : decode cX3_giveBack 7 = .ok (.iconst 0, 1) := by decide +kernel
theorem dX3_giveBack_8 : decode cX3_giveBack 8 = .ok (.ireturn, 1) := by decide +kernel
theorem dX3_giveBack_9 : decode cX3_giveBack 9 = .ok (.aload_n 0, 1) := by decide +kernel
theorem dX3_giveBack_10 : decode cX3_giveBack 10 = .ok (.aload_n 0, 1) := by decide +kernel
theorem dX3_giveBack_11 : decode cX3_giveBack 11 = .ok (.getfield 18, 3) := by decide +kernel
theorem dX3_giveBack_14 : decode cX3_giveBack 14 = .ok (.bipush 6, 2) := by decide +kernel
theorem dX3_giveBack_16 : decode cX3_giveBack 16 = .ok (.iadd, 1) := by decide +kernel
theorem dX3_giveBack_17 : decode cX3_giveBack 17 = .ok (.iconst 1, 1) := by decide +kernel
theorem dX3_giveBack_18 : decode cX3_giveBack 18 = .ok (.isub, 1) := by decide +kernel
theorem dX3_giveBack_19 : decode cX3_giveBack 19 = .ok (.bipush 6, 2) := by decide +kernel
theorem dX3_giveBack_21 : decode cX3_giveBack 21 = .ok (.irem, 1) := by decide +kernel
theorem dX3_giveBack_22 : decode cX3_giveBack 22 = .ok (.putfield 18, 3) := by decide +kernel
theorem dX3_giveBack_25 : decode cX3_giveBack 25 = .ok (.aload_n 0, 1) := by decide +kernel
theorem dX3_giveBack_26 : decode cX3_giveBack 26 = .ok (.dup, 1) := by decide +kernel
theorem dX3_giveBack_27 : decode cX3_giveBack 27 = .ok (.getfield 26, 3) := by decide +kernel
theorem dX3_giveBack_30 : decode cX3_giveBack 30 = .ok (.iconst 1, 1) := by decide +kernel
theorem dX3_giveBack_31 : decode cX3_giveBack 31 = .ok (.isub, 1) := by decide +kernel
theorem dX3_giveBack_32 : decode cX3_giveBack 32 = .ok (.putfield 26, 3) := by decide +kernel
theorem dX3_giveBack_35 : decode cX3_giveBack 35 = .ok (.aload_n 1, 1) := by decide +kernel
theorem dX3_giveBack_36 : decode cX3_giveBack 36 = .ok (.aload_n 0, 1) := by decide +kernel
theorem dX3_giveBack_37 : decode cX3_giveBack 37 = .ok (.getfield 11, 3) := by decide +kernel
theorem dX3_giveBack_40 : decode cX3_giveBack 40 = .ok (.aload_n 0, 1) := by decide +kernel
theorem dX3_giveBack_41 : decode cX3_giveBack 41 = .ok (.getfield 18, 3) := by decide +kernel
theorem dX3_giveBack_44 : decode cX3_giveBack 44 = .ok (.aaload, 1) := by decide +kernel
theorem dX3_giveBack_45 : decode cX3_giveBack 45 = .ok (.invokevirtual 22, 3) := by decide +kernel
theorem dX3_giveBack_48 : decode cX3_giveBack 48 = .ok (.iconst 1, 1) := by decide +kernel
theorem dX3_giveBack_49 : decode cX3_giveBack 49 = .ok (.ireturn, 1) := by decide +kernel
theorem dX5_init_0 : decode cX5_init 0 = .ok (.aload_n 0, 1) := by decide +kernel
theorem dX5_init_1 : decode cX5_init 1 = .ok (.invokespecial 3, 3) := by decide +kernel
theorem dX5_init_4 : decode cX5_init 4 = .ok (.aload_n 0, 1) := by decide +kernel
theorem dX5_init_5 : decode cX5_init 5 = .ok (.iconst 4, 1) := by decide +kernel
theorem dX5_init_6 : decode cX5_init 6 = .ok (.newarray .int, 2) := by decide +kernel
theorem dX5_init_8 : decode cX5_init 8 = .ok (.putfield 9, 3) := by decide +kernel
theorem dX5_init_11 : decode cX5_init 11 = .ok (.return_, 1) := by decide +kernel
theorem dX5_readInto_0 : decode cX5_readInto 0 = .ok (.aload_n 1, 1) := by decide +kernel
theorem dX5_readInto_1 : decode cX5_readInto 1 = .ok (.invokevirtual 15, 3) := by decide +kernel
theorem dX5_readInto_4 : decode cX5_readInto 4 = .ok (.iconst 0, 1) := by decide +kernel
theorem dX5_readInto_5 : decode cX5_readInto 5 = .ok (.istore_n 3, 1) := by decide +kernel
theorem dX5_readInto_6 : decode cX5_readInto 6 = .ok (.iload_n 3, 1) := by decide +kernel
theorem dX5_readInto_7 : decode cX5_readInto 7 = .ok (.aload_n 2, 1) := by decide +kernel
theorem dX5_readInto_8 : decode cX5_readInto 8 = .ok (.getfield 20, 3) := by decide +kernel
theorem dX5_readInto_11 : decode cX5_readInto 11 = .ok (.if_icmp .ge 26, 3) := by decide +kernel
theorem dX5_readInto_14 : decode cX5_readInto 14 = .ok (.aload_n 0, 1) := by decide +kernel
theorem dX5_readInto_15 : decode cX5_readInto 15 = .ok (.aload_n 1, 1) := by decide +kernel
theorem dX5_readInto_16 : decode cX5_readInto 16 = .ok (.aload_n 2, 1) := by decide +kernel
theorem dX5_readInto_17 : decode cX5_readInto 17 = .ok (.iload_n 3, 1) := by decide +kernel
theorem dX5_readInto_18 : decode cX5_readInto 18 = .ok (.invokevirtual 26, 3) := by decide +kernel
theorem dX5_readInto_21 : decode cX5_readInto 21 = .ok (.istore 4, 2) := by decide +kernel
theorem dX5_readInto_23 : decode cX5_readInto 23 = .ok (.iload 4, 2) := by decide +kernel
theorem dX5_readInto_25 : decode cX5_readInto 25 = .ok (.iload_n 3, 1) := by decide +kernel
theorem dX5_readInto_26 : decode cX5_readInto 26 = .ok (.if_icmp .gt 5, 3) := by decide +kernel
theorem dX5_readInto_29 : decode cX5_readInto 29 = .ok (.iload_n 3, 1) := by decide +kernel
theorem dX5_readInto_30 : decode cX5_readInto 30 = .ok (.ireturn, 1) := by decide +kernel
theorem dX5_readInto_31 : decode cX5_readInto 31 = .ok (.iload 4, 2) := by decide +kernel
theorem dX5_readInto_33 : decode cX5_readInto 33 = .ok (.istore_n 3, 1) := by decide +kernel
theorem dX5_readInto_34 : decode cX5_readInto 34 = .ok (.goto (-28), 3) := by decide +kernel
theorem dX5_readInto_37 : decode cX5_readInto 37 = .ok (.bipush (-4), 2) := by decide +kernel
theorem dX5_readInto_39 : decode cX5_readInto 39 = .ok (.ireturn, 1) := by decide +kernel
theorem dX5_takeItem_0 : decode cX5_takeItem 0 = .ok (.aload_n 2, 1) := by decide +kernel
theorem dX5_takeItem_1 : decode cX5_takeItem 1 = .ok (.iload_n 3, 1) := by decide +kernel
theorem dX5_takeItem_2 : decode cX5_takeItem 2 = .ok (.invokevirtual 30, 3) := by decide +kernel
theorem dX5_takeItem_5 : decode cX5_takeItem 5 = .ok (.istore 4, 2) := by decide +kernel
theorem dX5_takeItem_7 : decode cX5_takeItem 7 = .ok (.aload_n 0, 1) := by decide +kernel
theorem dX5_takeItem_8 : decode cX5_takeItem 8 = .ok (.aload_n 2, 1) := by decide +kernel
theorem dX5_takeItem_9 : decode cX5_takeItem 9 = .ok (.iload_n 3, 1) := by decide +kernel
theorem dX5_takeItem_10 : decode cX5_takeItem 10 = .ok (.iconst 1, 1) := by decide +kernel
theorem dX5_takeItem_11 : decode cX5_takeItem 11 = .ok (.iadd, 1) := by decide +kernel
theorem dX5_takeItem_12 : decode cX5_takeItem 12 = .ok (.aload_n 0, 1) := by decide +kernel
theorem dX5_takeItem_13 : decode cX5_takeItem 13 = .ok (.iload 4, 2) := by decide +kernel
theorem dX5_takeItem_15 : decode cX5_takeItem 15 = .ok (.invokevirtual 34, 3) := by decide +kernel
theorem dX5_takeItem_18 : decode cX5_takeItem 18 = .ok (.invokevirtual 38, 3) := by decide +kernel
theorem dX5_takeItem_21 : decode cX5_takeItem 21 = .ok (.istore 5, 2) := by decide +kernel
theorem dX5_takeItem_23 : decode cX5_takeItem 23 = .ok (.iload 5, 2) := by decide +kernel
theorem dX5_takeItem_25 : decode cX5_takeItem 25 = .ok (.bipush (-4), 2) := by decide +kernel
theorem dX5_takeItem_27 : decode cX5_takeItem 27 = .ok (.if_icmp .eq 18, 3) := by decide +kernel
theorem dX5_takeItem_30 : decode cX5_takeItem 30 = .ok (.aload_n 0, 1) := by decide +kernel
theorem dX5_takeItem_31 : decode cX5_takeItem 31 = .ok (.aload_n 1, 1) := by decide +kernel
theorem dX5_takeItem_32 : decode cX5_takeItem 32 = .ok (.iload 4, 2) := by decide +kernel
theorem dX5_takeItem_34 : decode cX5_takeItem 34 = .ok (.invokevirtual 42, 3) := by decide +kernel
theorem dX5_takeItem_37 : decode cX5_takeItem 37 = .ok (.ifCond .eq 8, 3) := by decide +kernel
theorem dX5_takeItem_40 : decode cX5_takeItem 40 = .ok (.iload 5, 2) := by decide +kernel
theorem dX5_takeItem_42 : decode cX5_takeItem 42 = .ok (.goto 5, 3) := by decide +kernel
theorem dX5_takeItem_45 : decode cX5_takeItem 45 = .ok (.bipush (-4), 2) := by decide +kernel
theorem dX5_takeItem_47 : decode cX5_takeItem 47 = .ok (.ireturn, 1) := by decide +kernel
theorem dX5_numbersOf_0 : decode cX5_numbersOf 0 = .ok (.iload_n 1, 1) := by decide +kernel
theorem dX5_numbersOf_1 : decode cX5_numbersOf 1 = .ok (.lookupswitch 51 #[(102, 43), (114, 49), (115, 47), (117, 45)], 43) := by decide +kernel
theorem dX5_numbersOf_44 : decode cX5_numbersOf 44 = .ok (.iconst 3, 1) := by decide +kernel
theorem dX5_numbersOf_45 : decode cX5_numbersOf 45 = .ok (.ireturn, 1) := by decide +kernel
theorem dX5_numbersOf_46 : decode cX5_numbersOf 46 = .ok (.iconst 1, 1) := by decide +kernel
theorem dX5_numbersOf_47 : decode cX5_numbersOf 47 = .ok (.ireturn, 1) := by decide +kernel
theorem dX5_numbersOf_48 : decode cX5_numbersOf 48 = .ok (.iconst 4, 1) := by decide +kernel
theorem dX5_numbersOf_49 : decode cX5_numbersOf 49 = .ok (.ireturn, 1) := by decide +kernel
theorem dX5_numbersOf_50 : decode cX5_numbersOf 50 = .ok (.iconst 2, 1) := by decide +kernel
theorem dX5_numbersOf_51 : decode cX5_numbersOf 51 = .ok (.ireturn, 1) := by decide +kernel
theorem dX5_numbersOf_52 : decode cX5_numbersOf 52 = .ok (.iconst 0, 1) := by decide +kernel
theorem dX5_numbersOf_53 : decode cX5_numbersOf 53 = .ok (.ireturn, 1) := by decide +kernel
theorem dX5_takeNumbers_0 : decode cX5_takeNumbers 0 = .ok (.iload_n 2, 1) := by decide +kernel
theorem dX5_takeNumbers_1 : decode cX5_takeNumbers 1 = .ok (.istore 4, 2) := by decide +kernel
theorem dX5_takeNumbers_3 : decode cX5_takeNumbers 3 = .ok (.iconst 0, 1) := by decide +kernel
theorem dX5_takeNumbers_4 : decode cX5_takeNumbers 4 = .ok (.istore 5, 2) := by decide +kernel
theorem dX5_takeNumbers_6 : decode cX5_takeNumbers 6 = .ok (.iload 5, 2) := by decide +kernel
theorem dX5_takeNumbers_8 : decode cX5_takeNumbers 8 = .ok (.iload_n 3, 1) := by decide +kernel
theorem dX5_takeNumbers_9 : decode cX5_takeNumbers 9 = .ok (.if_icmp .ge 103, 3) := by decide +kernel
theorem dX5_takeNumbers_12 : decode cX5_takeNumbers 12 = .ok (.aload_n 1, 1) := by decide +kernel
theorem dX5_takeNumbers_13 : decode cX5_takeNumbers 13 = .ok (.iload 4, 2) := by decide +kernel
theorem dX5_takeNumbers_15 : decode cX5_takeNumbers 15 = .ok (.invokevirtual 46, 3) := by decide +kernel
theorem dX5_takeNumbers_18 : decode cX5_takeNumbers 18 = .ok (.ifCond .ne 6, 3) := by decide +kernel
theorem dX5_takeNumbers_21 : decode cX5_takeNumbers 21 = .ok (.bipush (-4), 2) := by decide +kernel
theorem dX5_takeNumbers_23 : decode cX5_takeNumbers 23 = .ok (.ireturn, 1) := by decide +kernel
theorem dX5_takeNumbers_24 : decode cX5_takeNumbers 24 = .ok (.aload_n 1, 1) := by decide +kernel
theorem dX5_takeNumbers_25 : decode cX5_takeNumbers 25 = .ok (.iload 4, 2) := by decide +kernel
theorem dX5_takeNumbers_27 : decode cX5_takeNumbers 27 = .ok (.invokevirtual 30, 3) := by decide +kernel
theorem dX5_takeNumbers_30 : decode cX5_takeNumbers 30 = .ok (.bipush 48, 2) := by decide +kernel
theorem dX5_takeNumbers_32 : decode cX5_takeNumbers 32 = .ok (.isub, 1) := by decide +kernel
theorem dX5_takeNumbers_33 : decode cX5_takeNumbers 33 = .ok (.istore 6, 2) := by decide +kernel
theorem dX5_takeNumbers_35 : decode cX5_takeNumbers 35 = .ok (.iinc 4 1, 3) := by decide +kernel
theorem dX5_takeNumbers_38 : decode cX5_takeNumbers 38 = .ok (.aload_n 1, 1) := by decide +kernel
theorem dX5_takeNumbers_39 : decode cX5_takeNumbers 39 = .ok (.iload 4, 2) := by decide +kernel
theorem dX5_takeNumbers_41 : decode cX5_takeNumbers 41 = .ok (.invokevirtual 46, 3) := by decide +kernel
theorem dX5_takeNumbers_44 : decode cX5_takeNumbers 44 = .ok (.ifCond .eq 23, 3) := by decide +kernel
theorem dX5_takeNumbers_47 : decode cX5_takeNumbers 47 = .ok (.iload 6, 2) := by decide +kernel
theorem dX5_takeNumbers_49 : decode cX5_takeNumbers 49 = .ok (.bipush 10, 2) := by decide +kernel
theorem dX5_takeNumbers_51 : decode cX5_takeNumbers 51 = .ok (.imul, 1) := by decide +kernel
theorem dX5_takeNumbers_52 : decode cX5_takeNumbers 52 = .ok (.aload_n 1, 1) := by decide +kernel
theorem dX5_takeNumbers_53 : decode cX5_takeNumbers 53 = .ok (.iload 4, 2) := by decide +kernel
theorem dX5_takeNumbers_55 : decode cX5_takeNumbers 55 = .ok (.invokevirtual 30, 3) := by decide +kernel
theorem dX5_takeNumbers_58 : decode cX5_takeNumbers 58 = .ok (.iadd, 1) := by decide +kernel
theorem dX5_takeNumbers_59 : decode cX5_takeNumbers 59 = .ok (.bipush 48, 2) := by decide +kernel
theorem dX5_takeNumbers_61 : decode cX5_takeNumbers 61 = .ok (.isub, 1) := by decide +kernel
theorem dX5_takeNumbers_62 : decode cX5_takeNumbers 62 = .ok (.istore 6, 2) := by decide +kernel
theorem dX5_takeNumbers_64 : decode cX5_takeNumbers 64 = .ok (.iinc 4 1, 3) := by decide +kernel
theorem dX5_takeNumbers_67 : decode cX5_takeNumbers 67 = .ok (.aload_n 0, 1) := by decide +kernel
theorem dX5_takeNumbers_68 : decode cX5_takeNumbers 68 = .ok (.getfield 9, 3) := by decide +kernel
theorem dX5_takeNumbers_71 : decode cX5_takeNumbers 71 = .ok (.iload 5, 2) := by decide +kernel
theorem dX5_takeNumbers_73 : decode cX5_takeNumbers 73 = .ok (.iload 6, 2) := by decide +kernel
theorem dX5_takeNumbers_75 : decode cX5_takeNumbers 75 = .ok (.iastore, 1) := by decide +kernel
theorem dX5_takeNumbers_76 : decode cX5_takeNumbers 76 = .ok (.aload_n 1, 1) := by decide +kernel
theorem dX5_takeNumbers_77 : decode cX5_takeNumbers 77 = .ok (.iload 4, 2) := by decide +kernel
theorem dX5_takeNumbers_79 : decode cX5_takeNumbers 79 = .ok (.invokevirtual 30, 3) := by decide +kernel
theorem dX5_takeNumbers_82 : decode cX5_takeNumbers 82 = .ok (.iload 5, 2) := by decide +kernel
theorem dX5_takeNumbers_84 : decode cX5_takeNumbers 84 = .ok (.iload_n 3, 1) := by decide +kernel
theorem dX5_takeNumbers_85 : decode cX5_takeNumbers 85 = .ok (.iconst 1, 1) := by decide +kernel
theorem dX5_takeNumbers_86 : decode cX5_takeNumbers 86 = .ok (.isub, 1) := by decide +kernel
theorem dX5_takeNumbers_87 : decode cX5_takeNumbers 87 = .ok (.if_icmp .ne 8, 3) := by decide +kernel
theorem dX5_takeNumbers_90 : decode cX5_takeNumbers 90 = .ok (.bipush 59, 2) := by decide +kernel
theorem dX5_takeNumbers_92 : decode cX5_takeNumbers 92 = .ok (.goto 5, 3) := by decide +kernel
theorem dX5_takeNumbers_95 : decode cX5_takeNumbers 95 = .ok (.bipush 44, 2) := by decide +kernel
theorem dX5_takeNumbers_97 : decode cX5_takeNumbers 97 = .ok (.if_icmp .eq 6, 3) := by decide +kernel
theorem dX5_takeNumbers_100 : decode cX5_takeNumbers 100 = .ok (.bipush (-4), 2) := by decide +kernel
theorem dX5_takeNumbers_102 : decode cX5_takeNumbers 102 = .ok (.ireturn, 1) := by decide +kernel
theorem dX5_takeNumbers_103 : decode cX5_takeNumbers 103 = .ok (.iinc 4 1, 3) := by decide +kernel
theorem dX5_takeNumbers_106 : decode cX5_takeNumbers 106 = .ok (.iinc 5 1, 3) := by decide +kernel
theorem dX5_takeNumbers_109 : decode cX5_takeNumbers 109 = .ok (.goto (-103), 3) := by decide +kernel
theorem dX5_takeNumbers_112 : decode cX5_takeNumbers 112 = .ok (.iload_n 3, 1) := by decide +kernel
theorem dX5_takeNumbers_113 : decode cX5_takeNumbers 113 = .ok (.ifCond .le 8, 3) := by decide +kernel
theorem dX5_takeNumbers_116 : decode cX5_takeNumbers 116 = .ok (.iload 4, 2) := by decide +kernel
theorem dX5_takeNumbers_118 : decode cX5_takeNumbers 118 = .ok (.goto 5, 3) := by decide +kernel
theorem dX5_takeNumbers_121 : decode cX5_takeNumbers 121 = .ok (.bipush (-4), 2) := by decide +kernel
theorem dX5_takeNumbers_123 : decode cX5_takeNumbers 123 = .ok (.ireturn, 1) := by decide +kernel
theorem dX5_addItem_0 : decode cX5_addItem 0 = .ok (.iload_n 2, 1) := by decide +kernel
theorem dX5_addItem_1 : decode cX5_addItem 1 = .ok (.lookupswitch 126 #[(102, 43), (114, 109), (115, 80), (117, 66)], 43) := by decide +kernel
theorem dX5_addItem_44 : decode cX5_addItem 44 = .ok (.aload_n 1, 1) := by decide +kernel
theorem dX5_addItem_45 : decode cX5_addItem 45 = .ok (.aload_n 0, 1) := by decide +kernel
theorem dX5_addItem_46 : decode cX5_addItem 46 = .ok (.getfield 9, 3) := by decide +kernel
theorem dX5_addItem_49 : decode cX5_addItem 49 = .ok (.iconst 0, 1) := by decide +kernel
theorem dX5_addItem_50 : decode cX5_addItem 50 = .ok (.iaload, 1) := by decide +kernel
theorem dX5_addItem_51 : decode cX5_addItem 51 = .ok (.aload_n 0, 1) := by decide +kernel
theorem dX5_addItem_52 : decode cX5_addItem 52 = .ok (.getfield 9, 3) := by decide +kernel
theorem dX5_addItem_55 : decode cX5_addItem 55 = .ok (.iconst 1, 1) := by decide +kernel
theorem dX5_addItem_56 : decode cX5_addItem 56 = .ok (.iaload, 1) := by decide +kernel
theorem dX5_addItem_57 : decode cX5_addItem 57 = .ok (.aload_n 0, 1) := by decide +kernel
theorem dX5_addItem_58 : decode cX5_addItem 58 = .ok (.getfield 9, 3) := by decide +kernel
theorem dX5_addItem_61 : decode cX5_addItem 61 = .ok (.iconst 2, 1) := by decide +kernel
theorem dX5_addItem_62 : decode cX5_addItem 62 = .ok (.iaload, 1) := by decide +kernel
theorem dX5_addItem_63 : decode cX5_addItem 63 = .ok (.invokevirtual 50, 3) := by decide +kernel
theorem dX5_addItem_66 : decode cX5_addItem 66 = .ok (.ireturn, 1) := by decide +kernel
theorem dX5_addItem_67 : decode cX5_addItem 67 = .ok (.aload_n 1, 1) := by decide +kernel
theorem dX5_addItem_68 : decode cX5_addItem 68 = .ok (.aload_n 0, 1) := by decide +kernel
theorem dX5_addItem_69 : decode cX5_addItem 69 = .ok (.getfield 9, 3) := by decide +kernel
theorem dX5_addItem_72 : decode cX5_addItem 72 = .ok (.iconst 0, 1) := by decide +kernel
theorem dX5_addItem_73 : decode cX5_addItem 73 = .ok (.iaload, 1) := by decide +kernel
theorem dX5_addItem_74 : decode cX5_addItem 74 = .ok (.bipush 9, 2) := by decide +kernel
theorem dX5_addItem_76 : decode cX5_addItem 76 = .ok (.isub, 1) := by decide +kernel
theorem dX5_addItem_77 : decode cX5_addItem 77 = .ok (.invokevirtual 54, 3) := by decide +kernel
theorem dX5_addItem_80 : decode cX5_addItem 80 = .ok (.ireturn, 1) := by decide +kernel
theorem dX5_addItem_81 : decode cX5_addItem 81 = .ok (.aload_n 1, 1) := by decide +kernel
theorem dX5_addItem_82 : decode cX5_addItem 82 = .ok (.aload_n 0, 1) := by decide +kernel
theorem dX5_addItem_83 : decode cX5_addItem 83 = .ok (.getfield 9, 3) := by decide +kernel
theorem dX5_addItem_86 : decode cX5_addItem 86 = .ok (.iconst 0, 1) := by decide +kernel
theorem dX5_addItem_87 : decode cX5_addItem 87 = .ok (.iaload, 1) := by decide +kernel
theorem dX5_addItem_88 : decode cX5_addItem 88 = .ok (.aload_n 0, 1) := by decide +kernel
theorem dX5_addItem_89 : decode cX5_addItem 89 = .ok (.getfield 9, 3) := by decide +kernel
theorem dX5_addItem_92 : decode cX5_addItem 92 = .ok (.iconst 1, 1) := by decide +kernel
theorem dX5_addItem_93 : decode cX5_addItem 93 = .ok (.iaload, 1) := by decide +kernel
theorem dX5_addItem_94 : decode cX5_addItem 94 = .ok (.aload_n 0, 1) := by decide +kernel
theorem dX5_addItem_95 : decode cX5_addItem 95 = .ok (.getfield 9, 3) := by decide +kernel
theorem dX5_addItem_98 : decode cX5_addItem 98 = .ok (.iconst 2, 1) := by decide +kernel
theorem dX5_addItem_99 : decode cX5_addItem 99 = .ok (.iaload, 1) := by decide +kernel
theorem dX5_addItem_100 : decode cX5_addItem 100 = .ok (.aload_n 0, 1) := by decide +kernel
theorem dX5_addItem_101 : decode cX5_addItem 101 = .ok (.getfield 9, 3) := by decide +kernel
theorem dX5_addItem_104 : decode cX5_addItem 104 = .ok (.iconst 3, 1) := by decide +kernel
theorem dX5_addItem_105 : decode cX5_addItem 105 = .ok (.iaload, 1) := by decide +kernel
theorem dX5_addItem_106 : decode cX5_addItem 106 = .ok (.invokevirtual 57, 3) := by decide +kernel
theorem dX5_addItem_109 : decode cX5_addItem 109 = .ok (.ireturn, 1) := by decide +kernel
theorem dX5_addItem_110 : decode cX5_addItem 110 = .ok (.aload_n 1, 1) := by decide +kernel
theorem dX5_addItem_111 : decode cX5_addItem 111 = .ok (.aload_n 0, 1) := by decide +kernel
theorem dX5_addItem_112 : decode cX5_addItem 112 = .ok (.getfield 9, 3) := by decide +kernel
theorem dX5_addItem_115 : decode cX5_addItem 115 = .ok (.iconst 0, 1) := by decide +kernel
theorem dX5_addItem_116 : decode cX5_addItem 116 = .ok (.iaload, 1) := by decide +kernel
theorem dX5_addItem_117 : decode cX5_addItem 117 = .ok (.aload_n 0, 1) := by decide +kernel
theorem dX5_addItem_118 : decode cX5_addItem 118 = .ok (.getfield 9, 3) := by decide +kernel
theorem dX5_addItem_121 : decode cX5_addItem 121 = .ok (.iconst 1, 1) := by decide +kernel
theorem dX5_addItem_122 : decode cX5_addItem 122 = .ok (.iaload, 1) := by decide +kernel
theorem dX5_addItem_123 : decode cX5_addItem 123 = .ok (.invokevirtual 61, 3) := by decide +kernel
theorem dX5_addItem_126 : decode cX5_addItem 126 = .ok (.ireturn, 1) := by decide +kernel
theorem dX5_addItem_127 : decode cX5_addItem 127 = .ok (.iconst 0, 1) := by decide +kernel
theorem dX5_addItem_128 : decode cX5_addItem 128 = .ok (.ireturn, 1) := by decide +kernel
theorem dX6_init_0 : decode cX6_init 0 = .ok (.aload_n 0, 1) := by decide +kernel
theorem dX6_init_1 : decode cX6_init 1 = .ok (.invokespecial 3, 3) := by decide +kernel
theorem dX6_init_4 : decode cX6_init 4 = .ok (.aload_n 0, 1) := by decide +kernel
theorem dX6_init_5 : decode cX6_init 5 = .ok (.new 9, 3) := by decide +kernel
theorem dX6_init_8 : decode cX6_init 8 = .ok (.dup, 1) := by decide +kernel
theorem dX6_init_9 : decode cX6_init 9 = .ok (.invokespecial 11, 3) := by decide +kernel
theorem dX6_init_12 : decode cX6_init 12 = .ok (.putfield 12, 3) := by decide +kernel
theorem dX6_init_15 : decode cX6_init 15 = .ok (.aload_n 0, 1) := by decide +kernel
theorem dX6_init_16 : decode cX6_init 16 = .ok (.new 18, 3) := by decide +kernel
theorem dX6_init_19 : decode cX6_init 19 = .ok (.dup, 1) := by decide +kernel
theorem dX6_init_20 : decode cX6_init 20 = .ok (.invokespecial 20, 3) := by decide +kernel
theorem dX6_init_23 : decode cX6_init 23 = .ok (.putfield 21, 3) := by decide +kernel
theorem dX6_init_26 : decode cX6_init 26 = .ok (.return_, 1) := by decide +kernel
theorem dX6_seekRest_0 : decode cX6_seekRest 0 = .ok (.aload_n 0, 1) := by decide +kernel
theorem dX6_seekRest_1 : decode cX6_seekRest 1 = .ok (.getfield 12, 3) := by decide +kernel
theorem dX6_seekRest_4 : decode cX6_seekRest 4 = .ok (.aload_n 1, 1) := by decide +kernel
theorem dX6_seekRest_5 : decode cX6_seekRest 5 = .ok (.invokevirtual 25, 3) := by decide +kernel
theorem dX6_seekRest_8 : decode cX6_seekRest 8 = .ok (.iconst 0, 1) := by decide +kernel
theorem dX6_seekRest_9 : decode cX6_seekRest 9 = .ok (.istore_n 2, 1) := by decide +kernel
theorem dX6_seekRest_10 : decode cX6_seekRest 10 = .ok (.iload_n 2, 1) := by decide +kernel
theorem dX6_seekRest_11 : decode cX6_seekRest 11 = .ok (.bipush 60, 2) := by decide +kernel
theorem dX6_seekRest_13 : decode cX6_seekRest 13 = .ok (.if_icmp .gt 64, 3) := by decide +kernel
theorem dX6_seekRest_16 : decode cX6_seekRest 16 = .ok (.aload_n 0, 1) := by decide +kernel
theorem dX6_seekRest_17 : decode cX6_seekRest 17 = .ok (.getfield 21, 3) := by decide +kernel
theorem dX6_seekRest_20 : decode cX6_seekRest 20 = .ok (.aload_n 0, 1) := by decide +kernel
theorem dX6_seekRest_21 : decode cX6_seekRest 21 = .ok (.getfield 12, 3) := by decide +kernel
theorem dX6_seekRest_24 : decode cX6_seekRest 24 = .ok (.invokevirtual 29, 3) := by decide +kernel
theorem dX6_seekRest_27 : decode cX6_seekRest 27 = .ok (.ifCond .ne 5, 3) := by decide +kernel
theorem dX6_seekRest_30 : decode cX6_seekRest 30 = .ok (.iconst 0, 1) := by decide +kernel
theorem dX6_seekRest_31 : decode cX6_seekRest 31 = .ok (.ireturn, 1) := by decide +kernel
theorem dX6_seekRest_32 : decode cX6_seekRest 32 = .ok (.aload_n 0, 1) := by decide +kernel
theorem dX6_seekRest_33 : decode cX6_seekRest 33 = .ok (.aload_n 0, 1) := by decide +kernel
theorem dX6_seekRest_34 : decode cX6_seekRest 34 = .ok (.getfield 21, 3) := by decide +kernel
theorem dX6_seekRest_37 : decode cX6_seekRest 37 = .ok (.aload_n 0, 1) := by decide +kernel
theorem dX6_seekRest_38 : decode cX6_seekRest 38 = .ok (.getfield 12, 3) := by decide +kernel
theorem dX6_seekRest_41 : decode cX6_seekRest 41 = .ok (.invokevirtual 33, 3) := by decide +kernel
theorem dX6_seekRest_44 : decode cX6_seekRest 44 = .ok (.putfield 37, 3) := by decide +kernel
theorem dX6_seekRest_47 : decode cX6_seekRest 47 = .ok (.aload_n 0, 1) := by decide +kernel
theorem dX6_seekRest_48 : decode cX6_seekRest 48 = .ok (.getfield 12, 3) := by decide +kernel
theorem dX6_seekRest_51 : decode cX6_seekRest 51 = .ok (.aload_n 0, 1) := by decide +kernel
theorem dX6_seekRest_52 : decode cX6_seekRest 52 = .ok (.getfield 21, 3) := by decide +kernel
theorem dX6_seekRest_55 : decode cX6_seekRest 55 = .ok (.getfield 40, 3) := by decide +kernel
theorem dX6_seekRest_58 : decode cX6_seekRest 58 = .ok (.invokevirtual 44, 3) := by decide +kernel
theorem dX6_seekRest_61 : decode cX6_seekRest 61 = .ok (.ifCond .ne 10, 3) := by decide +kernel
theorem dX6_seekRest_64 : decode cX6_seekRest 64 = .ok (.aload_n 0, 1) := by decide +kernel
theorem dX6_seekRest_65 : decode cX6_seekRest 65 = .ok (.iload_n 2, 1) := by decide +kernel
theorem dX6_seekRest_66 : decode cX6_seekRest 66 = .ok (.putfield 48, 3) := by decide +kernel
theorem dX6_seekRest_69 : decode cX6_seekRest 69 = .ok (.iconst 1, 1) := by decide +kernel
theorem dX6_seekRest_70 : decode cX6_seekRest 70 = .ok (.ireturn, 1) := by decide +kernel
theorem dX6_seekRest_71 : decode cX6_seekRest 71 = .ok (.iinc 2 1, 3) := by decide +kernel
theorem dX6_seekRest_74 : decode cX6_seekRest 74 = .ok (.goto (-64), 3) := by decide +kernel
theorem dX6_seekRest_77 : decode cX6_seekRest 77 = .ok (.iconst 0, 1) := by decide +kernel
theorem dX6_seekRest_78 : decode cX6_seekRest 78 = .ok (.ireturn, 1) := by decide +kernel
theorem dX6_seekBetter_0 : decode cX6_seekBetter 0 = .ok (.aload_n 0, 1) := by decide +kernel
theorem dX6_seekBetter_1 : decode cX6_seekBetter 1 = .ok (.getfield 12, 3) := by decide +kernel
theorem dX6_seekBetter_4 : decode cX6_seekBetter 4 = .ok (.aload_n 1, 1) := by decide +kernel
theorem dX6_seekBetter_5 : decode cX6_seekBetter 5 = .ok (.invokevirtual 25, 3) := by decide +kernel
theorem dX6_seekBetter_8 : decode cX6_seekBetter 8 = .ok (.aload_n 0, 1) := by decide +kernel
theorem dX6_seekBetter_9 : decode cX6_seekBetter 9 = .ok (.getfield 21, 3) := by decide +kernel
theorem dX6_seekBetter_12 : decode cX6_seekBetter 12 = .ok (.aload_n 0, 1) := by decide +kernel
theorem dX6_seekBetter_13 : decode cX6_seekBetter 13 = .ok (.getfield 12, 3) := by decide +kernel
theorem dX6_seekBetter_16 : decode cX6_seekBetter 16 = .ok (.invokevirtual 29, 3) := by decide +kernel
theorem dX6_seekBetter_19 : decode cX6_seekBetter 19 = .ok (.ifCond .ne 5, 3) := by decide +kernel
theorem dX6_seekBetter_22 : decode cX6_seekBetter 22 = .ok (.iconst 0, 1) := by decide +kernel
theorem dX6_seekBetter_23 : decode cX6_seekBetter 23 = .ok (.ireturn, 1) := by decide +kernel
theorem dX6_seekBetter_24 : decode cX6_seekBetter 24 = .ok (.aload_n 0, 1) := by decide +kernel
theorem dX6_seekBetter_25 : decode cX6_seekBetter 25 = .ok (.bipush (-4), 2) := by decide +kernel
theorem dX6_seekBetter_27 : decode cX6_seekBetter 27 = .ok (.putfield 48, 3) := by decide +kernel
theorem dX6_seekBetter_30 : decode cX6_seekBetter 30 = .ok (.aload_n 0, 1) := by decide +kernel
theorem dX6_seekBetter_31 : decode cX6_seekBetter 31 = .ok (.aload_n 0, 1) := by decide +kernel
theorem dX6_seekBetter_32 : decode cX6_seekBetter 32 = .ok (.getfield 21, 3) := by decide +kernel
theorem dX6_seekBetter_35 : decode cX6_seekBetter 35 = .ok (.aload_n 0, 1) := by decide +kernel
theorem dX6_seekBetter_36 : decode cX6_seekBetter 36 = .ok (.getfield 12, 3) := by decide +kernel
theorem dX6_seekBetter_39 : decode cX6_seekBetter 39 = .ok (.invokevirtual 33, 3) := by decide +kernel
theorem dX6_seekBetter_42 : decode cX6_seekBetter 42 = .ok (.putfield 37, 3) := by decide +kernel
theorem dX6_seekBetter_45 : decode cX6_seekBetter 45 = .ok (.iconst 0, 1) := by decide +kernel
theorem dX6_seekBetter_46 : decode cX6_seekBetter 46 = .ok (.istore_n 2, 1) := by decide +kernel
theorem dX6_seekBetter_47 : decode cX6_seekBetter 47 = .ok (.iload_n 2, 1) := by decide +kernel
theorem dX6_seekBetter_48 : decode cX6_seekBetter 48 = .ok (.aload_n 0, 1) := by decide +kernel
theorem dX6_seekBetter_49 : decode cX6_seekBetter 49 = .ok (.getfield 12, 3) := by decide +kernel
theorem dX6_seekBetter_52 : decode cX6_seekBetter 52 = .ok (.getfield 51, 3) := by decide +kernel
theorem dX6_seekBetter_55 : decode cX6_seekBetter 55 = .ok (.if_icmp .ge 25, 3) := by decide +kernel
theorem dX6_seekBetter_58 : decode cX6_seekBetter 58 = .ok (.aload_n 0, 1) := by decide +kernel
theorem dX6_seekBetter_59 : decode cX6_seekBetter 59 = .ok (.getfield 12, 3) := by decide +kernel
theorem dX6_seekBetter_62 : decode cX6_seekBetter 62 = .ok (.iload_n 2, 1) := by decide +kernel
theorem dX6_seekBetter_63 : decode cX6_seekBetter 63 = .ok (.invokevirtual 54, 3) := by decide +kernel
theorem dX6_seekBetter_66 : decode cX6_seekBetter 66 = .ok (.ifCond .eq 8, 3) := by decide +kernel
theorem dX6_seekBetter_69 : decode cX6_seekBetter 69 = .ok (.aload_n 0, 1) := by decide +kernel
theorem dX6_seekBetter_70 : decode cX6_seekBetter 70 = .ok (.iload_n 2, 1) := by decide +kernel
theorem dX6_seekBetter_71 : decode cX6_seekBetter 71 = .ok (.invokevirtual 58, 3) := by decide +kernel
theorem dX6_seekBetter_74 : decode cX6_seekBetter 74 = .ok (.iinc 2 1, 3) := by decide +kernel
theorem dX6_seekBetter_77 : decode cX6_seekBetter 77 = .ok (.goto (-30), 3) := by decide +kernel
theorem dX6_seekBetter_80 : decode cX6_seekBetter 80 = .ok (.aload_n 0, 1) := by decide +kernel
theorem dX6_seekBetter_81 : decode cX6_seekBetter 81 = .ok (.getfield 48, 3) := by decide +kernel
theorem dX6_seekBetter_84 : decode cX6_seekBetter 84 = .ok (.bipush (-4), 2) := by decide +kernel
theorem dX6_seekBetter_86 : decode cX6_seekBetter 86 = .ok (.if_icmp .eq 7, 3) := by decide +kernel
theorem dX6_seekBetter_89 : decode cX6_seekBetter 89 = .ok (.iconst 1, 1) := by decide +kernel
theorem dX6_seekBetter_90 : decode cX6_seekBetter 90 = .ok (.goto 4, 3) := by decide +kernel
theorem dX6_seekBetter_93 : decode cX6_seekBetter 93 = .ok (.iconst 0, 1) := by decide +kernel
theorem dX6_seekBetter_94 : decode cX6_seekBetter 94 = .ok (.ireturn, 1) := by decide +kernel
theorem dX6_tryDensitiesOf_0 : decode cX6_tryDensitiesOf 0 = .ok (.aload_n 0, 1) := by decide +kernel
theorem dX6_tryDensitiesOf_1 : decode cX6_tryDensitiesOf 1 = .ok (.getfield 12, 3) := by decide +kernel
theorem dX6_tryDensitiesOf_4 : decode cX6_tryDensitiesOf 4 = .ok (.getfield 62, 3) := by decide +kernel
theorem dX6_tryDensitiesOf_7 : decode cX6_tryDensitiesOf 7 = .ok (.iload_n 1, 1) := by decide +kernel
theorem dX6_tryDensitiesOf_8 : decode cX6_tryDensitiesOf 8 = .ok (.iaload, 1) := by decide +kernel
theorem dX6_tryDensitiesOf_9 : decode cX6_tryDensitiesOf 9 = .ok (.istore_n 2, 1) := by decide +kernel
theorem dX6_tryDensitiesOf_10 : decode cX6_tryDensitiesOf 10 = .ok (.iconst 1, 1) := by decide +kernel
theorem dX6_tryDensitiesOf_11 : decode cX6_tryDensitiesOf 11 = .ok (.istore_n 3, 1) := by decide +kernel
theorem dX6_tryDensitiesOf_12 : decode cX6_tryDensitiesOf 12 = .ok (.iload_n 3, 1) := by decide +kernel
theorem dX6_tryDensitiesOf_13 : decode cX6_tryDensitiesOf 13 = .ok (.iconst 5, 1) := by decide +kernel
theorem dX6_tryDensitiesOf_14 : decode cX6_tryDensitiesOf 14 = .ok (.if_icmp .gt 81, 3) := by decide +kernel
theorem dX6_tryDensitiesOf_17 : decode cX6_tryDensitiesOf 17 = .ok (.aload_n 0, 1) := by decide +kernel
theorem dX6_tryDensitiesOf_18 : decode cX6_tryDensitiesOf 18 = .ok (.getfield 12, 3) := by decide +kernel
theorem dX6_tryDensitiesOf_21 : decode cX6_tryDensitiesOf 21 = .ok (.getfield 62, 3) := by decide +kernel
theorem dX6_tryDensitiesOf_24 : decode cX6_tryDensitiesOf 24 = .ok (.iload_n 1, 1) := by decide +kernel
theorem dX6_tryDensitiesOf_25 : decode cX6_tryDensitiesOf 25 = .ok (.iload_n 3, 1) := by decide +kernel
theorem dX6_tryDensitiesOf_26 : decode cX6_tryDensitiesOf 26 = .ok (.iastore, 1) := by decide +kernel
theorem dX6_tryDensitiesOf_27 : decode cX6_tryDensitiesOf 27 = .ok (.iload_n 3, 1) := by decide +kernel
theorem dX6_tryDensitiesOf_28 : decode cX6_tryDensitiesOf 28 = .ok (.iload_n 2, 1) := by decide +kernel
theorem dX6_tryDensitiesOf_29 : decode cX6_tryDensitiesOf 29 = .ok (.if_icmp .eq 60, 3) := by decide +kernel
theorem dX6_tryDensitiesOf_32 : decode cX6_tryDensitiesOf 32 = .ok (.aload_n 0, 1) := by decide +kernel
theorem dX6_tryDensitiesOf_33 : decode cX6_tryDensitiesOf 33 = .ok (.getfield 21, 3) := by decide +kernel
theorem dX6_tryDensitiesOf_36 : decode cX6_tryDensitiesOf 36 = .ok (.aload_n 0, 1) := by decide +kernel
theorem dX6_tryDensitiesOf_37 : decode cX6_tryDensitiesOf 37 = .ok (.getfield 12, 3) := by decide +kernel
theorem dX6_tryDensitiesOf_40 : decode cX6_tryDensitiesOf 40 = .ok (.invokevirtual 29, 3) := by decide +kernel
theorem dX6_tryDensitiesOf_43 : decode cX6_tryDensitiesOf 43 = .ok (.ifCond .eq 46, 3) := by decide +kernel
theorem dX6_tryDensitiesOf_46 : decode cX6_tryDensitiesOf 46 = .ok (.aload_n 0, 1) := by decide +kernel
theorem dX6_tryDensitiesOf_47 : decode cX6_tryDensitiesOf 47 = .ok (.getfield 21, 3) := by decide +kernel
theorem dX6_tryDensitiesOf_50 : decode cX6_tryDensitiesOf 50 = .ok (.aload_n 0, 1) := by decide +kernel
theorem dX6_tryDensitiesOf_51 : decode cX6_tryDensitiesOf 51 = .ok (.getfield 12, 3) := by decide +kernel
theorem dX6_tryDensitiesOf_54 : decode cX6_tryDensitiesOf 54 = .ok (.invokevirtual 33, 3) := by decide +kernel
theorem dX6_tryDensitiesOf_57 : decode cX6_tryDensitiesOf 57 = .ok (.aload_n 0, 1) := by decide +kernel
theorem dX6_tryDensitiesOf_58 : decode cX6_tryDensitiesOf 58 = .ok (.getfield 37, 3) := by decide +kernel
theorem dX6_tryDensitiesOf_61 : decode cX6_tryDensitiesOf 61 = .ok (.if_icmp .ge 28, 3) := by decide +kernel
theorem dX6_tryDensitiesOf_64 : decode cX6_tryDensitiesOf 64 = .ok (.aload_n 0, 1) := by decide +kernel
theorem dX6_tryDensitiesOf_65 : decode cX6_tryDensitiesOf 65 = .ok (.aload_n 0, 1) := by decide +kernel
theorem dX6_tryDensitiesOf_66 : decode cX6_tryDensitiesOf 66 = .ok (.getfield 21, 3) := by decide +kernel
theorem dX6_tryDensitiesOf_69 : decode cX6_tryDensitiesOf 69 = .ok (.aload_n 0, 1) := by decide +kernel
theorem dX6_tryDensitiesOf_70 : decode cX6_tryDensitiesOf 70 = .ok (.getfield 12, 3) := by decide +kernel
theorem dX6_tryDensitiesOf_73 : decode cX6_tryDensitiesOf 73 = .ok (.invokevirtual 33, 3) := by decide +kernel
theorem dX6_tryDensitiesOf_76 : decode cX6_tryDensitiesOf 76 = .ok (.putfield 37, 3) := by decide +kernel
theorem dX6_tryDensitiesOf_79 : decode cX6_tryDensitiesOf 79 = .ok (.aload_n 0, 1) := by decide +kernel
theorem dX6_tryDensitiesOf_80 : decode cX6_tryDensitiesOf 80 = .ok (.bipush 10, 2) := by decide +kernel
theorem dX6_tryDensitiesOf_82 : decode cX6_tryDensitiesOf 82 = .ok (.iload_n 1, 1) := by decide +kernel
theorem dX6_tryDensitiesOf_83 : decode cX6_tryDensitiesOf 83 = .ok (.imul, 1) := by decide +kernel
theorem dX6_tryDensitiesOf_84 : decode cX6_tryDensitiesOf 84 = .ok (.iload_n 3, 1) := by decide +kernel
theorem dX6_tryDensitiesOf_85 : decode cX6_tryDensitiesOf 85 = .ok (.iadd, 1) := by decide +kernel
theorem dX6_tryDensitiesOf_86 : decode cX6_tryDensitiesOf 86 = .ok (.putfield 48, 3) := by decide +kernel
theorem dX6_tryDensitiesOf_89 : decode cX6_tryDensitiesOf 89 = .ok (.iinc 3 1, 3) := by decide +kernel
theorem dX6_tryDensitiesOf_92 : decode cX6_tryDensitiesOf 92 = .ok (.goto (-80), 3) := by decide +kernel
theorem dX6_tryDensitiesOf_95 : decode cX6_tryDensitiesOf 95 = .ok (.aload_n 0, 1) := by decide +kernel
theorem dX6_tryDensitiesOf_96 : decode cX6_tryDensitiesOf 96 = .ok (.getfield 12, 3) := by decide +kernel
theorem dX6_tryDensitiesOf_99 : decode cX6_tryDensitiesOf 99 = .ok (.getfield 62, 3) := by decide +kernel
theorem dX6_tryDensitiesOf_102 : decode cX6_tryDensitiesOf 102 = .ok (.iload_n 1, 1) := by decide +kernel
theorem dX6_tryDensitiesOf_103 : decode cX6_tryDensitiesOf 103 = .ok (.iload_n 2, 1) := by decide +kernel
theorem dX6_tryDensitiesOf_104 : decode cX6_tryDensitiesOf 104 = .ok (.iastore, 1) := by decide +kernel
theorem dX6_tryDensitiesOf_105 : decode cX6_tryDensitiesOf 105 = .ok (.return_, 1) := by decide +kernel
end
section
theorem dX4_init_0 : decode cX4_init 0 = .ok (.aload_n 0, 1) := by decide +kernel
theorem dX4_init_1 : decode cX4_init 1 = .ok (.invokespecial 3, 3) := by decide +kernel
theorem dX4_init_4 : decode cX4_init 4 = .ok (.aload_n 0, 1) := by decide +kernel
theorem dX4_init_5 : decode cX4_init 5 = .ok (.bipush 10, 2) := by decide +kernel
theorem dX4_init_7 : decode cX4_init 7 = .ok (.newarray .int, 2) := by decide +kernel
theorem dX4_init_9 : decode cX4_init 9 = .ok (.putfield 9, 3) := by decide +kernel
theorem dX4_init_12 : decode cX4_init 12 = .ok (.aload_n 0, 1) := by decide +kernel
theorem dX4_init_13 : decode cX4_init 13 = .ok (.iconst 5, 1) := by decide +kernel
theorem dX4_init_14 : decode cX4_init 14 = .ok (.bipush 8, 2) := by decide +kernel
theorem dX4_init_16 : decode cX4_init 16 = .ok (.multianewarray 15 2, 4) := by decide +kernel
theorem dX4_init_20 : decode cX4_init 20 = .ok (.putfield 17, 3) := by decide +kernel
theorem dX4_init_23 : decode cX4_init 23 = .ok (.aload_n 0, 1) := by decide +kernel
theorem dX4_init_24 : decode cX4_init 24 = .ok (.bipush 30, 2) := by decide +kernel
theorem dX4_init_26 : decode cX4_init 26 = .ok (.newarray .int, 2) := by decide +kernel
theorem dX4_init_28 : decode cX4_init 28 = .ok (.putfield 20, 3) := by decide +kernel
theorem dX4_init_31 : decode cX4_init 31 = .ok (.aload_n 0, 1) := by decide +kernel
theorem dX4_init_32 : decode cX4_init 32 = .ok (.bipush 14, 2) := by decide +kernel
theorem dX4_init_34 : decode cX4_init 34 = .ok (.newarray .int, 2) := by decide +kernel
theorem dX4_init_36 : decode cX4_init 36 = .ok (.putfield 23, 3) := by decide +kernel
theorem dX4_init_39 : decode cX4_init 39 = .ok (.aload_n 0, 1) := by decide +kernel
theorem dX4_init_40 : decode cX4_init 40 = .ok (.lconst 1, 1) := by decide +kernel
theorem dX4_init_41 : decode cX4_init 41 = .ok (.putfield 26, 3) := by decide +kernel
theorem dX4_init_44 : decode cX4_init 44 = .ok (.return_, 1) := by decide +kernel
theorem dX4_find_0 : decode cX4_find 0 = .ok (.aload_n 1, 1) := by decide +kernel
theorem dX4_find_1 : decode cX4_find 1 = .ok (.invokevirtual 30, 3) := by decide +kernel
theorem dX4_find_4 : decode cX4_find 4 = .ok (.ifCond .ne 5, 3) := by decide +kernel
theorem dX4_find_7 : decode cX4_find 7 = .ok (.iconst 0, 1) := by decide +kernel
theorem dX4_find_8 : decode cX4_find 8 = .ok (.ireturn, 1) := by decide +kernel
theorem dX4_find_9 : decode cX4_find 9 = .ok (.aload_n 0, 1) := by decide +kernel
theorem dX4_find_10 : decode cX4_find 10 = .ok (.aload_n 1, 1) := by decide +kernel
theorem dX4_find_11 : decode cX4_find 11 = .ok (.invokevirtual 36, 3) := by decide +kernel
theorem dX4_find_14 : decode cX4_find 14 = .ok (.aload_n 0, 1) := by decide +kernel
theorem dX4_find_15 : decode cX4_find 15 = .ok (.aload_n 1, 1) := by decide +kernel
theorem dX4_find_16 : decode cX4_find 16 = .ok (.invokevirtual 40, 3) := by decide +kernel
theorem dX4_find_19 : decode cX4_find 19 = .ok (.aload_n 0, 1) := by decide +kernel
theorem dX4_find_20 : decode cX4_find 20 = .ok (.invokevirtual 43, 3) := by decide +kernel
theorem dX4_find_23 : decode cX4_find 23 = .ok (.ifCond .ne 5, 3) := by decide +kernel
theorem dX4_find_26 : decode cX4_find 26 = .ok (.iconst 0, 1) := by decide +kernel
theorem dX4_find_27 : decode cX4_find 27 = .ok (.ireturn, 1) := by decide +kernel
theorem dX4_find_28 : decode cX4_find 28 = .ok (.aload_n 0, 1) := by decide +kernel
theorem dX4_find_29 : decode cX4_find 29 = .ok (.aload_n 1, 1) := by decide +kernel
theorem dX4_find_30 : decode cX4_find 30 = .ok (.invokevirtual 46, 3) := by decide +kernel
theorem dX4_find_33 : decode cX4_find 33 = .ok (.aload_n 0, 1) := by decide +kernel
theorem dX4_find_34 : decode cX4_find 34 = .ok (.aload_n 1, 1) := by decide +kernel
theorem dX4_find_35 : decode cX4_find 35 = .ok (.invokevirtual 49, 3) := by decide +kernel
theorem dX4_find_38 : decode cX4_find 38 = .ok (.iconst 1, 1) := by decide +kernel
theorem dX4_find_39 : decode cX4_find 39 = .ok (.ireturn, 1) := by decide +kernel
theorem dX4_numberFreeJoints_0 : decode cX4_numberFreeJoints 0 = .ok (.aload_n 0, 1) := by decide +kernel
theorem dX4_numberFreeJoints_1 : decode cX4_numberFreeJoints 1 = .ok (.iconst 0, 1) := by decide +kernel
theorem dX4_numberFreeJoints_2 : decode cX4_numberFreeJoints 2 = .ok (.putfield 52, 3) := by decide +kernel
theorem dX4_numberFreeJoints_5 : decode cX4_numberFreeJoints 5 = .ok (.iconst 0, 1) := by decide +kernel
theorem dX4_numberFreeJoints_6 : decode cX4_numberFreeJoints 6 = .ok (.istore_n 2, 1) := by decide +kernel
theorem dX4_numberFreeJoints_7 : decode cX4_numberFreeJoints 7 = .ok (.iload_n 2, 1) := by decide +kernel
theorem dX4_numberFreeJoints_8 : decode cX4_numberFreeJoints 8 = .ok (.aload_n 1, 1) := by decide +kernel
theorem dX4_numberFreeJoints_9 : decode cX4_numberFreeJoints 9 = .ok (.getfield 56, 3) := by decide +kernel
theorem dX4_numberFreeJoints_12 : decode cX4_numberFreeJoints 12 = .ok (.if_icmp .ge 45, 3) := by decide +kernel
theorem dX4_numberFreeJoints_15 : decode cX4_numberFreeJoints 15 = .ok (.aload_n 1, 1) := by decide +kernel
theorem dX4_numberFreeJoints_16 : decode cX4_numberFreeJoints 16 = .ok (.iload_n 2, 1) := by decide +kernel
theorem dX4_numberFreeJoints_17 : decode cX4_numberFreeJoints 17 = .ok (.invokevirtual 59, 3) := by decide +kernel
theorem dX4_numberFreeJoints_20 : decode cX4_numberFreeJoints 20 = .ok (.ifCond .eq 31, 3) := by decide +kernel
theorem dX4_numberFreeJoints_23 : decode cX4_numberFreeJoints 23 = .ok (.aload_n 0, 1) := by decide +kernel
theorem dX4_numberFreeJoints_24 : decode cX4_numberFreeJoints 24 = .ok (.getfield 52, 3) := by decide +kernel
theorem dX4_numberFreeJoints_27 : decode cX4_numberFreeJoints 27 = .ok (.iconst 5, 1) := by decide +kernel
theorem dX4_numberFreeJoints_28 : decode cX4_numberFreeJoints 28 = .ok (.if_icmp .ge 23, 3) := by decide +kernel
theorem dX4_numberFreeJoints_31 : decode cX4_numberFreeJoints 31 = .ok (.aload_n 0, 1) := by decide +kernel
theorem dX4_numberFreeJoints_32 : decode cX4_numberFreeJoints 32 = .ok (.getfield 9, 3) := by decide +kernel
theorem dX4_numberFreeJoints_35 : decode cX4_numberFreeJoints 35 = .ok (.iload_n 2, 1) := by decide +kernel
theorem dX4_numberFreeJoints_36 : decode cX4_numberFreeJoints 36 = .ok (.aload_n 0, 1) := by decide +kernel
theorem dX4_numberFreeJoints_37 : decode cX4_numberFreeJoints 37 = .ok (.getfield 52, 3) := by decide +kernel
theorem dX4_numberFreeJoints_40 : decode cX4_numberFreeJoints 40 = .ok (.iastore, 1) := by decide +kernel
theorem dX4_numberFreeJoints_41 : decode cX4_numberFreeJoints 41 = .ok (.aload_n 0, 1) := by decide +kernel
theorem dX4_numberFreeJoints_42 : decode cX4_numberFreeJoints 42 = .ok (.dup, 1) := by decide +kernel
theorem dX4_numberFreeJoints_43 : decode cX4_numberFreeJoints 43 = .ok (.getfield 52, 3) := by decide +kernel
theorem dX4_numberFreeJoints_46 : decode cX4_numberFreeJoints 46 = .ok (.iconst 1, 1) := by decide +kernel
theorem dX4_numberFreeJoints_47 : decode cX4_numberFreeJoints 47 = .ok (.iadd, 1) := by decide +kernel
theorem dX4_numberFreeJoints_48 : decode cX4_numberFreeJoints 48 = .ok (.putfield 52, 3) := by decide +kernel
theorem dX4_numberFreeJoints_51 : decode cX4_numberFreeJoints 51 = .ok (.iinc 2 1, 3) := by decide +kernel
theorem dX4_numberFreeJoints_54 : decode cX4_numberFreeJoints 54 = .ok (.goto (-47), 3) := by decide +kernel
theorem dX4_numberFreeJoints_57 : decode cX4_numberFreeJoints 57 = .ok (.return_, 1) := by decide +kernel
theorem dX4_setUpRows_0 : decode cX4_setUpRows 0 = .ok (.iconst 0, 1) := by decide +kernel
theorem dX4_setUpRows_1 : decode cX4_setUpRows 1 = .ok (.istore_n 2, 1) := by decide +kernel
theorem dX4_setUpRows_2 : decode cX4_setUpRows 2 = .ok (.iload_n 2, 1) := by decide +kernel
theorem dX4_setUpRows_3 : decode cX4_setUpRows 3 = .ok (.aload_n 0, 1) := by decide +kernel
theorem dX4_setUpRows_4 : decode cX4_setUpRows 4 = .ok (.getfield 52, 3) := by decide +kernel
theorem dX4_setUpRows_7 : decode cX4_setUpRows 7 = .ok (.if_icmp .ge 36, 3) := by decide +kernel
theorem dX4_setUpRows_10 : decode cX4_setUpRows 10 = .ok (.iconst 0, 1) := by decide +kernel
theorem dX4_setUpRows_11 : decode cX4_setUpRows 11 = .ok (.istore_n 3, 1) := by decide +kernel
theorem dX4_setUpRows_12 : decode cX4_setUpRows 12 = .ok (.iload_n 3, 1) := by decide +kernel
theorem dX4_setUpRows_13 : decode cX4_setUpRows 13 = .ok (.aload_n 0, 1) := by decide +kernel
theorem dX4_setUpRows_14 : decode cX4_setUpRows 14 = .ok (.getfield 52, 3) := by decide +kernel
theorem dX4_setUpRows_17 : decode cX4_setUpRows 17 = .ok (.iconst 3, 1) := by decide +kernel
theorem dX4_setUpRows_18 : decode cX4_setUpRows 18 = .ok (.iadd, 1) := by decide +kernel
theorem dX4_setUpRows_19 : decode cX4_setUpRows 19 = .ok (.if_icmp .ge 18, 3) := by decide +kernel
theorem dX4_setUpRows_22 : decode cX4_setUpRows 22 = .ok (.aload_n 0, 1) := by decide +kernel
theorem dX4_setUpRows_23 : decode cX4_setUpRows 23 = .ok (.getfield 17, 3) := by decide +kernel
theorem dX4_setUpRows_26 : decode cX4_setUpRows 26 = .ok (.iload_n 2, 1) := by decide +kernel
theorem dX4_setUpRows_27 : decode cX4_setUpRows 27 = .ok (.aaload, 1) := by decide +kernel
theorem dX4_setUpRows_28 : decode cX4_setUpRows 28 = .ok (.iload_n 3, 1) := by decide +kernel
theorem dX4_setUpRows_29 : decode cX4_setUpRows 29 = .ok (.lconst 0, 1) := by decide +kernel
theorem dX4_setUpRows_30 : decode cX4_setUpRows 30 = .ok (.lastore, 1) := by decide +kernel
theorem dX4_setUpRows_31 : decode cX4_setUpRows 31 = .ok (.iinc 3 1, 3) := by decide +kernel
theorem dX4_setUpRows_34 : decode cX4_setUpRows 34 = .ok (.goto (-22), 3) := by decide +kernel
theorem dX4_setUpRows_37 : decode cX4_setUpRows 37 = .ok (.iinc 2 1, 3) := by decide +kernel
theorem dX4_setUpRows_40 : decode cX4_setUpRows 40 = .ok (.goto (-38), 3) := by decide +kernel
theorem dX4_setUpRows_43 : decode cX4_setUpRows 43 = .ok (.iconst 0, 1) := by decide +kernel
theorem dX4_setUpRows_44 : decode cX4_setUpRows 44 = .ok (.istore_n 2, 1) := by decide +kernel
theorem dX4_setUpRows_45 : decode cX4_setUpRows 45 = .ok (.iload_n 2, 1) := by decide +kernel
theorem dX4_setUpRows_46 : decode cX4_setUpRows 46 = .ok (.aload_n 1, 1) := by decide +kernel
theorem dX4_setUpRows_47 : decode cX4_setUpRows 47 = .ok (.getfield 56, 3) := by decide +kernel
theorem dX4_setUpRows_50 : decode cX4_setUpRows 50 = .ok (.if_icmp .ge 42, 3) := by decide +kernel
theorem dX4_setUpRows_53 : decode cX4_setUpRows 53 = .ok (.aload_n 1, 1) := by decide +kernel
theorem dX4_setUpRows_54 : decode cX4_setUpRows 54 = .ok (.iload_n 2, 1) := by decide +kernel
theorem dX4_setUpRows_55 : decode cX4_setUpRows 55 = .ok (.invokevirtual 59, 3) := by decide +kernel
theorem dX4_setUpRows_58 : decode cX4_setUpRows 58 = .ok (.ifCond .eq 28, 3) := by decide +kernel
theorem dX4_setUpRows_61 : decode cX4_setUpRows 61 = .ok (.aload_n 0, 1) := by decide +kernel
theorem dX4_setUpRows_62 : decode cX4_setUpRows 62 = .ok (.getfield 17, 3) := by decide +kernel
theorem dX4_setUpRows_65 : decode cX4_setUpRows 65 = .ok (.aload_n 0, 1) := by decide +kernel
theorem dX4_setUpRows_66 : decode cX4_setUpRows 66 = .ok (.getfield 9, 3) := by decide +kernel
theorem dX4_setUpRows_69 : decode cX4_setUpRows 69 = .ok (.iload_n 2, 1) := by decide +kernel
theorem dX4_setUpRows_70 : decode cX4_setUpRows 70 = .ok (.iaload, 1) := by decide +kernel
theorem dX4_setUpRows_71 : decode cX4_setUpRows 71 = .ok (.aaload, 1) := by decide +kernel
theorem dX4_setUpRows_72 : decode cX4_setUpRows 72 = .ok (.aload_n 0, 1) := by decide +kernel
theorem dX4_setUpRows_73 : decode cX4_setUpRows 73 = .ok (.getfield 52, 3) := by decide +kernel
theorem dX4_setUpRows_76 : decode cX4_setUpRows 76 = .ok (.iconst 2, 1) := by decide +kernel
theorem dX4_setUpRows_77 : decode cX4_setUpRows 77 = .ok (.iadd, 1) := by decide +kernel
theorem dX4_setUpRows_78 : decode cX4_setUpRows 78 = .ok (.aload_n 1, 1) := by decide +kernel
theorem dX4_setUpRows_79 : decode cX4_setUpRows 79 = .ok (.getfield 63, 3) := by decide +kernel
theorem dX4_setUpRows_82 : decode cX4_setUpRows 82 = .ok (.iload_n 2, 1) := by decide +kernel
theorem dX4_setUpRows_83 : decode cX4_setUpRows 83 = .ok (.iaload, 1) := by decide +kernel
theorem dX4_setUpRows_84 : decode cX4_setUpRows 84 = .ok (.i2l, 1) := by decide +kernel
theorem dX4_setUpRows_85 : decode cX4_setUpRows 85 = .ok (.lastore, 1) := by decide +kernel
theorem dX4_setUpRows_86 : decode cX4_setUpRows 86 = .ok (.iinc 2 1, 3) := by decide +kernel
theorem dX4_setUpRows_89 : decode cX4_setUpRows 89 = .ok (.goto (-44), 3) := by decide +kernel
theorem dX4_setUpRows_92 : decode cX4_setUpRows 92 = .ok (.iconst 0, 1) := by decide +kernel
theorem dX4_setUpRows_93 : decode cX4_setUpRows 93 = .ok (.istore_n 2, 1) := by decide +kernel
theorem dX4_setUpRows_94 : decode cX4_setUpRows 94 = .ok (.iload_n 2, 1) := by decide +kernel
theorem dX4_setUpRows_95 : decode cX4_setUpRows 95 = .ok (.aload_n 1, 1) := by decide +kernel
theorem dX4_setUpRows_96 : decode cX4_setUpRows 96 = .ok (.getfield 66, 3) := by decide +kernel
theorem dX4_setUpRows_99 : decode cX4_setUpRows 99 = .ok (.if_icmp .ge 41, 3) := by decide +kernel
theorem dX4_setUpRows_102 : decode cX4_setUpRows 102 = .ok (.aload_n 1, 1) := by decide +kernel
theorem dX4_setUpRows_103 : decode cX4_setUpRows 103 = .ok (.iload_n 2, 1) := by decide +kernel
theorem dX4_setUpRows_104 : decode cX4_setUpRows 104 = .ok (.invokevirtual 69, 3) := by decide +kernel
theorem dX4_setUpRows_107 : decode cX4_setUpRows 107 = .ok (.ifCond .eq 27, 3) := by decide +kernel
theorem dX4_setUpRows_110 : decode cX4_setUpRows 110 = .ok (.aload_n 0, 1) := by decide +kernel
theorem dX4_setUpRows_111 : decode cX4_setUpRows 111 = .ok (.aload_n 1, 1) := by decide +kernel
theorem dX4_setUpRows_112 : decode cX4_setUpRows 112 = .ok (.iload_n 2, 1) := by decide +kernel
theorem dX4_setUpRows_113 : decode cX4_setUpRows 113 = .ok (.aload_n 1, 1) := by decide +kernel
theorem dX4_setUpRows_114 : decode cX4_setUpRows 114 = .ok (.getfield 72, 3) := by decide +kernel
theorem dX4_setUpRows_117 : decode cX4_setUpRows 117 = .ok (.iload_n 2, 1) := by decide +kernel
theorem dX4_setUpRows_118 : decode cX4_setUpRows 118 = .ok (.iaload, 1) := by decide +kernel
theorem dX4_setUpRows_119 : decode cX4_setUpRows 119 = .ok (.invokevirtual 75, 3) := by decide +kernel
theorem dX4_setUpRows_122 : decode cX4_setUpRows 122 = .ok (.aload_n 0, 1) := by decide +kernel
theorem dX4_setUpRows_123 : decode cX4_setUpRows 123 = .ok (.aload_n 1, 1) := by decide +kernel
theorem dX4_setUpRows_124 : decode cX4_setUpRows 124 = .ok (.iload_n 2, 1) := by decide +kernel
theorem dX4_setUpRows_125 : decode cX4_setUpRows 125 = .ok (.aload_n 1, 1) := by decide +kernel
theorem dX4_setUpRows_126 : decode cX4_setUpRows 126 = .ok (.getfield 79, 3) := by decide +kernel
theorem dX4_setUpRows_129 : decode cX4_setUpRows 129 = .ok (.iload_n 2, 1) := by decide +kernel
theorem dX4_setUpRows_130 : decode cX4_setUpRows 130 = .ok (.iaload, 1) := by decide +kernel
theorem dX4_setUpRows_131 : decode cX4_setUpRows 131 = .ok (.invokevirtual 75, 3) := by decide +kernel
theorem dX4_setUpRows_134 : decode cX4_setUpRows 134 = .ok (.iinc 2 1, 3) := by decide +kernel
theorem dX4_setUpRows_137 : decode cX4_setUpRows 137 = .ok (.goto (-43), 3) := by decide +kernel
theorem dX4_setUpRows_140 : decode cX4_setUpRows 140 = .ok (.return_, 1) := by decide +kernel
theorem dX4_addPullOn_0 : decode cX4_addPullOn 0 = .ok (.aload_n 1, 1) := by decide +kernel
theorem dX4_addPullOn_1 : decode cX4_addPullOn 1 = .ok (.iload_n 3, 1) := by decide +kernel
theorem dX4_addPullOn_2 : decode cX4_addPullOn 2 = .ok (.invokevirtual 59, 3) := by decide +kernel
theorem dX4_addPullOn_5 : decode cX4_addPullOn 5 = .ok (.ifCond .ne 4, 3) := by decide +kernel
theorem dX4_addPullOn_8 : decode cX4_addPullOn 8 = .ok (.return_, 1) := by decide +kernel
theorem dX4_addPullOn_9 : decode cX4_addPullOn 9 = .ok (.aload_n 0, 1) := by decide +kernel
theorem dX4_addPullOn_10 : decode cX4_addPullOn 10 = .ok (.getfield 17, 3) := by decide +kernel
theorem dX4_addPullOn_13 : decode cX4_addPullOn 13 = .ok (.aload_n 0, 1) := by decide +kernel
theorem dX4_addPullOn_14 : decode cX4_addPullOn 14 = .ok (.getfield 9, 3) := by decide +kernel
theorem dX4_addPullOn_17 : decode cX4_addPullOn 17 = .ok (.iload_n 3, 1) := by decide +kernel
theorem dX4_addPullOn_18 : decode cX4_addPullOn 18 = .ok (.iaload, 1) := by decide +kernel
theorem dX4_addPullOn_19 : decode cX4_addPullOn 19 = .ok (.aaload, 1) := by decide +kernel
theorem dX4_addPullOn_20 : decode cX4_addPullOn 20 = .ok (.astore 4, 2) := by decide +kernel
theorem dX4_addPullOn_22 : decode cX4_addPullOn 22 = .ok (.aload_n 1, 1) := by decide +kernel
theorem dX4_addPullOn_23 : decode cX4_addPullOn 23 = .ok (.iload_n 2, 1) := by decide +kernel
theorem dX4_addPullOn_24 : decode cX4_addPullOn 24 = .ok (.iload_n 3, 1) := by decide +kernel
theorem dX4_addPullOn_25 : decode cX4_addPullOn 25 = .ok (.invokevirtual 82, 3) := by decide +kernel
theorem dX4_addPullOn_28 : decode cX4_addPullOn 28 = .ok (.istore 5, 2) := by decide +kernel
theorem dX4_addPullOn_30 : decode cX4_addPullOn 30 = .ok (.aload_n 1, 1) := by decide +kernel
theorem dX4_addPullOn_31 : decode cX4_addPullOn 31 = .ok (.getfield 86, 3) := by decide +kernel
theorem dX4_addPullOn_34 : decode cX4_addPullOn 34 = .ok (.iload_n 2, 1) := by decide +kernel
theorem dX4_addPullOn_35 : decode cX4_addPullOn 35 = .ok (.iaload, 1) := by decide +kernel
theorem dX4_addPullOn_36 : decode cX4_addPullOn 36 = .ok (.istore 6, 2) := by decide +kernel
theorem dX4_addPullOn_38 : decode cX4_addPullOn 38 = .ok (.aload 4, 2) := by decide +kernel
theorem dX4_addPullOn_40 : decode cX4_addPullOn 40 = .ok (.aload_n 0, 1) := by decide +kernel
theorem dX4_addPullOn_41 : decode cX4_addPullOn 41 = .ok (.getfield 9, 3) := by decide +kernel
theorem dX4_addPullOn_44 : decode cX4_addPullOn 44 = .ok (.iload_n 3, 1) := by decide +kernel
theorem dX4_addPullOn_45 : decode cX4_addPullOn 45 = .ok (.iaload, 1) := by decide +kernel
theorem dX4_addPullOn_46 : decode cX4_addPullOn 46 = .ok (.dup2, 1) := by decide +kernel
theorem dX4_addPullOn_47 : decode cX4_addPullOn 47 = .ok (.laload, 1) := by decide +kernel
theorem dX4_addPullOn_48 : decode cX4_addPullOn 48 = .ok (.iload 6, 2) := by decide +kernel
theorem dX4_addPullOn_50 : decode cX4_addPullOn 50 = .ok (.i2l, 1) := by decide +kernel
theorem dX4_addPullOn_51 : decode cX4_addPullOn 51 = .ok (.ladd, 1) := by decide +kernel
theorem dX4_addPullOn_52 : decode cX4_addPullOn 52 = .ok (.lastore, 1) := by decide +kernel
theorem dX4_addPullOn_53 : decode cX4_addPullOn 53 = .ok (.aload_n 1, 1) := by decide +kernel
theorem dX4_addPullOn_54 : decode cX4_addPullOn 54 = .ok (.iload 5, 2) := by decide +kernel
theorem dX4_addPullOn_56 : decode cX4_addPullOn 56 = .ok (.invokevirtual 59, 3) := by decide +kernel
theorem dX4_addPullOn_59 : decode cX4_addPullOn 59 = .ok (.ifCond .eq 20, 3) := by decide +kernel
theorem dX4_addPullOn_62 : decode cX4_addPullOn 62 = .ok (.aload 4, 2) := by decide +kernel
theorem dX4_addPullOn_64 : decode cX4_addPullOn 64 = .ok (.aload_n 0, 1) := by decide +kernel
theorem dX4_addPullOn_65 : decode cX4_addPullOn 65 = .ok (.getfield 9, 3) := by decide +kernel
theorem dX4_addPullOn_68 : decode cX4_addPullOn 68 = .ok (.iload 5, 2) := by decide +kernel
theorem dX4_addPullOn_70 : decode cX4_addPullOn 70 = .ok (.iaload, 1) := by decide +kernel
theorem dX4_addPullOn_71 : decode cX4_addPullOn 71 = .ok (.dup2, 1) := by decide +kernel
theorem dX4_addPullOn_72 : decode cX4_addPullOn 72 = .ok (.laload, 1) := by decide +kernel
theorem dX4_addPullOn_73 : decode cX4_addPullOn 73 = .ok (.iload 6, 2) := by decide +kernel
theorem dX4_addPullOn_75 : decode cX4_addPullOn 75 = .ok (.i2l, 1) := by decide +kernel
theorem dX4_addPullOn_76 : decode cX4_addPullOn 76 = .ok (.lsub, 1) := by decide +kernel
theorem dX4_addPullOn_77 : decode cX4_addPullOn 77 = .ok (.lastore, 1) := by decide +kernel
theorem dX4_addPullOn_78 : decode cX4_addPullOn 78 = .ok (.return_, 1) := by decide +kernel
theorem dX4_addPullOn_79 : decode cX4_addPullOn 79 = .ok (.iconst 0, 1) := by decide +kernel
theorem dX4_addPullOn_80 : decode cX4_addPullOn 80 = .ok (.istore 7, 2) := by decide +kernel
theorem dX4_addPullOn_82 : decode cX4_addPullOn 82 = .ok (.iload 7, 2) := by decide +kernel
theorem dX4_addPullOn_84 : decode cX4_addPullOn 84 = .ok (.iconst 3, 1) := by decide +kernel
theorem dX4_addPullOn_85 : decode cX4_addPullOn 85 = .ok (.if_icmp .ge 38, 3) := by decide +kernel
theorem dX4_addPullOn_88 : decode cX4_addPullOn 88 = .ok (.aload 4, 2) := by decide +kernel
theorem dX4_addPullOn_90 : decode cX4_addPullOn 90 = .ok (.aload_n 0, 1) := by decide +kernel
theorem dX4_addPullOn_91 : decode cX4_addPullOn 91 = .ok (.getfield 52, 3) := by decide +kernel
theorem dX4_addPullOn_94 : decode cX4_addPullOn 94 = .ok (.iload 7, 2) := by decide +kernel
theorem dX4_addPullOn_96 : decode cX4_addPullOn 96 = .ok (.iadd, 1) := by decide +kernel
theorem dX4_addPullOn_97 : decode cX4_addPullOn 97 = .ok (.dup2, 1) := by decide +kernel
theorem dX4_addPullOn_98 : decode cX4_addPullOn 98 = .ok (.laload, 1) := by decide +kernel
theorem dX4_addPullOn_99 : decode cX4_addPullOn 99 = .ok (.iload 6, 2) := by decide +kernel
theorem dX4_addPullOn_101 : decode cX4_addPullOn 101 = .ok (.aload_n 1, 1) := by decide +kernel
theorem dX4_addPullOn_102 : decode cX4_addPullOn 102 = .ok (.getfield 89, 3) := by decide +kernel
theorem dX4_addPullOn_105 : decode cX4_addPullOn 105 = .ok (.iload 5, 2) := by decide +kernel
theorem dX4_addPullOn_107 : decode cX4_addPullOn 107 = .ok (.iconst 3, 1) := by decide +kernel
theorem dX4_addPullOn_108 : decode cX4_addPullOn 108 = .ok (.imul, 1) := by decide +kernel
theorem dX4_addPullOn_109 : decode cX4_addPullOn 109 = .ok (.iload 7, 2) := by decide +kernel
theorem dX4_addPullOn_111 : decode cX4_addPullOn 111 = .ok (.iadd, 1) := by decide +kernel
theorem dX4_addPullOn_112 : decode cX4_addPullOn 112 = .ok (.iaload, 1) := by decide +kernel
theorem dX4_addPullOn_113 : decode cX4_addPullOn 113 = .ok (.imul, 1) := by decide +kernel
theorem dX4_addPullOn_114 : decode cX4_addPullOn 114 = .ok (.i2l, 1) := by decide +kernel
theorem dX4_addPullOn_115 : decode cX4_addPullOn 115 = .ok (.ladd, 1) := by decide +kernel
theorem dX4_addPullOn_116 : decode cX4_addPullOn 116 = .ok (.lastore, 1) := by decide +kernel
theorem dX4_addPullOn_117 : decode cX4_addPullOn 117 = .ok (.iinc 7 1, 3) := by decide +kernel
theorem dX4_addPullOn_120 : decode cX4_addPullOn 120 = .ok (.goto (-38), 3) := by decide +kernel
theorem dX4_addPullOn_123 : decode cX4_addPullOn 123 = .ok (.return_, 1) := by decide +kernel
theorem dX4_eliminate_0 : decode cX4_eliminate 0 = .ok (.aload_n 0, 1) := by decide +kernel
theorem dX4_eliminate_1 : decode cX4_eliminate 1 = .ok (.lconst 1, 1) := by decide +kernel
theorem dX4_eliminate_2 : decode cX4_eliminate 2 = .ok (.putfield 26, 3) := by decide +kernel
theorem dX4_eliminate_5 : decode cX4_eliminate 5 = .ok (.iconst 0, 1) := by decide +kernel
theorem dX4_eliminate_6 : decode cX4_eliminate 6 = .ok (.istore_n 1, 1) := by decide +kernel
theorem dX4_eliminate_7 : decode cX4_eliminate 7 = .ok (.iload_n 1, 1) := by decide +kernel
theorem dX4_eliminate_8 : decode cX4_eliminate 8 = .ok (.aload_n 0, 1) := by decide +kernel
theorem dX4_eliminate_9 : decode cX4_eliminate 9 = .ok (.getfield 52, 3) := by decide +kernel
theorem dX4_eliminate_12 : decode cX4_eliminate 12 = .ok (.if_icmp .ge 72, 3) := by decide +kernel
theorem dX4_eliminate_15 : decode cX4_eliminate 15 = .ok (.aload_n 0, 1) := by decide +kernel
theorem dX4_eliminate_16 : decode cX4_eliminate 16 = .ok (.getfield 17, 3) := by decide +kernel
theorem dX4_eliminate_19 : decode cX4_eliminate 19 = .ok (.iload_n 1, 1) := by decide +kernel
theorem dX4_eliminate_20 : decode cX4_eliminate 20 = .ok (.aaload, 1) := by decide +kernel
theorem dX4_eliminate_21 : decode cX4_eliminate 21 = .ok (.iload_n 1, 1) := by decide +kernel
theorem dX4_eliminate_22 : decode cX4_eliminate 22 = .ok (.laload, 1) := by decide +kernel
theorem dX4_eliminate_23 : decode cX4_eliminate 23 = .ok (.lstore_n 2, 1) := by decide +kernel
theorem dX4_eliminate_24 : decode cX4_eliminate 24 = .ok (.lload_n 2, 1) := by decide +kernel
theorem dX4_eliminate_25 : decode cX4_eliminate 25 = .ok (.lconst 0, 1) := by decide +kernel
theorem dX4_eliminate_26 : decode cX4_eliminate 26 = .ok (.lcmp, 1) := by decide +kernel
theorem dX4_eliminate_27 : decode cX4_eliminate 27 = .ok (.ifCond .le 12, 3) := by decide +kernel
theorem dX4_eliminate_30 : decode cX4_eliminate 30 = .ok (.aload_n 0, 1) := by decide +kernel
theorem dX4_eliminate_31 : decode cX4_eliminate 31 = .ok (.getfield 26, 3) := by decide +kernel
theorem dX4_eliminate_34 : decode cX4_eliminate 34 = .ok (.lconst 0, 1) := by decide +kernel
theorem dX4_eliminate_35 : decode cX4_eliminate 35 = .ok (.lcmp, 1) := by decide +kernel
theorem dX4_eliminate_36 : decode cX4_eliminate 36 = .ok (.ifCond .gt 5, 3) := by decide +kernel
theorem dX4_eliminate_39 : decode cX4_eliminate 39 = .ok (.iconst 0, 1) := by decide +kernel
theorem dX4_eliminate_40 : decode cX4_eliminate 40 = .ok (.ireturn, 1) := by decide +kernel
theorem dX4_eliminate_41 : decode cX4_eliminate 41 = .ok (.iconst 0, 1) := by decide +kernel
theorem dX4_eliminate_42 : decode cX4_eliminate 42 = .ok (.istore 4, 2) := by decide +kernel
theorem dX4_eliminate_44 : decode cX4_eliminate 44 = .ok (.iload 4, 2) := by decide +kernel
theorem dX4_eliminate_46 : decode cX4_eliminate 46 = .ok (.aload_n 0, 1) := by decide +kernel
theorem dX4_eliminate_47 : decode cX4_eliminate 47 = .ok (.getfield 52, 3) := by decide +kernel
theorem dX4_eliminate_50 : decode cX4_eliminate 50 = .ok (.if_icmp .ge 23, 3) := by decide +kernel
theorem dX4_eliminate_53 : decode cX4_eliminate 53 = .ok (.iload 4, 2) := by decide +kernel
theorem dX4_eliminate_55 : decode cX4_eliminate 55 = .ok (.iload_n 1, 1) := by decide +kernel
theorem dX4_eliminate_56 : decode cX4_eliminate 56 = .ok (.if_icmp .eq 11, 3) := by decide +kernel
theorem dX4_eliminate_59 : decode cX4_eliminate 59 = .ok (.aload_n 0, 1) := by decide +kernel
theorem dX4_eliminate_60 : decode cX4_eliminate 60 = .ok (.iload 4, 2) := by decide +kernel
theorem dX4_eliminate_62 : decode cX4_eliminate 62 = .ok (.iload_n 1, 1) := by decide +kernel
theorem dX4_eliminate_63 : decode cX4_eliminate 63 = .ok (.lload_n 2, 1) := by decide +kernel
theorem dX4_eliminate_64 : decode cX4_eliminate 64 = .ok (.invokevirtual 92, 3) := by decide +kernel
theorem dX4_eliminate_67 : decode cX4_eliminate 67 = .ok (.iinc 4 1, 3) := by decide +kernel
theorem dX4_eliminate_70 : decode cX4_eliminate 70 = .ok (.goto (-26), 3) := by decide +kernel
theorem dX4_eliminate_73 : decode cX4_eliminate 73 = .ok (.aload_n 0, 1) := by decide +kernel
theorem dX4_eliminate_74 : decode cX4_eliminate 74 = .ok (.lload_n 2, 1) := by decide +kernel
theorem dX4_eliminate_75 : decode cX4_eliminate 75 = .ok (.putfield 26, 3) := by decide +kernel
theorem dX4_eliminate_78 : decode cX4_eliminate 78 = .ok (.iinc 1 1, 3) := by decide +kernel
theorem dX4_eliminate_81 : decode cX4_eliminate 81 = .ok (.goto (-74), 3) := by decide +kernel
theorem dX4_eliminate_84 : decode cX4_eliminate 84 = .ok (.iconst 1, 1) := by decide +kernel
theorem dX4_eliminate_85 : decode cX4_eliminate 85 = .ok (.ireturn, 1) := by decide +kernel
theorem dX4_clearColumn_0 : decode cX4_clearColumn 0 = .ok (.aload_n 0, 1) := by decide +kernel
theorem dX4_clearColumn_1 : decode cX4_clearColumn 1 = .ok (.getfield 17, 3) := by decide +kernel
theorem dX4_clearColumn_4 : decode cX4_clearColumn 4 = .ok (.iload_n 1, 1) := by decide +kernel
theorem dX4_clearColumn_5 : decode cX4_clearColumn 5 = .ok (.aaload, 1) := by decide +kernel
theorem dX4_clearColumn_6 : decode cX4_clearColumn 6 = .ok (.iload_n 2, 1) := by decide +kernel
theorem dX4_clearColumn_7 : decode cX4_clearColumn 7 = .ok (.laload, 1) := by decide +kernel
theorem dX4_clearColumn_8 : decode cX4_clearColumn 8 = .ok (.lstore 5, 2) := by decide +kernel
theorem dX4_clearColumn_10 : decode cX4_clearColumn 10 = .ok (.aload_n 0, 1) := by decide +kernel
theorem dX4_clearColumn_11 : decode cX4_clearColumn 11 = .ok (.getfield 26, 3) := by decide +kernel
theorem dX4_clearColumn_14 : decode cX4_clearColumn 14 = .ok (.lconst 0, 1) := by decide +kernel
theorem dX4_clearColumn_15 : decode cX4_clearColumn 15 = .ok (.lcmp, 1) := by decide +kernel
theorem dX4_clearColumn_16 : decode cX4_clearColumn 16 = .ok (.ifCond .gt 4, 3) := by decide +kernel
theorem dX4_clearColumn_19 : decode cX4_clearColumn 19 = .ok (.return_, 1) := by decide +kernel
theorem dX4_clearColumn_20 : decode cX4_clearColumn 20 = .ok (.iconst 0, 1) := by decide +kernel
theorem dX4_clearColumn_21 : decode cX4_clearColumn 21 = .ok (.istore 7, 2) := by decide +kernel
theorem dX4_clearColumn_23 : decode cX4_clearColumn 23 = .ok (.iload 7, 2) := by decide +kernel
theorem dX4_clearColumn_25 : decode cX4_clearColumn 25 = .ok (.aload_n 0, 1) := by decide +kernel
theorem dX4_clearColumn_26 : decode cX4_clearColumn 26 = .ok (.getfield 52, 3) := by decide +kernel
theorem dX4_clearColumn_29 : decode cX4_clearColumn 29 = .ok (.iconst 3, 1) := by decide +kernel
theorem dX4_clearColumn_30 : decode cX4_clearColumn 30 = .ok (.iadd, 1) := by decide +kernel
theorem dX4_clearColumn_31 : decode cX4_clearColumn 31 = .ok (.if_icmp .ge 47, 3) := by decide +kernel
theorem dX4_clearColumn_34 : decode cX4_clearColumn 34 = .ok (.aload_n 0, 1) := by decide +kernel
theorem dX4_clearColumn_35 : decode cX4_clearColumn 35 = .ok (.getfield 17, 3) := by decide +kernel
theorem dX4_clearColumn_38 : decode cX4_clearColumn 38 = .ok (.iload_n 1, 1) := by decide +kernel
theorem dX4_clearColumn_39 : decode cX4_clearColumn 39 = .ok (.aaload, 1) := by decide +kernel
theorem dX4_clearColumn_40 : decode cX4_clearColumn 40 = .ok (.iload 7, 2) := by decide +kernel
theorem dX4_clearColumn_42 : decode cX4_clearColumn 42 = .ok (.lload_n 3, 1) := by decide +kernel
theorem dX4_clearColumn_43 : decode cX4_clearColumn 43 = .ok (.aload_n 0, 1) := by decide +kernel
theorem dX4_clearColumn_44 : decode cX4_clearColumn 44 = .ok (.getfield 17, 3) := by decide +kernel
theorem dX4_clearColumn_47 : decode cX4_clearColumn 47 = .ok (.iload_n 1, 1) := by decide +kernel
theorem dX4_clearColumn_48 : decode cX4_clearColumn 48 = .ok (.aaload, 1) := by decide +kernel
theorem dX4_clearColumn_49 : decode cX4_clearColumn 49 = .ok (.iload 7, 2) := by decide +kernel
theorem dX4_clearColumn_51 : decode cX4_clearColumn 51 = .ok (.laload, 1) := by decide +kernel
theorem dX4_clearColumn_52 : decode cX4_clearColumn 52 = .ok (.lmul, 1) := by decide +kernel
theorem dX4_clearColumn_53 : decode cX4_clearColumn 53 = .ok (.lload 5, 2) := by decide +kernel
theorem dX4_clearColumn_55 : decode cX4_clearColumn 55 = .ok (.aload_n 0, 1) := by decide +kernel
theorem dX4_clearColumn_56 : decode cX4_clearColumn 56 = .ok (.getfield 17, 3) := by decide +kernel
theorem dX4_clearColumn_59 : decode cX4_clearColumn 59 = .ok (.iload_n 2, 1) := by decide +kernel
theorem dX4_clearColumn_60 : decode cX4_clearColumn 60 = .ok (.aaload, 1) := by decide +kernel
theorem dX4_clearColumn_61 : decode cX4_clearColumn 61 = .ok (.iload 7, 2) := by decide +kernel
theorem dX4_clearColumn_63 : decode cX4_clearColumn 63 = .ok (.laload, 1) := by decide +kernel
theorem dX4_clearColumn_64 : decode cX4_clearColumn 64 = .ok (.lmul, 1) := by decide +kernel
theorem dX4_clearColumn_65 : decode cX4_clearColumn 65 = .ok (.lsub, 1) := by decide +kernel
theorem dX4_clearColumn_66 : decode cX4_clearColumn 66 = .ok (.aload_n 0, 1) := by decide +kernel
theorem dX4_clearColumn_67 : decode cX4_clearColumn 67 = .ok (.getfield 26, 3) := by decide +kernel
theorem dX4_clearColumn_70 : decode cX4_clearColumn 70 = .ok (.ldiv, 1) := by decide +kernel
theorem dX4_clearColumn_71 : decode cX4_clearColumn 71 = .ok (.lastore, 1) := by decide +kernel
theorem dX4_clearColumn_72 : decode cX4_clearColumn 72 = .ok (.iinc 7 1, 3) := by decide +kernel
theorem dX4_clearColumn_75 : decode cX4_clearColumn 75 = .ok (.goto (-52), 3) := by decide +kernel
theorem dX4_clearColumn_78 : decode cX4_clearColumn 78 = .ok (.return_, 1) := by decide +kernel
theorem dX4_above_0 : decode cX4_above 0 = .ok (.aload_n 1, 1) := by decide +kernel
theorem dX4_above_1 : decode cX4_above 1 = .ok (.iload_n 2, 1) := by decide +kernel
theorem dX4_above_2 : decode cX4_above 2 = .ok (.invokevirtual 59, 3) := by decide +kernel
theorem dX4_above_5 : decode cX4_above 5 = .ok (.ifCond .eq 22, 3) := by decide +kernel
theorem dX4_above_8 : decode cX4_above 8 = .ok (.aload_n 0, 1) := by decide +kernel
theorem dX4_above_9 : decode cX4_above 9 = .ok (.getfield 17, 3) := by decide +kernel
theorem dX4_above_12 : decode cX4_above 12 = .ok (.aload_n 0, 1) := by decide +kernel
theorem dX4_above_13 : decode cX4_above 13 = .ok (.getfield 9, 3) := by decide +kernel
theorem dX4_above_16 : decode cX4_above 16 = .ok (.iload_n 2, 1) := by decide +kernel
theorem dX4_above_17 : decode cX4_above 17 = .ok (.iaload, 1) := by decide +kernel
theorem dX4_above_18 : decode cX4_above 18 = .ok (.aaload, 1) := by decide +kernel
theorem dX4_above_19 : decode cX4_above 19 = .ok (.aload_n 0, 1) := by decide +kernel
theorem dX4_above_20 : decode cX4_above 20 = .ok (.getfield 52, 3) := by decide +kernel
theorem dX4_above_23 : decode cX4_above 23 = .ok (.iload_n 3, 1) := by decide +kernel
theorem dX4_above_24 : decode cX4_above 24 = .ok (.iadd, 1) := by decide +kernel
theorem dX4_above_25 : decode cX4_above 25 = .ok (.laload, 1) := by decide +kernel
theorem dX4_above_26 : decode cX4_above 26 = .ok (.lreturn, 1) := by decide +kernel
theorem dX4_above_27 : decode cX4_above 27 = .ok (.aload_n 1, 1) := by decide +kernel
theorem dX4_above_28 : decode cX4_above 28 = .ok (.getfield 89, 3) := by decide +kernel
theorem dX4_above_31 : decode cX4_above 31 = .ok (.iload_n 2, 1) := by decide +kernel
theorem dX4_above_32 : decode cX4_above 32 = .ok (.iconst 3, 1) := by decide +kernel
theorem dX4_above_33 : decode cX4_above 33 = .ok (.imul, 1) := by decide +kernel
theorem dX4_above_34 : decode cX4_above 34 = .ok (.iload_n 3, 1) := by decide +kernel
theorem dX4_above_35 : decode cX4_above 35 = .ok (.iadd, 1) := by decide +kernel
theorem dX4_above_36 : decode cX4_above 36 = .ok (.iaload, 1) := by decide +kernel
theorem dX4_above_37 : decode cX4_above 37 = .ok (.i2l, 1) := by decide +kernel
theorem dX4_above_38 : decode cX4_above 38 = .ok (.aload_n 0, 1) := by decide +kernel
theorem dX4_above_39 : decode cX4_above 39 = .ok (.getfield 26, 3) := by decide +kernel
theorem dX4_above_42 : decode cX4_above 42 = .ok (.lmul, 1) := by decide +kernel
theorem dX4_above_43 : decode cX4_above 43 = .ok (.lreturn, 1) := by decide +kernel
theorem dX4_tellHundredths_0 : decode cX4_tellHundredths 0 = .ok (.aload_n 0, 1) := by decide +kernel
theorem dX4_tellHundredths_1 : decode cX4_tellHundredths 1 = .ok (.getfield 26, 3) := by decide +kernel
theorem dX4_tellHundredths_4 : decode cX4_tellHundredths 4 = .ok (.lconst 0, 1) := by decide +kernel
theorem dX4_tellHundredths_5 : decode cX4_tellHundredths 5 = .ok (.lcmp, 1) := by decide +kernel
theorem dX4_tellHundredths_6 : decode cX4_tellHundredths 6 = .ok (.ifCond .gt 4, 3) := by decide +kernel
theorem dX4_tellHundredths_9 : decode cX4_tellHundredths 9 = .ok (.return_, 1) := by decide +kernel
theorem dX4_tellHundredths_10 : decode cX4_tellHundredths 10 = .ok (.iconst 0, 1) := by decide +kernel
theorem dX4_tellHundredths_11 : decode cX4_tellHundredths 11 = .ok (.istore_n 2, 1) := by decide +kernel
theorem dX4_tellHundredths_12 : decode cX4_tellHundredths 12 = .ok (.iload_n 2, 1) := by decide +kernel
theorem dX4_tellHundredths_13 : decode cX4_tellHundredths 13 = .ok (.aload_n 1, 1) := by decide +kernel
theorem dX4_tellHundredths_14 : decode cX4_tellHundredths 14 = .ok (.getfield 56, 3) := by decide +kernel
theorem dX4_tellHundredths_17 : decode cX4_tellHundredths 17 = .ok (.if_icmp .ge 51, 3) := by decide +kernel
theorem dX4_tellHundredths_20 : decode cX4_tellHundredths 20 = .ok (.iconst 0, 1) := by decide +kernel
theorem dX4_tellHundredths_21 : decode cX4_tellHundredths 21 = .ok (.istore_n 3, 1) := by decide +kernel
theorem dX4_tellHundredths_22 : decode cX4_tellHundredths 22 = .ok (.iload_n 3, 1) := by decide +kernel
theorem dX4_tellHundredths_23 : decode cX4_tellHundredths 23 = .ok (.iconst 3, 1) := by decide +kernel
theorem dX4_tellHundredths_24 : decode cX4_tellHundredths 24 = .ok (.if_icmp .ge 38, 3) := by decide +kernel
theorem dX4_tellHundredths_27 : decode cX4_tellHundredths 27 = .ok (.aload_n 0, 1) := by decide +kernel
theorem dX4_tellHundredths_28 : decode cX4_tellHundredths 28 = .ok (.getfield 20, 3) := by decide +kernel
theorem dX4_tellHundredths_31 : decode cX4_tellHundredths 31 = .ok (.iload_n 2, 1) := by decide +kernel
theorem dX4_tellHundredths_32 : decode cX4_tellHundredths 32 = .ok (.iconst 3, 1) := by decide +kernel
theorem dX4_tellHundredths_33 : decode cX4_tellHundredths 33 = .ok (.imul, 1) := by decide +kernel
theorem dX4_tellHundredths_34 : decode cX4_tellHundredths 34 = .ok (.iload_n 3, 1) := by decide +kernel
theorem dX4_tellHundredths_35 : decode cX4_tellHundredths 35 = .ok (.iadd, 1) := by decide +kernel
theorem dX4_tellHundredths_36 : decode cX4_tellHundredths 36 = .ok (.ldc2_w 96, 3) := by decide +kernel
theorem dX4_tellHundredths_39 : decode cX4_tellHundredths 39 = .ok (.aload_n 0, 1) := by decide +kernel
theorem dX4_tellHundredths_40 : decode cX4_tellHundredths 40 = .ok (.aload_n 1, 1) := by decide +kernel
theorem dX4_tellHundredths_41 : decode cX4_tellHundredths 41 = .ok (.iload_n 2, 1) := by decide +kernel
theorem dX4_tellHundredths_42 : decode cX4_tellHundredths 42 = .ok (.iload_n 3, 1) := by decide +kernel
theorem dX4_tellHundredths_43 : decode cX4_tellHundredths 43 = .ok (.invokevirtual 98, 3) := by decide +kernel
theorem dX4_tellHundredths_46 : decode cX4_tellHundredths 46 = .ok (.lmul, 1) := by decide +kernel
theorem dX4_tellHundredths_47 : decode cX4_tellHundredths 47 = .ok (.aload_n 0, 1) := by decide +kernel
theorem dX4_tellHundredths_48 : decode cX4_tellHundredths 48 = .ok (.getfield 26, 3) := by decide +kernel
theorem dX4_tellHundredths_51 : decode cX4_tellHundredths 51 = .ok (.invokestatic 102, 3) := by decide +kernel
theorem dX4_tellHundredths_54 : decode cX4_tellHundredths 54 = .ok (.l2i, 1) := by decide +kernel
theorem dX4_tellHundredths_55 : decode cX4_tellHundredths 55 = .ok (.iastore, 1) := by decide +kernel
theorem dX4_tellHundredths_56 : decode cX4_tellHundredths 56 = .ok (.iinc 3 1, 3) := by decide +kernel
theorem dX4_tellHundredths_59 : decode cX4_tellHundredths 59 = .ok (.goto (-37), 3) := by decide +kernel
theorem dX4_tellHundredths_62 : decode cX4_tellHundredths 62 = .ok (.iinc 2 1, 3) := by decide +kernel
theorem dX4_tellHundredths_65 : decode cX4_tellHundredths 65 = .ok (.goto (-53), 3) := by decide +kernel
theorem dX4_tellHundredths_68 : decode cX4_tellHundredths 68 = .ok (.return_, 1) := by decide +kernel
theorem dX4_tellLengths_0 : decode cX4_tellLengths 0 = .ok (.iconst 0, 1) := by decide +kernel
theorem dX4_tellLengths_1 : decode cX4_tellLengths 1 = .ok (.istore_n 2, 1) := by decide +kernel
theorem dX4_tellLengths_2 : decode cX4_tellLengths 2 = .ok (.iload_n 2, 1) := by decide +kernel
theorem dX4_tellLengths_3 : decode cX4_tellLengths 3 = .ok (.aload_n 1, 1) := by decide +kernel
theorem dX4_tellLengths_4 : decode cX4_tellLengths 4 = .ok (.getfield 66, 3) := by decide +kernel
theorem dX4_tellLengths_7 : decode cX4_tellLengths 7 = .ok (.if_icmp .ge 65, 3) := by decide +kernel
theorem dX4_tellLengths_10 : decode cX4_tellLengths 10 = .ok (.lconst 0, 1) := by decide +kernel
theorem dX4_tellLengths_11 : decode cX4_tellLengths 11 = .ok (.lstore_n 3, 1) := by decide +kernel
theorem dX4_tellLengths_12 : decode cX4_tellLengths 12 = .ok (.iconst 0, 1) := by decide +kernel
theorem dX4_tellLengths_13 : decode cX4_tellLengths 13 = .ok (.istore 5, 2) := by decide +kernel
theorem dX4_tellLengths_15 : decode cX4_tellLengths 15 = .ok (.iload 5, 2) := by decide +kernel
theorem dX4_tellLengths_17 : decode cX4_tellLengths 17 = .ok (.iconst 3, 1) := by decide +kernel
theorem dX4_tellLengths_18 : decode cX4_tellLengths 18 = .ok (.if_icmp .ge 38, 3) := by decide +kernel
theorem dX4_tellLengths_21 : decode cX4_tellLengths 21 = .ok (.aload_n 0, 1) := by decide +kernel
theorem dX4_tellLengths_22 : decode cX4_tellLengths 22 = .ok (.aload_n 1, 1) := by decide +kernel
theorem dX4_tellLengths_23 : decode cX4_tellLengths 23 = .ok (.getfield 72, 3) := by decide +kernel
theorem dX4_tellLengths_26 : decode cX4_tellLengths 26 = .ok (.iload_n 2, 1) := by decide +kernel
theorem dX4_tellLengths_27 : decode cX4_tellLengths 27 = .ok (.iaload, 1) := by decide +kernel
theorem dX4_tellLengths_28 : decode cX4_tellLengths 28 = .ok (.aload_n 1, 1) := by decide +kernel
theorem dX4_tellLengths_29 : decode cX4_tellLengths 29 = .ok (.getfield 79, 3) := by decide +kernel
theorem dX4_tellLengths_32 : decode cX4_tellLengths 32 = .ok (.iload_n 2, 1) := by decide +kernel
theorem dX4_tellLengths_33 : decode cX4_tellLengths 33 = .ok (.iaload, 1) := by decide +kernel
theorem dX4_tellLengths_34 : decode cX4_tellLengths 34 = .ok (.iload 5, 2) := by decide +kernel
theorem dX4_tellLengths_36 : decode cX4_tellLengths 36 = .ok (.invokevirtual 108, 3) := by decide +kernel
theorem dX4_tellLengths_39 : decode cX4_tellLengths 39 = .ok (.i2l, 1) := by decide +kernel
theorem dX4_tellLengths_40 : decode cX4_tellLengths 40 = .ok (.lstore 6, 2) := by decide +kernel
theorem dX4_tellLengths_42 : decode cX4_tellLengths 42 = .ok (.lload_n 3, 1) := by decide +kernel
theorem dX4_tellLengths_43 : decode cX4_tellLengths 43 = .ok (.lload 6, 2) := by decide +kernel
theorem dX4_tellLengths_45 : decode cX4_tellLengths 45 = .ok (.lload 6, 2) := by decide +kernel
theorem dX4_tellLengths_47 : decode cX4_tellLengths 47 = .ok (.lmul, 1) := by decide +kernel
theorem dX4_tellLengths_48 : decode cX4_tellLengths 48 = .ok (.ladd, 1) := by decide +kernel
theorem dX4_tellLengths_49 : decode cX4_tellLengths 49 = .ok (.lstore_n 3, 1) := by decide +kernel
theorem dX4_tellLengths_50 : decode cX4_tellLengths 50 = .ok (.iinc 5 1, 3) := by decide +kernel
theorem dX4_tellLengths_53 : decode cX4_tellLengths 53 = .ok (.goto (-38), 3) := by decide +kernel
theorem dX4_tellLengths_56 : decode cX4_tellLengths 56 = .ok (.aload_n 0, 1) := by decide +kernel
theorem dX4_tellLengths_57 : decode cX4_tellLengths 57 = .ok (.getfield 23, 3) := by decide +kernel
theorem dX4_tellLengths_60 : decode cX4_tellLengths 60 = .ok (.iload_n 2, 1) := by decide +kernel
theorem dX4_tellLengths_61 : decode cX4_tellLengths 61 = .ok (.lload_n 3, 1) := by decide +kernel
theorem dX4_tellLengths_62 : decode cX4_tellLengths 62 = .ok (.invokestatic 112, 3) := by decide +kernel
theorem dX4_tellLengths_65 : decode cX4_tellLengths 65 = .ok (.iastore, 1) := by decide +kernel
theorem dX4_tellLengths_66 : decode cX4_tellLengths 66 = .ok (.iinc 2 1, 3) := by decide +kernel
theorem dX4_tellLengths_69 : decode cX4_tellLengths 69 = .ok (.goto (-67), 3) := by decide +kernel
theorem dX4_tellLengths_72 : decode cX4_tellLengths 72 = .ok (.return_, 1) := by decide +kernel
theorem dX4_wayFrom_0 : decode cX4_wayFrom 0 = .ok (.aload_n 0, 1) := by decide +kernel
theorem dX4_wayFrom_1 : decode cX4_wayFrom 1 = .ok (.getfield 20, 3) := by decide +kernel
theorem dX4_wayFrom_4 : decode cX4_wayFrom 4 = .ok (.iload_n 2, 1) := by decide +kernel
theorem dX4_wayFrom_5 : decode cX4_wayFrom 5 = .ok (.iconst 3, 1) := by decide +kernel
theorem dX4_wayFrom_6 : decode cX4_wayFrom 6 = .ok (.imul, 1) := by decide +kernel
theorem dX4_wayFrom_7 : decode cX4_wayFrom 7 = .ok (.iload_n 3, 1) := by decide +kernel
theorem dX4_wayFrom_8 : decode cX4_wayFrom 8 = .ok (.iadd, 1) := by decide +kernel
theorem dX4_wayFrom_9 : decode cX4_wayFrom 9 = .ok (.iaload, 1) := by decide +kernel
theorem dX4_wayFrom_10 : decode cX4_wayFrom 10 = .ok (.aload_n 0, 1) := by decide +kernel
theorem dX4_wayFrom_11 : decode cX4_wayFrom 11 = .ok (.getfield 20, 3) := by decide +kernel
theorem dX4_wayFrom_14 : decode cX4_wayFrom 14 = .ok (.iload_n 1, 1) := by decide +kernel
theorem dX4_wayFrom_15 : decode cX4_wayFrom 15 = .ok (.iconst 3, 1) := by decide +kernel
theorem dX4_wayFrom_16 : decode cX4_wayFrom 16 = .ok (.imul, 1) := by decide +kernel
theorem dX4_wayFrom_17 : decode cX4_wayFrom 17 = .ok (.iload_n 3, 1) := by decide +kernel
theorem dX4_wayFrom_18 : decode cX4_wayFrom 18 = .ok (.iadd, 1) := by decide +kernel
theorem dX4_wayFrom_19 : decode cX4_wayFrom 19 = .ok (.iaload, 1) := by decide +kernel
theorem dX4_wayFrom_20 : decode cX4_wayFrom 20 = .ok (.isub, 1) := by decide +kernel
theorem dX4_wayFrom_21 : decode cX4_wayFrom 21 = .ok (.ireturn, 1) := by decide +kernel
theorem dX4_wholeRoot_0 : decode cX4_wholeRoot 0 = .ok (.iconst 0, 1) := by decide +kernel
theorem dX4_wholeRoot_1 : decode cX4_wholeRoot 1 = .ok (.istore_n 2, 1) := by decide +kernel
theorem dX4_wholeRoot_2 : decode cX4_wholeRoot 2 = .ok (.bipush 16, 2) := by decide +kernel
theorem dX4_wholeRoot_4 : decode cX4_wholeRoot 4 = .ok (.istore_n 3, 1) := by decide +kernel
theorem dX4_wholeRoot_5 : decode cX4_wholeRoot 5 = .ok (.iload_n 3, 1) := by decide +kernel
theorem dX4_wholeRoot_6 : decode cX4_wholeRoot 6 = .ok (.ifCond .lt 31, 3) := by decide +kernel
theorem dX4_wholeRoot_9 : decode cX4_wholeRoot 9 = .ok (.iload_n 2, 1) := by decide +kernel
theorem dX4_wholeRoot_10 : decode cX4_wholeRoot 10 = .ok (.iconst 1, 1) := by decide +kernel
theorem dX4_wholeRoot_11 : decode cX4_wholeRoot 11 = .ok (.iload_n 3, 1) := by decide +kernel
theorem dX4_wholeRoot_12 : decode cX4_wholeRoot 12 = .ok (.ishl, 1) := by decide +kernel
theorem dX4_wholeRoot_13 : decode cX4_wholeRoot 13 = .ok (.ior, 1) := by decide +kernel
theorem dX4_wholeRoot_14 : decode cX4_wholeRoot 14 = .ok (.i2l, 1) := by decide +kernel
theorem dX4_wholeRoot_15 : decode cX4_wholeRoot 15 = .ok (.lstore 4, 2) := by decide +kernel
theorem dX4_wholeRoot_17 : decode cX4_wholeRoot 17 = .ok (.lload 4, 2) := by decide +kernel
theorem dX4_wholeRoot_19 : decode cX4_wholeRoot 19 = .ok (.lload 4, 2) := by decide +kernel
theorem dX4_wholeRoot_21 : decode cX4_wholeRoot 21 = .ok (.lmul, 1) := by decide +kernel
theorem dX4_wholeRoot_22 : decode cX4_wholeRoot 22 = .ok (.lload_n 0, 1) := by decide +kernel
theorem dX4_wholeRoot_23 : decode cX4_wholeRoot 23 = .ok (.lcmp, 1) := by decide +kernel
theorem dX4_wholeRoot_24 : decode cX4_wholeRoot 24 = .ok (.ifCond .gt 7, 3) := by decide +kernel
theorem dX4_wholeRoot_27 : decode cX4_wholeRoot 27 = .ok (.lload 4, 2) := by decide +kernel
theorem dX4_wholeRoot_29 : decode cX4_wholeRoot 29 = .ok (.l2i, 1) := by decide +kernel
theorem dX4_wholeRoot_30 : decode cX4_wholeRoot 30 = .ok (.istore_n 2, 1) := by decide +kernel
theorem dX4_wholeRoot_31 : decode cX4_wholeRoot 31 = .ok (.iinc 3 (-1), 3) := by decide +kernel
theorem dX4_wholeRoot_34 : decode cX4_wholeRoot 34 = .ok (.goto (-29), 3) := by decide +kernel
theorem dX4_wholeRoot_37 : decode cX4_wholeRoot 37 = .ok (.iload_n 2, 1) := by decide +kernel
theorem dX4_wholeRoot_38 : decode cX4_wholeRoot 38 = .ok (.ireturn, 1) := by decide +kernel
theorem dX4_isWithinOthers_0 : decode cX4_isWithinOthers 0 = .ok (.aload_n 1, 1) := by decide +kernel
theorem dX4_isWithinOthers_1 : decode cX4_isWithinOthers 1 = .ok (.iload_n 2, 1) := by decide +kernel
theorem dX4_isWithinOthers_2 : decode cX4_isWithinOthers 2 = .ok (.invokevirtual 59, 3) := by decide +kernel
theorem dX4_isWithinOthers_5 : decode cX4_isWithinOthers 5 = .ok (.ifCond .ne 5, 3) := by decide +kernel
theorem dX4_isWithinOthers_8 : decode cX4_isWithinOthers 8 = .ok (.iconst 1, 1) := by decide +kernel
theorem dX4_isWithinOthers_9 : decode cX4_isWithinOthers 9 = .ok (.ireturn, 1) := by decide +kernel
theorem dX4_isWithinOthers_10 : decode cX4_isWithinOthers 10 = .ok (.iconst 0, 1) := by decide +kernel
theorem dX4_isWithinOthers_11 : decode cX4_isWithinOthers 11 = .ok (.istore_n 3, 1) := by decide +kernel
theorem dX4_isWithinOthers_12 : decode cX4_isWithinOthers 12 = .ok (.iload_n 3, 1) := by decide +kernel
theorem dX4_isWithinOthers_13 : decode cX4_isWithinOthers 13 = .ok (.iconst 3, 1) := by decide +kernel
theorem dX4_isWithinOthers_14 : decode cX4_isWithinOthers 14 = .ok (.if_icmp .ge 21, 3) := by decide +kernel
theorem dX4_isWithinOthers_17 : decode cX4_isWithinOthers 17 = .ok (.aload_n 0, 1) := by decide +kernel
theorem dX4_isWithinOthers_18 : decode cX4_isWithinOthers 18 = .ok (.aload_n 1, 1) := by decide +kernel
theorem dX4_isWithinOthers_19 : decode cX4_isWithinOthers 19 = .ok (.iload_n 2, 1) := by decide +kernel
theorem dX4_isWithinOthers_20 : decode cX4_isWithinOthers 20 = .ok (.iload_n 3, 1) := by decide +kernel
theorem dX4_isWithinOthers_21 : decode cX4_isWithinOthers 21 = .ok (.invokevirtual 116, 3) := by decide +kernel
theorem dX4_isWithinOthers_24 : decode cX4_isWithinOthers 24 = .ok (.ifCond .ne 5, 3) := by decide +kernel
theorem dX4_isWithinOthers_27 : decode cX4_isWithinOthers 27 = .ok (.iconst 0, 1) := by decide +kernel
theorem dX4_isWithinOthers_28 : decode cX4_isWithinOthers 28 = .ok (.ireturn, 1) := by decide +kernel
theorem dX4_isWithinOthers_29 : decode cX4_isWithinOthers 29 = .ok (.iinc 3 1, 3) := by decide +kernel
theorem dX4_isWithinOthers_32 : decode cX4_isWithinOthers 32 = .ok (.goto (-20), 3) := by decide +kernel
theorem dX4_isWithinOthers_35 : decode cX4_isWithinOthers 35 = .ok (.iconst 1, 1) := by decide +kernel
theorem dX4_isWithinOthers_36 : decode cX4_isWithinOthers 36 = .ok (.ireturn, 1) := by decide +kernel
theorem dX4_isBetweenOthers_0 : decode cX4_isBetweenOthers 0 = .ok (.aload_n 0, 1) := by decide +kernel
theorem dX4_isBetweenOthers_1 : decode cX4_isBetweenOthers 1 = .ok (.aload_n 1, 1) := by decide +kernel
theorem dX4_isBetweenOthers_2 : decode cX4_isBetweenOthers 2 = .ok (.iload_n 2, 1) := by decide +kernel
theorem dX4_isBetweenOthers_3 : decode cX4_isBetweenOthers 3 = .ok (.iload_n 3, 1) := by decide +kernel
theorem dX4_isBetweenOthers_4 : decode cX4_isBetweenOthers 4 = .ok (.invokevirtual 98, 3) := by decide +kernel
theorem dX4_isBetweenOthers_7 : decode cX4_isBetweenOthers 7 = .ok (.lstore 4, 2) := by decide +kernel
theorem dX4_isBetweenOthers_9 : decode cX4_isBetweenOthers 9 = .ok (.aload_n 1, 1) := by decide +kernel
theorem dX4_isBetweenOthers_10 : decode cX4_isBetweenOthers 10 = .ok (.iload_n 2, 1) := by decide +kernel
theorem dX4_isBetweenOthers_11 : decode cX4_isBetweenOthers 11 = .ok (.invokevirtual 120, 3) := by decide +kernel
theorem dX4_isBetweenOthers_14 : decode cX4_isBetweenOthers 14 = .ok (.aload_n 1, 1) := by decide +kernel
theorem dX4_isBetweenOthers_15 : decode cX4_isBetweenOthers 15 = .ok (.getfield 124, 3) := by decide +kernel
theorem dX4_isBetweenOthers_18 : decode cX4_isBetweenOthers 18 = .ok (.iand, 1) := by decide +kernel
theorem dX4_isBetweenOthers_19 : decode cX4_isBetweenOthers 19 = .ok (.istore 6, 2) := by decide +kernel
theorem dX4_isBetweenOthers_21 : decode cX4_isBetweenOthers 21 = .ok (.iconst 0, 1) := by decide +kernel
theorem dX4_isBetweenOthers_22 : decode cX4_isBetweenOthers 22 = .ok (.istore 7, 2) := by decide +kernel
theorem dX4_isBetweenOthers_24 : decode cX4_isBetweenOthers 24 = .ok (.iconst 0, 1) := by decide +kernel
theorem dX4_isBetweenOthers_25 : decode cX4_isBetweenOthers 25 = .ok (.istore 8, 2) := by decide +kernel
theorem dX4_isBetweenOthers_27 : decode cX4_isBetweenOthers 27 = .ok (.iconst 0, 1) := by decide +kernel
theorem dX4_isBetweenOthers_28 : decode cX4_isBetweenOthers 28 = .ok (.istore 9, 2) := by decide +kernel
theorem dX4_isBetweenOthers_30 : decode cX4_isBetweenOthers 30 = .ok (.iload 9, 2) := by decide +kernel
theorem dX4_isBetweenOthers_32 : decode cX4_isBetweenOthers 32 = .ok (.aload_n 1, 1) := by decide +kernel
theorem dX4_isBetweenOthers_33 : decode cX4_isBetweenOthers 33 = .ok (.getfield 66, 3) := by decide +kernel
theorem dX4_isBetweenOthers_36 : decode cX4_isBetweenOthers 36 = .ok (.if_icmp .ge 75, 3) := by decide +kernel
theorem dX4_isBetweenOthers_39 : decode cX4_isBetweenOthers 39 = .ok (.iload 6, 2) := by decide +kernel
theorem dX4_isBetweenOthers_41 : decode cX4_isBetweenOthers 41 = .ok (.iload 9, 2) := by decide +kernel
theorem dX4_isBetweenOthers_43 : decode cX4_isBetweenOthers 43 = .ok (.ishr, 1) := by decide +kernel
theorem dX4_isBetweenOthers_44 : decode cX4_isBetweenOthers 44 = .ok (.iconst 1, 1) := by decide +kernel
theorem dX4_isBetweenOthers_45 : decode cX4_isBetweenOthers 45 = .ok (.iand, 1) := by decide +kernel
theorem dX4_isBetweenOthers_46 : decode cX4_isBetweenOthers 46 = .ok (.iconst 1, 1) := by decide +kernel
theorem dX4_isBetweenOthers_47 : decode cX4_isBetweenOthers 47 = .ok (.if_icmp .ne 58, 3) := by decide +kernel
theorem dX4_isBetweenOthers_50 : decode cX4_isBetweenOthers 50 = .ok (.aload_n 0, 1) := by decide +kernel
theorem dX4_isBetweenOthers_51 : decode cX4_isBetweenOthers 51 = .ok (.aload_n 1, 1) := by decide +kernel
theorem dX4_isBetweenOthers_52 : decode cX4_isBetweenOthers 52 = .ok (.aload_n 1, 1) := by decide +kernel
theorem dX4_isBetweenOthers_53 : decode cX4_isBetweenOthers 53 = .ok (.iload 9, 2) := by decide +kernel
theorem dX4_isBetweenOthers_55 : decode cX4_isBetweenOthers 55 = .ok (.iload_n 2, 1) := by decide +kernel
theorem dX4_isBetweenOthers_56 : decode cX4_isBetweenOthers 56 = .ok (.invokevirtual 82, 3) := by decide +kernel
theorem dX4_isBetweenOthers_59 : decode cX4_isBetweenOthers 59 = .ok (.iload_n 3, 1) := by decide +kernel
theorem dX4_isBetweenOthers_60 : decode cX4_isBetweenOthers 60 = .ok (.invokevirtual 98, 3) := by decide +kernel
theorem dX4_isBetweenOthers_63 : decode cX4_isBetweenOthers 63 = .ok (.lstore 10, 2) := by decide +kernel
theorem dX4_isBetweenOthers_65 : decode cX4_isBetweenOthers 65 = .ok (.iload 7, 2) := by decide +kernel
theorem dX4_isBetweenOthers_67 : decode cX4_isBetweenOthers 67 = .ok (.ifCond .ne 11, 3) := by decide +kernel
theorem dX4_isBetweenOthers_70 : decode cX4_isBetweenOthers 70 = .ok (.lload 10, 2) := by decide +kernel
theorem dX4_isBetweenOthers_72 : decode cX4_isBetweenOthers 72 = .ok (.lload 4, 2) := by decide +kernel
theorem dX4_isBetweenOthers_74 : decode cX4_isBetweenOthers 74 = .ok (.lcmp, 1) := by decide +kernel
theorem dX4_isBetweenOthers_75 : decode cX4_isBetweenOthers 75 = .ok (.ifCond .gt 7, 3) := by decide +kernel
theorem dX4_isBetweenOthers_78 : decode cX4_isBetweenOthers 78 = .ok (.iconst 1, 1) := by decide +kernel
theorem dX4_isBetweenOthers_79 : decode cX4_isBetweenOthers 79 = .ok (.goto 4, 3) := by decide +kernel
theorem dX4_isBetweenOthers_82 : decode cX4_isBetweenOthers 82 = .ok (.iconst 0, 1) := by decide +kernel
theorem dX4_isBetweenOthers_83 : decode cX4_isBetweenOthers 83 = .ok (.istore 7, 2) := by decide +kernel
theorem dX4_isBetweenOthers_85 : decode cX4_isBetweenOthers 85 = .ok (.iload 8, 2) := by decide +kernel
theorem dX4_isBetweenOthers_87 : decode cX4_isBetweenOthers 87 = .ok (.ifCond .ne 11, 3) := by decide +kernel
theorem dX4_isBetweenOthers_90 : decode cX4_isBetweenOthers 90 = .ok (.lload 10, 2) := by decide +kernel
theorem dX4_isBetweenOthers_92 : decode cX4_isBetweenOthers 92 = .ok (.lload 4, 2) := by decide +kernel
theorem dX4_isBetweenOthers_94 : decode cX4_isBetweenOthers 94 = .ok (.lcmp, 1) := by decide +kernel
theorem dX4_isBetweenOthers_95 : decode cX4_isBetweenOthers 95 = .ok (.ifCond .lt 7, 3) := by decide +kernel
theorem dX4_isBetweenOthers_98 : decode cX4_isBetweenOthers 98 = .ok (.iconst 1, 1) := by decide +kernel
theorem dX4_isBetweenOthers_99 : decode cX4_isBetweenOthers 99 = .ok (.goto 4, 3) := by decide +kernel
theorem dX4_isBetweenOthers_102 : decode cX4_isBetweenOthers 102 = .ok (.iconst 0, 1) := by decide +kernel
theorem dX4_isBetweenOthers_103 : decode cX4_isBetweenOthers 103 = .ok (.istore 8, 2) := by decide +kernel
theorem dX4_isBetweenOthers_105 : decode cX4_isBetweenOthers 105 = .ok (.iinc 9 1, 3) := by decide +kernel
theorem dX4_isBetweenOthers_108 : decode cX4_isBetweenOthers 108 = .ok (.goto (-78), 3) := by decide +kernel
theorem dX4_isBetweenOthers_111 : decode cX4_isBetweenOthers 111 = .ok (.iload 7, 2) := by decide +kernel
theorem dX4_isBetweenOthers_113 : decode cX4_isBetweenOthers 113 = .ok (.ifCond .eq 12, 3) := by decide +kernel
theorem dX4_isBetweenOthers_116 : decode cX4_isBetweenOthers 116 = .ok (.iload 8, 2) := by decide +kernel
theorem dX4_isBetweenOthers_118 : decode cX4_isBetweenOthers 118 = .ok (.ifCond .eq 7, 3) := by decide +kernel
theorem dX4_isBetweenOthers_121 : decode cX4_isBetweenOthers 121 = .ok (.iconst 1, 1) := by decide +kernel
theorem dX4_isBetweenOthers_122 : decode cX4_isBetweenOthers 122 = .ok (.goto 4, 3) := by decide +kernel
theorem dX4_isBetweenOthers_125 : decode cX4_isBetweenOthers 125 = .ok (.iconst 0, 1) := by decide +kernel
theorem dX4_isBetweenOthers_126 : decode cX4_isBetweenOthers 126 = .ok (.ireturn, 1) := by decide +kernel
theorem dX4_borne_0 : decode cX4_borne 0 = .ok (.aload_n 1, 1) := by decide +kernel
theorem dX4_borne_1 : decode cX4_borne 1 = .ok (.iload_n 2, 1) := by decide +kernel
theorem dX4_borne_2 : decode cX4_borne 2 = .ok (.invokevirtual 120, 3) := by decide +kernel
theorem dX4_borne_5 : decode cX4_borne 5 = .ok (.aload_n 1, 1) := by decide +kernel
theorem dX4_borne_6 : decode cX4_borne 6 = .ok (.getfield 124, 3) := by decide +kernel
theorem dX4_borne_9 : decode cX4_borne 9 = .ok (.iand, 1) := by decide +kernel
theorem dX4_borne_10 : decode cX4_borne 10 = .ok (.istore 4, 2) := by decide +kernel
theorem dX4_borne_12 : decode cX4_borne 12 = .ok (.iconst 0, 1) := by decide +kernel
theorem dX4_borne_13 : decode cX4_borne 13 = .ok (.istore 5, 2) := by decide +kernel
theorem dX4_borne_15 : decode cX4_borne 15 = .ok (.iconst 0, 1) := by decide +kernel
theorem dX4_borne_16 : decode cX4_borne 16 = .ok (.istore 6, 2) := by decide +kernel
theorem dX4_borne_18 : decode cX4_borne 18 = .ok (.iload 6, 2) := by decide +kernel
theorem dX4_borne_20 : decode cX4_borne 20 = .ok (.aload_n 1, 1) := by decide +kernel
theorem dX4_borne_21 : decode cX4_borne 21 = .ok (.getfield 66, 3) := by decide +kernel
theorem dX4_borne_24 : decode cX4_borne 24 = .ok (.if_icmp .ge 46, 3) := by decide +kernel
theorem dX4_borne_27 : decode cX4_borne 27 = .ok (.iload 4, 2) := by decide +kernel
theorem dX4_borne_29 : decode cX4_borne 29 = .ok (.iload 6, 2) := by decide +kernel
theorem dX4_borne_31 : decode cX4_borne 31 = .ok (.ishr, 1) := by decide +kernel
theorem dX4_borne_32 : decode cX4_borne 32 = .ok (.iconst 1, 1) := by decide +kernel
theorem dX4_borne_33 : decode cX4_borne 33 = .ok (.iand, 1) := by decide +kernel
theorem dX4_borne_34 : decode cX4_borne 34 = .ok (.iconst 1, 1) := by decide +kernel
theorem dX4_borne_35 : decode cX4_borne 35 = .ok (.if_icmp .ne 29, 3) := by decide +kernel
theorem dX4_borne_38 : decode cX4_borne 38 = .ok (.iload 5, 2) := by decide +kernel
theorem dX4_borne_40 : decode cX4_borne 40 = .ok (.aload_n 1, 1) := by decide +kernel
theorem dX4_borne_41 : decode cX4_borne 41 = .ok (.getfield 86, 3) := by decide +kernel
theorem dX4_borne_44 : decode cX4_borne 44 = .ok (.iload 6, 2) := by decide +kernel
theorem dX4_borne_46 : decode cX4_borne 46 = .ok (.iaload, 1) := by decide +kernel
theorem dX4_borne_47 : decode cX4_borne 47 = .ok (.aload_n 0, 1) := by decide +kernel
theorem dX4_borne_48 : decode cX4_borne 48 = .ok (.iload_n 2, 1) := by decide +kernel
theorem dX4_borne_49 : decode cX4_borne 49 = .ok (.aload_n 1, 1) := by decide +kernel
theorem dX4_borne_50 : decode cX4_borne 50 = .ok (.iload 6, 2) := by decide +kernel
theorem dX4_borne_52 : decode cX4_borne 52 = .ok (.iload_n 2, 1) := by decide +kernel
theorem dX4_borne_53 : decode cX4_borne 53 = .ok (.invokevirtual 82, 3) := by decide +kernel
theorem dX4_borne_56 : decode cX4_borne 56 = .ok (.iload_n 3, 1) := by decide +kernel
theorem dX4_borne_57 : decode cX4_borne 57 = .ok (.invokevirtual 108, 3) := by decide +kernel
theorem dX4_borne_60 : decode cX4_borne 60 = .ok (.imul, 1) := by decide +kernel
theorem dX4_borne_61 : decode cX4_borne 61 = .ok (.iadd, 1) := by decide +kernel
theorem dX4_borne_62 : decode cX4_borne 62 = .ok (.istore 5, 2) := by decide +kernel
theorem dX4_borne_64 : decode cX4_borne 64 = .ok (.iinc 6 1, 3) := by decide +kernel
theorem dX4_borne_67 : decode cX4_borne 67 = .ok (.goto (-49), 3) := by decide +kernel
theorem dX4_borne_70 : decode cX4_borne 70 = .ok (.iload 5, 2) := by decide +kernel
theorem dX4_borne_72 : decode cX4_borne 72 = .ok (.ireturn, 1) := by decide +kernel
theorem dX4_pull_0 : decode cX4_pull 0 = .ok (.aload_n 1, 1) := by decide +kernel
theorem dX4_pull_1 : decode cX4_pull 1 = .ok (.getfield 86, 3) := by decide +kernel
theorem dX4_pull_4 : decode cX4_pull 4 = .ok (.iload_n 2, 1) := by decide +kernel
theorem dX4_pull_5 : decode cX4_pull 5 = .ok (.iaload, 1) := by decide +kernel
theorem dX4_pull_6 : decode cX4_pull 6 = .ok (.aload_n 0, 1) := by decide +kernel
theorem dX4_pull_7 : decode cX4_pull 7 = .ok (.getfield 23, 3) := by decide +kernel
theorem dX4_pull_10 : decode cX4_pull 10 = .ok (.iload_n 2, 1) := by decide +kernel
theorem dX4_pull_11 : decode cX4_pull 11 = .ok (.iaload, 1) := by decide +kernel
theorem dX4_pull_12 : decode cX4_pull 12 = .ok (.imul, 1) := by decide +kernel
theorem dX4_pull_13 : decode cX4_pull 13 = .ok (.ireturn, 1) := by decide +kernel
theorem dX4_off_0 : decode cX4_off 0 = .ok (.aload_n 0, 1) := by decide +kernel
theorem dX4_off_1 : decode cX4_off 1 = .ok (.getfield 23, 3) := by decide +kernel
theorem dX4_off_4 : decode cX4_off 4 = .ok (.iload_n 2, 1) := by decide +kernel
theorem dX4_off_5 : decode cX4_off 5 = .ok (.iaload, 1) := by decide +kernel
theorem dX4_off_6 : decode cX4_off 6 = .ok (.bipush 100, 2) := by decide +kernel
theorem dX4_off_8 : decode cX4_off 8 = .ok (.aload_n 1, 1) := by decide +kernel
theorem dX4_off_9 : decode cX4_off 9 = .ok (.getfield 127, 3) := by decide +kernel
theorem dX4_off_12 : decode cX4_off 12 = .ok (.iload_n 2, 1) := by decide +kernel
theorem dX4_off_13 : decode cX4_off 13 = .ok (.iaload, 1) := by decide +kernel
theorem dX4_off_14 : decode cX4_off 14 = .ok (.imul, 1) := by decide +kernel
theorem dX4_off_15 : decode cX4_off 15 = .ok (.isub, 1) := by decide +kernel
theorem dX4_off_16 : decode cX4_off 16 = .ok (.invokestatic 130, 3) := by decide +kernel
theorem dX4_off_19 : decode cX4_off 19 = .ok (.ireturn, 1) := by decide +kernel
theorem dX4_slackStrands_0 : decode cX4_slackStrands 0 = .ok (.iconst 0, 1) := by decide +kernel
theorem dX4_slackStrands_1 : decode cX4_slackStrands 1 = .ok (.istore_n 2, 1) := by decide +kernel
theorem dX4_slackStrands_2 : decode cX4_slackStrands 2 = .ok (.iconst 0, 1) := by decide +kernel
theorem dX4_slackStrands_3 : decode cX4_slackStrands 3 = .ok (.istore_n 3, 1) := by decide +kernel
theorem dX4_slackStrands_4 : decode cX4_slackStrands 4 = .ok (.iload_n 3, 1) := by decide +kernel
theorem dX4_slackStrands_5 : decode cX4_slackStrands 5 = .ok (.aload_n 1, 1) := by decide +kernel
theorem dX4_slackStrands_6 : decode cX4_slackStrands 6 = .ok (.getfield 66, 3) := by decide +kernel
theorem dX4_slackStrands_9 : decode cX4_slackStrands 9 = .ok (.if_icmp .ge 41, 3) := by decide +kernel
theorem dX4_slackStrands_12 : decode cX4_slackStrands 12 = .ok (.aload_n 1, 1) := by decide +kernel
theorem dX4_slackStrands_13 : decode cX4_slackStrands 13 = .ok (.iload_n 3, 1) := by decide +kernel
theorem dX4_slackStrands_14 : decode cX4_slackStrands 14 = .ok (.invokevirtual 69, 3) := by decide +kernel
theorem dX4_slackStrands_17 : decode cX4_slackStrands 17 = .ok (.ifCond .eq 27, 3) := by decide +kernel
theorem dX4_slackStrands_20 : decode cX4_slackStrands 20 = .ok (.aload_n 0, 1) := by decide +kernel
theorem dX4_slackStrands_21 : decode cX4_slackStrands 21 = .ok (.getfield 23, 3) := by decide +kernel
theorem dX4_slackStrands_24 : decode cX4_slackStrands 24 = .ok (.iload_n 3, 1) := by decide +kernel
theorem dX4_slackStrands_25 : decode cX4_slackStrands 25 = .ok (.iaload, 1) := by decide +kernel
theorem dX4_slackStrands_26 : decode cX4_slackStrands 26 = .ok (.bipush 100, 2) := by decide +kernel
theorem dX4_slackStrands_28 : decode cX4_slackStrands 28 = .ok (.aload_n 1, 1) := by decide +kernel
theorem dX4_slackStrands_29 : decode cX4_slackStrands 29 = .ok (.getfield 127, 3) := by decide +kernel
theorem dX4_slackStrands_32 : decode cX4_slackStrands 32 = .ok (.iload_n 3, 1) := by decide +kernel
theorem dX4_slackStrands_33 : decode cX4_slackStrands 33 = .ok (.iaload, 1) := by decide +kernel
theorem dX4_slackStrands_34 : decode cX4_slackStrands 34 = .ok (.imul, 1) := by decide +kernel
theorem dX4_slackStrands_35 : decode cX4_slackStrands 35 = .ok (.if_icmp .ge 9, 3) := by decide +kernel
theorem dX4_slackStrands_38 : decode cX4_slackStrands 38 = .ok (.iload_n 2, 1) := by decide +kernel
theorem dX4_slackStrands_39 : decode cX4_slackStrands 39 = .ok (.iconst 1, 1) := by decide +kernel
theorem dX4_slackStrands_40 : decode cX4_slackStrands 40 = .ok (.iload_n 3, 1) := by decide +kernel
theorem dX4_slackStrands_41 : decode cX4_slackStrands 41 = .ok (.ishl, 1) := by decide +kernel
theorem dX4_slackStrands_42 : decode cX4_slackStrands 42 = .ok (.ior, 1) := by decide +kernel
theorem dX4_slackStrands_43 : decode cX4_slackStrands 43 = .ok (.istore_n 2, 1) := by decide +kernel
theorem dX4_slackStrands_44 : decode cX4_slackStrands 44 = .ok (.iinc 3 1, 3) := by decide +kernel
theorem dX4_slackStrands_47 : decode cX4_slackStrands 47 = .ok (.goto (-43), 3) := by decide +kernel
theorem dX4_slackStrands_50 : decode cX4_slackStrands 50 = .ok (.iload_n 2, 1) := by decide +kernel
theorem dX4_slackStrands_51 : decode cX4_slackStrands 51 = .ok (.ireturn, 1) := by decide +kernel
theorem dX4_missed_0 : decode cX4_missed 0 = .ok (.iconst 0, 1) := by decide +kernel
theorem dX4_missed_1 : decode cX4_missed 1 = .ok (.istore_n 2, 1) := by decide +kernel
theorem dX4_missed_2 : decode cX4_missed 2 = .ok (.iconst 0, 1) := by decide +kernel
theorem dX4_missed_3 : decode cX4_missed 3 = .ok (.istore_n 3, 1) := by decide +kernel
theorem dX4_missed_4 : decode cX4_missed 4 = .ok (.iload_n 3, 1) := by decide +kernel
theorem dX4_missed_5 : decode cX4_missed 5 = .ok (.aload_n 1, 1) := by decide +kernel
theorem dX4_missed_6 : decode cX4_missed 6 = .ok (.getfield 66, 3) := by decide +kernel
theorem dX4_missed_9 : decode cX4_missed 9 = .ok (.if_icmp .ge 35, 3) := by decide +kernel
theorem dX4_missed_12 : decode cX4_missed 12 = .ok (.aload_n 1, 1) := by decide +kernel
theorem dX4_missed_13 : decode cX4_missed 13 = .ok (.iload_n 3, 1) := by decide +kernel
theorem dX4_missed_14 : decode cX4_missed 14 = .ok (.invokevirtual 69, 3) := by decide +kernel
theorem dX4_missed_17 : decode cX4_missed 17 = .ok (.ifCond .eq 21, 3) := by decide +kernel
theorem dX4_missed_20 : decode cX4_missed 20 = .ok (.aload_n 1, 1) := by decide +kernel
theorem dX4_missed_21 : decode cX4_missed 21 = .ok (.getfield 127, 3) := by decide +kernel
theorem dX4_missed_24 : decode cX4_missed 24 = .ok (.iload_n 3, 1) := by decide +kernel
theorem dX4_missed_25 : decode cX4_missed 25 = .ok (.iaload, 1) := by decide +kernel
theorem dX4_missed_26 : decode cX4_missed 26 = .ok (.ifCond .le 12, 3) := by decide +kernel
theorem dX4_missed_29 : decode cX4_missed 29 = .ok (.iload_n 2, 1) := by decide +kernel
theorem dX4_missed_30 : decode cX4_missed 30 = .ok (.aload_n 0, 1) := by decide +kernel
theorem dX4_missed_31 : decode cX4_missed 31 = .ok (.aload_n 1, 1) := by decide +kernel
theorem dX4_missed_32 : decode cX4_missed 32 = .ok (.iload_n 3, 1) := by decide +kernel
theorem dX4_missed_33 : decode cX4_missed 33 = .ok (.invokevirtual 133, 3) := by decide +kernel
theorem dX4_missed_36 : decode cX4_missed 36 = .ok (.iadd, 1) := by decide +kernel
theorem dX4_missed_37 : decode cX4_missed 37 = .ok (.istore_n 2, 1) := by decide +kernel
theorem dX4_missed_38 : decode cX4_missed 38 = .ok (.iinc 3 1, 3) := by decide +kernel
theorem dX4_missed_41 : decode cX4_missed 41 = .ok (.goto (-37), 3) := by decide +kernel
theorem dX4_missed_44 : decode cX4_missed 44 = .ok (.iload_n 2, 1) := by decide +kernel
theorem dX4_missed_45 : decode cX4_missed 45 = .ok (.ireturn, 1) := by decide +kernel
theorem dX7_init_0 : decode cX7_init 0 = .ok (.aload_n 0, 1) := by decide +kernel
theorem dX7_init_1 : decode cX7_init 1 = .ok (.invokespecial 1, 3) := by decide +kernel
theorem dX7_init_4 : decode cX7_init 4 = .ok (.aload_n 0, 1) := by decide +kernel
theorem dX7_init_5 : decode cX7_init 5 = .ok (.new 7, 3) := by decide +kernel
theorem dX7_init_8 : decode cX7_init 8 = .ok (.dup, 1) := by decide +kernel
theorem dX7_init_9 : decode cX7_init 9 = .ok (.invokespecial 9, 3) := by decide +kernel
theorem dX7_init_12 : decode cX7_init 12 = .ok (.putfield 10, 3) := by decide +kernel
theorem dX7_init_15 : decode cX7_init 15 = .ok (.aload_n 0, 1) := by decide +kernel
theorem dX7_init_16 : decode cX7_init 16 = .ok (.new 16, 3) := by decide +kernel
theorem dX7_init_19 : decode cX7_init 19 = .ok (.dup, 1) := by decide +kernel
theorem dX7_init_20 : decode cX7_init 20 = .ok (.invokespecial 18, 3) := by decide +kernel
theorem dX7_init_23 : decode cX7_init 23 = .ok (.putfield 19, 3) := by decide +kernel
theorem dX7_init_26 : decode cX7_init 26 = .ok (.aload_n 0, 1) := by decide +kernel
theorem dX7_init_27 : decode cX7_init 27 = .ok (.new 23, 3) := by decide +kernel
theorem dX7_init_30 : decode cX7_init 30 = .ok (.dup, 1) := by decide +kernel
theorem dX7_init_31 : decode cX7_init 31 = .ok (.invokespecial 25, 3) := by decide +kernel
theorem dX7_init_34 : decode cX7_init 34 = .ok (.putfield 26, 3) := by decide +kernel
theorem dX7_init_37 : decode cX7_init 37 = .ok (.aload_n 0, 1) := by decide +kernel
theorem dX7_init_38 : decode cX7_init 38 = .ok (.new 30, 3) := by decide +kernel
theorem dX7_init_41 : decode cX7_init 41 = .ok (.dup, 1) := by decide +kernel
theorem dX7_init_42 : decode cX7_init 42 = .ok (.invokespecial 32, 3) := by decide +kernel
theorem dX7_init_45 : decode cX7_init 45 = .ok (.putfield 33, 3) := by decide +kernel
theorem dX7_init_48 : decode cX7_init 48 = .ok (.aload_n 0, 1) := by decide +kernel
theorem dX7_init_49 : decode cX7_init 49 = .ok (.new 37, 3) := by decide +kernel
theorem dX7_init_52 : decode cX7_init 52 = .ok (.dup, 1) := by decide +kernel
theorem dX7_init_53 : decode cX7_init 53 = .ok (.invokespecial 39, 3) := by decide +kernel
theorem dX7_init_56 : decode cX7_init 56 = .ok (.putfield 40, 3) := by decide +kernel
theorem dX7_init_59 : decode cX7_init 59 = .ok (.aload_n 0, 1) := by decide +kernel
theorem dX7_init_60 : decode cX7_init 60 = .ok (.new 44, 3) := by decide +kernel
theorem dX7_init_63 : decode cX7_init 63 = .ok (.dup, 1) := by decide +kernel
theorem dX7_init_64 : decode cX7_init 64 = .ok (.invokespecial 46, 3) := by decide +kernel
theorem dX7_init_67 : decode cX7_init 67 = .ok (.putfield 47, 3) := by decide +kernel
theorem dX7_init_70 : decode cX7_init 70 = .ok (.aload_n 0, 1) := by decide +kernel
theorem dX7_init_71 : decode cX7_init 71 = .ok (.new 51, 3) := by decide +kernel
theorem dX7_init_74 : decode cX7_init 74 = .ok (.dup, 1) := by decide +kernel
theorem dX7_init_75 : decode cX7_init 75 = .ok (.invokespecial 53, 3) := by decide +kernel
theorem dX7_init_78 : decode cX7_init 78 = .ok (.putfield 54, 3) := by decide +kernel
theorem dX7_init_81 : decode cX7_init 81 = .ok (.aload_n 0, 1) := by decide +kernel
theorem dX7_init_82 : decode cX7_init 82 = .ok (.new 51, 3) := by decide +kernel
theorem dX7_init_85 : decode cX7_init 85 = .ok (.dup, 1) := by decide +kernel
theorem dX7_init_86 : decode cX7_init 86 = .ok (.invokespecial 53, 3) := by decide +kernel
theorem dX7_init_89 : decode cX7_init 89 = .ok (.putfield 58, 3) := by decide +kernel
theorem dX7_init_92 : decode cX7_init 92 = .ok (.iconst 0, 1) := by decide +kernel
theorem dX7_init_93 : decode cX7_init 93 = .ok (.istore_n 1, 1) := by decide +kernel
theorem dX7_init_94 : decode cX7_init 94 = .ok (.iload_n 1, 1) := by decide +kernel
theorem dX7_init_95 : decode cX7_init 95 = .ok (.ldc 61, 2) := by decide +kernel
theorem dX7_init_97 : decode cX7_init 97 = .ok (.invokevirtual 63, 3) := by decide +kernel
theorem dX7_init_100 : decode cX7_init 100 = .ok (.if_icmp .ge 23, 3) := by decide +kernel
theorem dX7_init_103 : decode cX7_init 103 = .ok (.aload_n 0, 1) := by decide +kernel
theorem dX7_init_104 : decode cX7_init 104 = .ok (.getfield 10, 3) := by decide +kernel
theorem dX7_init_107 : decode cX7_init 107 = .ok (.ldc 61, 2) := by decide +kernel
theorem dX7_init_109 : decode cX7_init 109 = .ok (.iload_n 1, 1) := by decide +kernel
theorem dX7_init_110 : decode cX7_init 110 = .ok (.invokevirtual 69, 3) := by decide +kernel
theorem dX7_init_113 : decode cX7_init 113 = .ok (.invokevirtual 73, 3) := by decide +kernel
theorem dX7_init_116 : decode cX7_init 116 = .ok (.pop, 1) := by decide +kernel
theorem dX7_init_117 : decode cX7_init 117 = .ok (.iinc 1 1, 3) := by decide +kernel
theorem dX7_init_120 : decode cX7_init 120 = .ok (.goto (-26), 3) := by decide +kernel
theorem dX7_init_123 : decode cX7_init 123 = .ok (.aload_n 0, 1) := by decide +kernel
theorem dX7_init_124 : decode cX7_init 124 = .ok (.getfield 19, 3) := by decide +kernel
theorem dX7_init_127 : decode cX7_init 127 = .ok (.aload_n 0, 1) := by decide +kernel
theorem dX7_init_128 : decode cX7_init 128 = .ok (.getfield 54, 3) := by decide +kernel
theorem dX7_init_131 : decode cX7_init 131 = .ok (.aload_n 0, 1) := by decide +kernel
theorem dX7_init_132 : decode cX7_init 132 = .ok (.getfield 10, 3) := by decide +kernel
theorem dX7_init_135 : decode cX7_init 135 = .ok (.invokevirtual 77, 3) := by decide +kernel
theorem dX7_init_138 : decode cX7_init 138 = .ok (.pop, 1) := by decide +kernel
theorem dX7_init_139 : decode cX7_init 139 = .ok (.aload_n 0, 1) := by decide +kernel
theorem dX7_init_140 : decode cX7_init 140 = .ok (.getfield 10, 3) := by decide +kernel
theorem dX7_init_143 : decode cX7_init 143 = .ok (.iconst 0, 1) := by decide +kernel
theorem dX7_init_144 : decode cX7_init 144 = .ok (.putfield 81, 3) := by decide +kernel
theorem dX7_init_147 : decode cX7_init 147 = .ok (.return_, 1) := by decide +kernel
theorem dX7_write_0 : decode cX7_write 0 = .ok (.iload_n 1, 1) := by decide +kernel
theorem dX7_write_1 : decode cX7_write 1 = .ok (.bipush 32, 2) := by decide +kernel
theorem dX7_write_3 : decode cX7_write 3 = .ok (.bipush 126, 2) := by decide +kernel
theorem dX7_write_5 : decode cX7_write 5 = .ok (.invokestatic 85, 3) := by decide +kernel
theorem dX7_write_8 : decode cX7_write 8 = .ok (.ifCond .ne 5, 3) := by decide +kernel
theorem dX7_write_11 : decode cX7_write 11 = .ok (.iconst (-1), 1) := by decide +kernel
theorem dX7_write_12 : decode cX7_write 12 = .ok (.ireturn, 1) := by decide +kernel
theorem dX7_write_13 : decode cX7_write 13 = .ok (.aload_n 0, 1) := by decide +kernel
theorem dX7_write_14 : decode cX7_write 14 = .ok (.getfield 10, 3) := by decide +kernel
theorem dX7_write_17 : decode cX7_write 17 = .ok (.iload_n 1, 1) := by decide +kernel
theorem dX7_write_18 : decode cX7_write 18 = .ok (.i2c, 1) := by decide +kernel
theorem dX7_write_19 : decode cX7_write 19 = .ok (.invokevirtual 73, 3) := by decide +kernel
theorem dX7_write_22 : decode cX7_write 22 = .ok (.ifCond .eq 13, 3) := by decide +kernel
theorem dX7_write_25 : decode cX7_write 25 = .ok (.aload_n 0, 1) := by decide +kernel
theorem dX7_write_26 : decode cX7_write 26 = .ok (.getfield 10, 3) := by decide +kernel
theorem dX7_write_29 : decode cX7_write 29 = .ok (.getfield 81, 3) := by decide +kernel
theorem dX7_write_32 : decode cX7_write 32 = .ok (.goto 5, 3) := by decide +kernel
theorem dX7_write_35 : decode cX7_write 35 = .ok (.bipush (-3), 2) := by decide +kernel
theorem dX7_write_37 : decode cX7_write 37 = .ok (.ireturn, 1) := by decide +kernel
theorem dX7_wipe_0 : decode cX7_wipe 0 = .ok (.aload_n 0, 1) := by decide +kernel
theorem dX7_wipe_1 : decode cX7_wipe 1 = .ok (.getfield 10, 3) := by decide +kernel
theorem dX7_wipe_4 : decode cX7_wipe 4 = .ok (.getfield 81, 3) := by decide +kernel
theorem dX7_wipe_7 : decode cX7_wipe 7 = .ok (.istore_n 1, 1) := by decide +kernel
theorem dX7_wipe_8 : decode cX7_wipe 8 = .ok (.aload_n 0, 1) := by decide +kernel
theorem dX7_wipe_9 : decode cX7_wipe 9 = .ok (.getfield 10, 3) := by decide +kernel
theorem dX7_wipe_12 : decode cX7_wipe 12 = .ok (.iconst 0, 1) := by decide +kernel
theorem dX7_wipe_13 : decode cX7_wipe 13 = .ok (.putfield 81, 3) := by decide +kernel
theorem dX7_wipe_16 : decode cX7_wipe 16 = .ok (.iload_n 1, 1) := by decide +kernel
theorem dX7_wipe_17 : decode cX7_wipe 17 = .ok (.ireturn, 1) := by decide +kernel
theorem dX7_fault_0 : decode cX7_fault 0 = .ok (.aload_n 0, 1) := by decide +kernel
theorem dX7_fault_1 : decode cX7_fault 1 = .ok (.getfield 19, 3) := by decide +kernel
theorem dX7_fault_4 : decode cX7_fault 4 = .ok (.aload_n 0, 1) := by decide +kernel
theorem dX7_fault_5 : decode cX7_fault 5 = .ok (.getfield 58, 3) := by decide +kernel
theorem dX7_fault_8 : decode cX7_fault 8 = .ok (.aload_n 0, 1) := by decide +kernel
theorem dX7_fault_9 : decode cX7_fault 9 = .ok (.getfield 10, 3) := by decide +kernel
theorem dX7_fault_12 : decode cX7_fault 12 = .ok (.invokevirtual 77, 3) := by decide +kernel
theorem dX7_fault_15 : decode cX7_fault 15 = .ok (.ireturn, 1) := by decide +kernel
theorem dX7_lay_0 : decode cX7_lay 0 = .ok (.aload_n 0, 1) := by decide +kernel
theorem dX7_lay_1 : decode cX7_lay 1 = .ok (.getfield 19, 3) := by decide +kernel
theorem dX7_lay_4 : decode cX7_lay 4 = .ok (.aload_n 0, 1) := by decide +kernel
theorem dX7_lay_5 : decode cX7_lay 5 = .ok (.getfield 58, 3) := by decide +kernel
theorem dX7_lay_8 : decode cX7_lay 8 = .ok (.aload_n 0, 1) := by decide +kernel
theorem dX7_lay_9 : decode cX7_lay 9 = .ok (.getfield 10, 3) := by decide +kernel
theorem dX7_lay_12 : decode cX7_lay 12 = .ok (.invokevirtual 77, 3) := by decide +kernel
theorem dX7_lay_15 : decode cX7_lay 15 = .ok (.bipush (-4), 2) := by decide +kernel
theorem dX7_lay_17 : decode cX7_lay 17 = .ok (.if_icmp .ne 13, 3) := by decide +kernel
theorem dX7_lay_20 : decode cX7_lay 20 = .ok (.aload_n 0, 1) := by decide +kernel
theorem dX7_lay_21 : decode cX7_lay 21 = .ok (.getfield 58, 3) := by decide +kernel
theorem dX7_lay_24 : decode cX7_lay 24 = .ok (.getfield 89, 3) := by decide +kernel
theorem dX7_lay_27 : decode cX7_lay 27 = .ok (.ifCond .ne 6, 3) := by decide +kernel
theorem dX7_lay_30 : decode cX7_lay 30 = .ok (.bipush (-2), 2) := by decide +kernel
theorem dX7_lay_32 : decode cX7_lay 32 = .ok (.ireturn, 1) := by decide +kernel
theorem dX7_lay_33 : decode cX7_lay 33 = .ok (.aload_n 0, 1) := by decide +kernel
theorem dX7_lay_34 : decode cX7_lay 34 = .ok (.getfield 58, 3) := by decide +kernel
theorem dX7_lay_37 : decode cX7_lay 37 = .ok (.astore_n 1, 1) := by decide +kernel
theorem dX7_lay_38 : decode cX7_lay 38 = .ok (.aload_n 0, 1) := by decide +kernel
theorem dX7_lay_39 : decode cX7_lay 39 = .ok (.aload_n 0, 1) := by decide +kernel
theorem dX7_lay_40 : decode cX7_lay 40 = .ok (.getfield 54, 3) := by decide +kernel
theorem dX7_lay_43 : decode cX7_lay 43 = .ok (.putfield 58, 3) := by decide +kernel
theorem dX7_lay_46 : decode cX7_lay 46 = .ok (.aload_n 0, 1) := by decide +kernel
theorem dX7_lay_47 : decode cX7_lay 47 = .ok (.aload_n 1, 1) := by decide +kernel
theorem dX7_lay_48 : decode cX7_lay 48 = .ok (.putfield 54, 3) := by decide +kernel
theorem dX7_lay_51 : decode cX7_lay 51 = .ok (.aload_n 0, 1) := by decide +kernel
theorem dX7_lay_52 : decode cX7_lay 52 = .ok (.getfield 26, 3) := by decide +kernel
theorem dX7_lay_55 : decode cX7_lay 55 = .ok (.iconst 0, 1) := by decide +kernel
theorem dX7_lay_56 : decode cX7_lay 56 = .ok (.putfield 92, 3) := by decide +kernel
theorem dX7_lay_59 : decode cX7_lay 59 = .ok (.aload_n 0, 1) := by decide +kernel
theorem dX7_lay_60 : decode cX7_lay 60 = .ok (.getfield 54, 3) := by decide +kernel
theorem dX7_lay_63 : decode cX7_lay 63 = .ok (.getfield 89, 3) := by decide +kernel
theorem dX7_lay_66 : decode cX7_lay 66 = .ok (.ireturn, 1) := by decide +kernel
theorem dX7_density_0 : decode cX7_density 0 = .ok (.aload_n 0, 1) := by decide +kernel
theorem dX7_density_1 : decode cX7_density 1 = .ok (.getfield 54, 3) := by decide +kernel
theorem dX7_density_4 : decode cX7_density 4 = .ok (.iload_n 1, 1) := by decide +kernel
theorem dX7_density_5 : decode cX7_density 5 = .ok (.invokevirtual 95, 3) := by decide +kernel
theorem dX7_density_8 : decode cX7_density 8 = .ok (.ifCond .eq 12, 3) := by decide +kernel
theorem dX7_density_11 : decode cX7_density 11 = .ok (.iload_n 2, 1) := by decide +kernel
theorem dX7_density_12 : decode cX7_density 12 = .ok (.iconst 1, 1) := by decide +kernel
theorem dX7_density_13 : decode cX7_density 13 = .ok (.iconst 5, 1) := by decide +kernel
theorem dX7_density_14 : decode cX7_density 14 = .ok (.invokestatic 85, 3) := by decide +kernel
theorem dX7_density_17 : decode cX7_density 17 = .ok (.ifCond .ne 5, 3) := by decide +kernel
theorem dX7_density_20 : decode cX7_density 20 = .ok (.iconst (-1), 1) := by decide +kernel
theorem dX7_density_21 : decode cX7_density 21 = .ok (.ireturn, 1) := by decide +kernel
theorem dX7_density_22 : decode cX7_density 22 = .ok (.aload_n 0, 1) := by decide +kernel
theorem dX7_density_23 : decode cX7_density 23 = .ok (.getfield 54, 3) := by decide +kernel
theorem dX7_density_26 : decode cX7_density 26 = .ok (.getfield 99, 3) := by decide +kernel
theorem dX7_density_29 : decode cX7_density 29 = .ok (.iload_n 1, 1) := by decide +kernel
theorem dX7_density_30 : decode cX7_density 30 = .ok (.iaload, 1) := by decide +kernel
theorem dX7_density_31 : decode cX7_density 31 = .ok (.istore_n 3, 1) := by decide +kernel
theorem dX7_density_32 : decode cX7_density 32 = .ok (.iload_n 3, 1) := by decide +kernel
theorem dX7_density_33 : decode cX7_density 33 = .ok (.iload_n 2, 1) := by decide +kernel
theorem dX7_density_34 : decode cX7_density 34 = .ok (.if_icmp .ne 6, 3) := by decide +kernel
theorem dX7_density_37 : decode cX7_density 37 = .ok (.bipush (-2), 2) := by decide +kernel
theorem dX7_density_39 : decode cX7_density 39 = .ok (.ireturn, 1) := by decide +kernel
theorem dX7_density_40 : decode cX7_density 40 = .ok (.aload_n 0, 1) := by decide +kernel
theorem dX7_density_41 : decode cX7_density 41 = .ok (.getfield 26, 3) := by decide +kernel
theorem dX7_density_44 : decode cX7_density 44 = .ok (.aload_n 0, 1) := by decide +kernel
theorem dX7_density_45 : decode cX7_density 45 = .ok (.getfield 54, 3) := by decide +kernel
theorem dX7_density_48 : decode cX7_density 48 = .ok (.invokevirtual 103, 3) := by decide +kernel
theorem dX7_density_51 : decode cX7_density 51 = .ok (.aload_n 0, 1) := by decide +kernel
theorem dX7_density_52 : decode cX7_density 52 = .ok (.getfield 54, 3) := by decide +kernel
theorem dX7_density_55 : decode cX7_density 55 = .ok (.getfield 99, 3) := by decide +kernel
theorem dX7_density_58 : decode cX7_density 58 = .ok (.iload_n 1, 1) := by decide +kernel
theorem dX7_density_59 : decode cX7_density 59 = .ok (.iload_n 2, 1) := by decide +kernel
theorem dX7_density_60 : decode cX7_density 60 = .ok (.iastore, 1) := by decide +kernel
theorem dX7_density_61 : decode cX7_density 61 = .ok (.iload_n 3, 1) := by decide +kernel
theorem dX7_density_62 : decode cX7_density 62 = .ok (.ireturn, 1) := by decide +kernel
theorem dX7_want_0 : decode cX7_want 0 = .ok (.aload_n 0, 1) := by decide +kernel
theorem dX7_want_1 : decode cX7_want 1 = .ok (.getfield 54, 3) := by decide +kernel
theorem dX7_want_4 : decode cX7_want 4 = .ok (.iload_n 1, 1) := by decide +kernel
theorem dX7_want_5 : decode cX7_want 5 = .ok (.invokevirtual 95, 3) := by decide +kernel
theorem dX7_want_8 : decode cX7_want 8 = .ok (.ifCond .eq 13, 3) := by decide +kernel
theorem dX7_want_11 : decode cX7_want 11 = .ok (.iload_n 2, 1) := by decide +kernel
theorem dX7_want_12 : decode cX7_want 12 = .ok (.iconst 0, 1) := by decide +kernel
theorem dX7_want_13 : decode cX7_want 13 = .ok (.bipush 99, 2) := by decide +kernel
theorem dX7_want_15 : decode cX7_want 15 = .ok (.invokestatic 85, 3) := by decide +kernel
theorem dX7_want_18 : decode cX7_want 18 = .ok (.ifCond .ne 5, 3) := by decide +kernel
theorem dX7_want_21 : decode cX7_want 21 = .ok (.iconst (-1), 1) := by decide +kernel
theorem dX7_want_22 : decode cX7_want 22 = .ok (.ireturn, 1) := by decide +kernel
theorem dX7_want_23 : decode cX7_want 23 = .ok (.aload_n 0, 1) := by decide +kernel
theorem dX7_want_24 : decode cX7_want 24 = .ok (.getfield 54, 3) := by decide +kernel
theorem dX7_want_27 : decode cX7_want 27 = .ok (.getfield 107, 3) := by decide +kernel
theorem dX7_want_30 : decode cX7_want 30 = .ok (.iload_n 1, 1) := by decide +kernel
theorem dX7_want_31 : decode cX7_want 31 = .ok (.iaload, 1) := by decide +kernel
theorem dX7_want_32 : decode cX7_want 32 = .ok (.istore_n 3, 1) := by decide +kernel
theorem dX7_want_33 : decode cX7_want 33 = .ok (.iload_n 3, 1) := by decide +kernel
theorem dX7_want_34 : decode cX7_want 34 = .ok (.iload_n 2, 1) := by decide +kernel
theorem dX7_want_35 : decode cX7_want 35 = .ok (.if_icmp .ne 6, 3) := by decide +kernel
theorem dX7_want_38 : decode cX7_want 38 = .ok (.bipush (-2), 2) := by decide +kernel
theorem dX7_want_40 : decode cX7_want 40 = .ok (.ireturn, 1) := by decide +kernel
theorem dX7_want_41 : decode cX7_want 41 = .ok (.aload_n 0, 1) := by decide +kernel
theorem dX7_want_42 : decode cX7_want 42 = .ok (.getfield 26, 3) := by decide +kernel
theorem dX7_want_45 : decode cX7_want 45 = .ok (.aload_n 0, 1) := by decide +kernel
theorem dX7_want_46 : decode cX7_want 46 = .ok (.getfield 54, 3) := by decide +kernel
theorem dX7_want_49 : decode cX7_want 49 = .ok (.invokevirtual 103, 3) := by decide +kernel
theorem dX7_want_52 : decode cX7_want 52 = .ok (.aload_n 0, 1) := by decide +kernel
theorem dX7_want_53 : decode cX7_want 53 = .ok (.getfield 54, 3) := by decide +kernel
theorem dX7_want_56 : decode cX7_want 56 = .ok (.getfield 107, 3) := by decide +kernel
theorem dX7_want_59 : decode cX7_want 59 = .ok (.iload_n 1, 1) := by decide +kernel
theorem dX7_want_60 : decode cX7_want 60 = .ok (.iload_n 2, 1) := by decide +kernel
theorem dX7_want_61 : decode cX7_want 61 = .ok (.iastore, 1) := by decide +kernel
theorem dX7_want_62 : decode cX7_want 62 = .ok (.iload_n 3, 1) := by decide +kernel
theorem dX7_want_63 : decode cX7_want 63 = .ok (.ireturn, 1) := by decide +kernel
theorem dX7_load_0 : decode cX7_load 0 = .ok (.aload_n 0, 1) := by decide +kernel
theorem dX7_load_1 : decode cX7_load 1 = .ok (.getfield 54, 3) := by decide +kernel
theorem dX7_load_4 : decode cX7_load 4 = .ok (.iload_n 1, 1) := by decide +kernel
theorem dX7_load_5 : decode cX7_load 5 = .ok (.invokevirtual 110, 3) := by decide +kernel
theorem dX7_load_8 : decode cX7_load 8 = .ok (.ifCond .eq 25, 3) := by decide +kernel
theorem dX7_load_11 : decode cX7_load 11 = .ok (.aload_n 0, 1) := by decide +kernel
theorem dX7_load_12 : decode cX7_load 12 = .ok (.getfield 54, 3) := by decide +kernel
theorem dX7_load_15 : decode cX7_load 15 = .ok (.iload_n 1, 1) := by decide +kernel
theorem dX7_load_16 : decode cX7_load 16 = .ok (.invokevirtual 113, 3) := by decide +kernel
theorem dX7_load_19 : decode cX7_load 19 = .ok (.ifCond .eq 14, 3) := by decide +kernel
theorem dX7_load_22 : decode cX7_load 22 = .ok (.iload_n 2, 1) := by decide +kernel
theorem dX7_load_23 : decode cX7_load 23 = .ok (.bipush (-9), 2) := by decide +kernel
theorem dX7_load_25 : decode cX7_load 25 = .ok (.bipush 9, 2) := by decide +kernel
theorem dX7_load_27 : decode cX7_load 27 = .ok (.invokestatic 85, 3) := by decide +kernel
theorem dX7_load_30 : decode cX7_load 30 = .ok (.ifCond .ne 5, 3) := by decide +kernel
theorem dX7_load_33 : decode cX7_load 33 = .ok (.iconst (-1), 1) := by decide +kernel
theorem dX7_load_34 : decode cX7_load 34 = .ok (.ireturn, 1) := by decide +kernel
theorem dX7_load_35 : decode cX7_load 35 = .ok (.aload_n 0, 1) := by decide +kernel
theorem dX7_load_36 : decode cX7_load 36 = .ok (.getfield 54, 3) := by decide +kernel
theorem dX7_load_39 : decode cX7_load 39 = .ok (.getfield 116, 3) := by decide +kernel
theorem dX7_load_42 : decode cX7_load 42 = .ok (.iload_n 1, 1) := by decide +kernel
theorem dX7_load_43 : decode cX7_load 43 = .ok (.iaload, 1) := by decide +kernel
theorem dX7_load_44 : decode cX7_load 44 = .ok (.istore_n 3, 1) := by decide +kernel
theorem dX7_load_45 : decode cX7_load 45 = .ok (.iload_n 3, 1) := by decide +kernel
theorem dX7_load_46 : decode cX7_load 46 = .ok (.iload_n 2, 1) := by decide +kernel
theorem dX7_load_47 : decode cX7_load 47 = .ok (.if_icmp .ne 6, 3) := by decide +kernel
theorem dX7_load_50 : decode cX7_load 50 = .ok (.bipush (-2), 2) := by decide +kernel
theorem dX7_load_52 : decode cX7_load 52 = .ok (.ireturn, 1) := by decide +kernel
theorem dX7_load_53 : decode cX7_load 53 = .ok (.aload_n 0, 1) := by decide +kernel
theorem dX7_load_54 : decode cX7_load 54 = .ok (.getfield 26, 3) := by decide +kernel
theorem dX7_load_57 : decode cX7_load 57 = .ok (.aload_n 0, 1) := by decide +kernel
theorem dX7_load_58 : decode cX7_load 58 = .ok (.getfield 54, 3) := by decide +kernel
theorem dX7_load_61 : decode cX7_load 61 = .ok (.invokevirtual 103, 3) := by decide +kernel
theorem dX7_load_64 : decode cX7_load 64 = .ok (.aload_n 0, 1) := by decide +kernel
theorem dX7_load_65 : decode cX7_load 65 = .ok (.getfield 54, 3) := by decide +kernel
theorem dX7_load_68 : decode cX7_load 68 = .ok (.getfield 116, 3) := by decide +kernel
theorem dX7_load_71 : decode cX7_load 71 = .ok (.iload_n 1, 1) := by decide +kernel
theorem dX7_load_72 : decode cX7_load 72 = .ok (.iload_n 2, 1) := by decide +kernel
theorem dX7_load_73 : decode cX7_load 73 = .ok (.iastore, 1) := by decide +kernel
theorem dX7_load_74 : decode cX7_load 74 = .ok (.iload_n 3, 1) := by decide +kernel
theorem dX7_load_75 : decode cX7_load 75 = .ok (.bipush 9, 2) := by decide +kernel
theorem dX7_load_77 : decode cX7_load 77 = .ok (.iadd, 1) := by decide +kernel
theorem dX7_load_78 : decode cX7_load 78 = .ok (.ireturn, 1) := by decide +kernel
theorem dX7_move_0 : decode cX7_move 0 = .ok (.aload_n 0, 1) := by decide +kernel
theorem dX7_move_1 : decode cX7_move 1 = .ok (.iload_n 1, 1) := by decide +kernel
theorem dX7_move_2 : decode cX7_move 2 = .ok (.invokevirtual 119, 3) := by decide +kernel
theorem dX7_move_5 : decode cX7_move 5 = .ok (.ifCond .eq 20, 3) := by decide +kernel
theorem dX7_move_8 : decode cX7_move 8 = .ok (.iload_n 2, 1) := by decide +kernel
theorem dX7_move_9 : decode cX7_move 9 = .ok (.invokestatic 122, 3) := by decide +kernel
theorem dX7_move_12 : decode cX7_move 12 = .ok (.ifCond .eq 13, 3) := by decide +kernel
theorem dX7_move_15 : decode cX7_move 15 = .ok (.iload_n 3, 1) := by decide +kernel
theorem dX7_move_16 : decode cX7_move 16 = .ok (.iconst 0, 1) := by decide +kernel
theorem dX7_move_17 : decode cX7_move 17 = .ok (.bipush 60, 2) := by decide +kernel
theorem dX7_move_19 : decode cX7_move 19 = .ok (.invokestatic 85, 3) := by decide +kernel
theorem dX7_move_22 : decode cX7_move 22 = .ok (.ifCond .ne 5, 3) := by decide +kernel
theorem dX7_move_25 : decode cX7_move 25 = .ok (.iconst (-1), 1) := by decide +kernel
theorem dX7_move_26 : decode cX7_move 26 = .ok (.ireturn, 1) := by decide +kernel
theorem dX7_move_27 : decode cX7_move 27 = .ok (.aload_n 0, 1) := by decide +kernel
theorem dX7_move_28 : decode cX7_move 28 = .ok (.getfield 54, 3) := by decide +kernel
theorem dX7_move_31 : decode cX7_move 31 = .ok (.getfield 125, 3) := by decide +kernel
theorem dX7_move_34 : decode cX7_move 34 = .ok (.iload_n 1, 1) := by decide +kernel
theorem dX7_move_35 : decode cX7_move 35 = .ok (.iconst 3, 1) := by decide +kernel
theorem dX7_move_36 : decode cX7_move 36 = .ok (.imul, 1) := by decide +kernel
theorem dX7_move_37 : decode cX7_move 37 = .ok (.iload_n 2, 1) := by decide +kernel
theorem dX7_move_38 : decode cX7_move 38 = .ok (.iadd, 1) := by decide +kernel
theorem dX7_move_39 : decode cX7_move 39 = .ok (.iaload, 1) := by decide +kernel
theorem dX7_move_40 : decode cX7_move 40 = .ok (.istore 4, 2) := by decide +kernel
theorem dX7_move_42 : decode cX7_move 42 = .ok (.iload 4, 2) := by decide +kernel
theorem dX7_move_44 : decode cX7_move 44 = .ok (.iload_n 3, 1) := by decide +kernel
theorem dX7_move_45 : decode cX7_move 45 = .ok (.if_icmp .ne 6, 3) := by decide +kernel
theorem dX7_move_48 : decode cX7_move 48 = .ok (.bipush (-2), 2) := by decide +kernel
theorem dX7_move_50 : decode cX7_move 50 = .ok (.ireturn, 1) := by decide +kernel
theorem dX7_move_51 : decode cX7_move 51 = .ok (.aload_n 0, 1) := by decide +kernel
theorem dX7_move_52 : decode cX7_move 52 = .ok (.getfield 26, 3) := by decide +kernel
theorem dX7_move_55 : decode cX7_move 55 = .ok (.aload_n 0, 1) := by decide +kernel
theorem dX7_move_56 : decode cX7_move 56 = .ok (.getfield 54, 3) := by decide +kernel
theorem dX7_move_59 : decode cX7_move 59 = .ok (.invokevirtual 103, 3) := by decide +kernel
theorem dX7_move_62 : decode cX7_move 62 = .ok (.aload_n 0, 1) := by decide +kernel
theorem dX7_move_63 : decode cX7_move 63 = .ok (.getfield 54, 3) := by decide +kernel
theorem dX7_move_66 : decode cX7_move 66 = .ok (.getfield 125, 3) := by decide +kernel
theorem dX7_move_69 : decode cX7_move 69 = .ok (.iload_n 1, 1) := by decide +kernel
theorem dX7_move_70 : decode cX7_move 70 = .ok (.iconst 3, 1) := by decide +kernel
theorem dX7_move_71 : decode cX7_move 71 = .ok (.imul, 1) := by decide +kernel
theorem dX7_move_72 : decode cX7_move 72 = .ok (.iload_n 2, 1) := by decide +kernel
theorem dX7_move_73 : decode cX7_move 73 = .ok (.iadd, 1) := by decide +kernel
theorem dX7_move_74 : decode cX7_move 74 = .ok (.iload_n 3, 1) := by decide +kernel
theorem dX7_move_75 : decode cX7_move 75 = .ok (.iastore, 1) := by decide +kernel
theorem dX7_move_76 : decode cX7_move 76 = .ok (.iload 4, 2) := by decide +kernel
theorem dX7_move_78 : decode cX7_move 78 = .ok (.ireturn, 1) := by decide +kernel
theorem dX7_down_0 : decode cX7_down 0 = .ok (.aload_n 0, 1) := by decide +kernel
theorem dX7_down_1 : decode cX7_down 1 = .ok (.getfield 54, 3) := by decide +kernel
theorem dX7_down_4 : decode cX7_down 4 = .ok (.iload_n 1, 1) := by decide +kernel
theorem dX7_down_5 : decode cX7_down 5 = .ok (.invokevirtual 95, 3) := by decide +kernel
theorem dX7_down_8 : decode cX7_down 8 = .ok (.ifCond .eq 12, 3) := by decide +kernel
theorem dX7_down_11 : decode cX7_down 11 = .ok (.iload_n 2, 1) := by decide +kernel
theorem dX7_down_12 : decode cX7_down 12 = .ok (.iconst 0, 1) := by decide +kernel
theorem dX7_down_13 : decode cX7_down 13 = .ok (.iconst 1, 1) := by decide +kernel
theorem dX7_down_14 : decode cX7_down 14 = .ok (.invokestatic 85, 3) := by decide +kernel
theorem dX7_down_17 : decode cX7_down 17 = .ok (.ifCond .ne 5, 3) := by decide +kernel
theorem dX7_down_20 : decode cX7_down 20 = .ok (.iconst (-1), 1) := by decide +kernel
theorem dX7_down_21 : decode cX7_down 21 = .ok (.ireturn, 1) := by decide +kernel
theorem dX7_down_22 : decode cX7_down 22 = .ok (.aload_n 0, 1) := by decide +kernel
theorem dX7_down_23 : decode cX7_down 23 = .ok (.getfield 54, 3) := by decide +kernel
theorem dX7_down_26 : decode cX7_down 26 = .ok (.iload_n 1, 1) := by decide +kernel
theorem dX7_down_27 : decode cX7_down 27 = .ok (.invokevirtual 128, 3) := by decide +kernel
theorem dX7_down_30 : decode cX7_down 30 = .ok (.iload_n 2, 1) := by decide +kernel
theorem dX7_down_31 : decode cX7_down 31 = .ok (.ifCond .ne 7, 3) := by decide +kernel
theorem dX7_down_34 : decode cX7_down 34 = .ok (.iconst 1, 1) := by decide +kernel
theorem dX7_down_35 : decode cX7_down 35 = .ok (.goto 4, 3) := by decide +kernel
theorem dX7_down_38 : decode cX7_down 38 = .ok (.iconst 0, 1) := by decide +kernel
theorem dX7_down_39 : decode cX7_down 39 = .ok (.if_icmp .ne 6, 3) := by decide +kernel
theorem dX7_down_42 : decode cX7_down 42 = .ok (.bipush (-2), 2) := by decide +kernel
theorem dX7_down_44 : decode cX7_down 44 = .ok (.ireturn, 1) := by decide +kernel
theorem dX7_down_45 : decode cX7_down 45 = .ok (.aload_n 0, 1) := by decide +kernel
theorem dX7_down_46 : decode cX7_down 46 = .ok (.getfield 26, 3) := by decide +kernel
theorem dX7_down_49 : decode cX7_down 49 = .ok (.aload_n 0, 1) := by decide +kernel
theorem dX7_down_50 : decode cX7_down 50 = .ok (.getfield 54, 3) := by decide +kernel
theorem dX7_down_53 : decode cX7_down 53 = .ok (.invokevirtual 103, 3) := by decide +kernel
theorem dX7_down_56 : decode cX7_down 56 = .ok (.aload_n 0, 1) := by decide +kernel
theorem dX7_down_57 : decode cX7_down 57 = .ok (.getfield 54, 3) := by decide +kernel
theorem dX7_down_60 : decode cX7_down 60 = .ok (.dup, 1) := by decide +kernel
theorem dX7_down_61 : decode cX7_down 61 = .ok (.getfield 131, 3) := by decide +kernel
theorem dX7_down_64 : decode cX7_down 64 = .ok (.iconst 1, 1) := by decide +kernel
theorem dX7_down_65 : decode cX7_down 65 = .ok (.iload_n 1, 1) := by decide +kernel
theorem dX7_down_66 : decode cX7_down 66 = .ok (.ishl, 1) := by decide +kernel
theorem dX7_down_67 : decode cX7_down 67 = .ok (.ixor, 1) := by decide +kernel
theorem dX7_down_68 : decode cX7_down 68 = .ok (.putfield 131, 3) := by decide +kernel
theorem dX7_down_71 : decode cX7_down 71 = .ok (.aload_n 0, 1) := by decide +kernel
theorem dX7_down_72 : decode cX7_down 72 = .ok (.getfield 54, 3) := by decide +kernel
theorem dX7_down_75 : decode cX7_down 75 = .ok (.getfield 131, 3) := by decide +kernel
theorem dX7_down_78 : decode cX7_down 78 = .ok (.invokestatic 134, 3) := by decide +kernel
theorem dX7_down_81 : decode cX7_down 81 = .ok (.ireturn, 1) := by decide +kernel
theorem dX7_round_0 : decode cX7_round 0 = .ok (.iload_n 1, 1) := by decide +kernel
theorem dX7_round_1 : decode cX7_round 1 = .ok (.iconst 1, 1) := by decide +kernel
theorem dX7_round_2 : decode cX7_round 2 = .ok (.bipush 20, 2) := by decide +kernel
theorem dX7_round_4 : decode cX7_round 4 = .ok (.invokestatic 85, 3) := by decide +kernel
theorem dX7_round_7 : decode cX7_round 7 = .ok (.ifCond .ne 5, 3) := by decide +kernel
theorem dX7_round_10 : decode cX7_round 10 = .ok (.iconst (-1), 1) := by decide +kernel
theorem dX7_round_11 : decode cX7_round 11 = .ok (.ireturn, 1) := by decide +kernel
theorem dX7_round_12 : decode cX7_round 12 = .ok (.aload_n 0, 1) := by decide +kernel
theorem dX7_round_13 : decode cX7_round 13 = .ok (.getfield 54, 3) := by decide +kernel
theorem dX7_round_16 : decode cX7_round 16 = .ok (.invokevirtual 140, 3) := by decide +kernel
theorem dX7_round_19 : decode cX7_round 19 = .ok (.ifCond .ne 6, 3) := by decide +kernel
theorem dX7_round_22 : decode cX7_round 22 = .ok (.bipush (-2), 2) := by decide +kernel
theorem dX7_round_24 : decode cX7_round 24 = .ok (.ireturn, 1) := by decide +kernel
theorem dX7_round_25 : decode cX7_round 25 = .ok (.aload_n 0, 1) := by decide +kernel
theorem dX7_round_26 : decode cX7_round 26 = .ok (.getfield 26, 3) := by decide +kernel
theorem dX7_round_29 : decode cX7_round 29 = .ok (.aload_n 0, 1) := by decide +kernel
theorem dX7_round_30 : decode cX7_round 30 = .ok (.getfield 54, 3) := by decide +kernel
theorem dX7_round_33 : decode cX7_round 33 = .ok (.invokevirtual 103, 3) := by decide +kernel
theorem dX7_round_36 : decode cX7_round 36 = .ok (.iconst 0, 1) := by decide +kernel
theorem dX7_round_37 : decode cX7_round 37 = .ok (.istore_n 2, 1) := by decide +kernel
theorem dX7_round_38 : decode cX7_round 38 = .ok (.iconst 0, 1) := by decide +kernel
theorem dX7_round_39 : decode cX7_round 39 = .ok (.istore_n 3, 1) := by decide +kernel
theorem dX7_round_40 : decode cX7_round 40 = .ok (.iload_n 3, 1) := by decide +kernel
theorem dX7_round_41 : decode cX7_round 41 = .ok (.iload_n 1, 1) := by decide +kernel
theorem dX7_round_42 : decode cX7_round 42 = .ok (.if_icmp .ge 43, 3) := by decide +kernel
theorem dX7_round_45 : decode cX7_round 45 = .ok (.aload_n 0, 1) := by decide +kernel
theorem dX7_round_46 : decode cX7_round 46 = .ok (.getfield 33, 3) := by decide +kernel
theorem dX7_round_49 : decode cX7_round 49 = .ok (.aload_n 0, 1) := by decide +kernel
theorem dX7_round_50 : decode cX7_round 50 = .ok (.getfield 54, 3) := by decide +kernel
theorem dX7_round_53 : decode cX7_round 53 = .ok (.invokevirtual 144, 3) := by decide +kernel
theorem dX7_round_56 : decode cX7_round 56 = .ok (.ifCond .eq 23, 3) := by decide +kernel
theorem dX7_round_59 : decode cX7_round 59 = .ok (.aload_n 0, 1) := by decide +kernel
theorem dX7_round_60 : decode cX7_round 60 = .ok (.getfield 54, 3) := by decide +kernel
theorem dX7_round_63 : decode cX7_round 63 = .ok (.aload_n 0, 1) := by decide +kernel
theorem dX7_round_64 : decode cX7_round 64 = .ok (.getfield 33, 3) := by decide +kernel
theorem dX7_round_67 : decode cX7_round 67 = .ok (.getfield 148, 3) := by decide +kernel
theorem dX7_round_70 : decode cX7_round 70 = .ok (.invokevirtual 151, 3) := by decide +kernel
theorem dX7_round_73 : decode cX7_round 73 = .ok (.ifCond .eq 6, 3) := by decide +kernel
theorem dX7_round_76 : decode cX7_round 76 = .ok (.iinc 2 1, 3) := by decide +kernel
theorem dX7_round_79 : decode cX7_round 79 = .ok (.iinc 3 1, 3) := by decide +kernel
theorem dX7_round_82 : decode cX7_round 82 = .ok (.goto (-42), 3) := by decide +kernel
theorem dX7_round_85 : decode cX7_round 85 = .ok (.iload_n 2, 1) := by decide +kernel
theorem dX7_round_86 : decode cX7_round 86 = .ok (.ireturn, 1) := by decide +kernel
theorem dX7_undo_0 : decode cX7_undo 0 = .ok (.aload_n 0, 1) := by decide +kernel
theorem dX7_undo_1 : decode cX7_undo 1 = .ok (.getfield 26, 3) := by decide +kernel
theorem dX7_undo_4 : decode cX7_undo 4 = .ok (.aload_n 0, 1) := by decide +kernel
theorem dX7_undo_5 : decode cX7_undo 5 = .ok (.getfield 54, 3) := by decide +kernel
theorem dX7_undo_8 : decode cX7_undo 8 = .ok (.invokevirtual 155, 3) := by decide +kernel
theorem dX7_undo_11 : decode cX7_undo 11 = .ok (.ifCond .eq 13, 3) := by decide +kernel
theorem dX7_undo_14 : decode cX7_undo 14 = .ok (.aload_n 0, 1) := by decide +kernel
theorem dX7_undo_15 : decode cX7_undo 15 = .ok (.getfield 26, 3) := by decide +kernel
theorem dX7_undo_18 : decode cX7_undo 18 = .ok (.getfield 92, 3) := by decide +kernel
theorem dX7_undo_21 : decode cX7_undo 21 = .ok (.goto 5, 3) := by decide +kernel
theorem dX7_undo_24 : decode cX7_undo 24 = .ok (.bipush (-2), 2) := by decide +kernel
theorem dX7_undo_26 : decode cX7_undo 26 = .ok (.ireturn, 1) := by decide +kernel
theorem dX7_joint_0 : decode cX7_joint 0 = .ok (.aload_n 0, 1) := by decide +kernel
theorem dX7_joint_1 : decode cX7_joint 1 = .ok (.getfield 54, 3) := by decide +kernel
theorem dX7_joint_4 : decode cX7_joint 4 = .ok (.iload_n 1, 1) := by decide +kernel
theorem dX7_joint_5 : decode cX7_joint 5 = .ok (.invokevirtual 110, 3) := by decide +kernel
theorem dX7_joint_8 : decode cX7_joint 8 = .ok (.ifCond .eq 13, 3) := by decide +kernel
theorem dX7_joint_11 : decode cX7_joint 11 = .ok (.iload_n 2, 1) := by decide +kernel
theorem dX7_joint_12 : decode cX7_joint 12 = .ok (.iconst 0, 1) := by decide +kernel
theorem dX7_joint_13 : decode cX7_joint 13 = .ok (.bipush 7, 2) := by decide +kernel
theorem dX7_joint_15 : decode cX7_joint 15 = .ok (.invokestatic 85, 3) := by decide +kernel
theorem dX7_joint_18 : decode cX7_joint 18 = .ok (.ifCond .ne 5, 3) := by decide +kernel
theorem dX7_joint_21 : decode cX7_joint 21 = .ok (.iconst (-1), 1) := by decide +kernel
theorem dX7_joint_22 : decode cX7_joint 22 = .ok (.ireturn, 1) := by decide +kernel
theorem dX7_joint_23 : decode cX7_joint 23 = .ok (.iload_n 2, 1) := by decide +kernel
theorem dX7_joint_24 : decode cX7_joint 24 = .ok (.iconst 1, 1) := by decide +kernel
theorem dX7_joint_25 : decode cX7_joint 25 = .ok (.iconst 3, 1) := by decide +kernel
theorem dX7_joint_26 : decode cX7_joint 26 = .ok (.invokestatic 85, 3) := by decide +kernel
theorem dX7_joint_29 : decode cX7_joint 29 = .ok (.ifCond .ne 9, 3) := by decide +kernel
theorem dX7_joint_32 : decode cX7_joint 32 = .ok (.iload_n 2, 1) := by decide +kernel
theorem dX7_joint_33 : decode cX7_joint 33 = .ok (.bipush 7, 2) := by decide +kernel
theorem dX7_joint_35 : decode cX7_joint 35 = .ok (.if_icmp .ne 7, 3) := by decide +kernel
theorem dX7_joint_38 : decode cX7_joint 38 = .ok (.iconst 1, 1) := by decide +kernel
theorem dX7_joint_39 : decode cX7_joint 39 = .ok (.goto 4, 3) := by decide +kernel
theorem dX7_joint_42 : decode cX7_joint 42 = .ok (.iconst 0, 1) := by decide +kernel
theorem dX7_joint_43 : decode cX7_joint 43 = .ok (.istore_n 3, 1) := by decide +kernel
theorem dX7_joint_44 : decode cX7_joint 44 = .ok (.iload_n 3, 1) := by decide +kernel
theorem dX7_joint_45 : decode cX7_joint 45 = .ok (.ifCond .eq 20, 3) := by decide +kernel
theorem dX7_joint_48 : decode cX7_joint 48 = .ok (.aload_n 0, 1) := by decide +kernel
theorem dX7_joint_49 : decode cX7_joint 49 = .ok (.getfield 33, 3) := by decide +kernel
theorem dX7_joint_52 : decode cX7_joint 52 = .ok (.aload_n 0, 1) := by decide +kernel
theorem dX7_joint_53 : decode cX7_joint 53 = .ok (.getfield 54, 3) := by decide +kernel
theorem dX7_joint_56 : decode cX7_joint 56 = .ok (.invokevirtual 144, 3) := by decide +kernel
theorem dX7_joint_59 : decode cX7_joint 59 = .ok (.ifCond .ne 6, 3) := by decide +kernel
theorem dX7_joint_62 : decode cX7_joint 62 = .ok (.bipush (-2), 2) := by decide +kernel
theorem dX7_joint_64 : decode cX7_joint 64 = .ok (.ireturn, 1) := by decide +kernel
theorem dX7_joint_65 : decode cX7_joint 65 = .ok (.iload_n 2, 1) := by decide +kernel
theorem dX7_joint_66 : decode cX7_joint 66 = .ok (.tableswitch 133 0 7 #[46, 133, 133, 133, 63, 80, 93, 112], 46) := by decide +kernel
theorem dX7_joint_112 : decode cX7_joint 112 = .ok (.aload_n 0, 1) := by decide +kernel
theorem dX7_joint_113 : decode cX7_joint 113 = .ok (.getfield 54, 3) := by decide +kernel
theorem dX7_joint_116 : decode cX7_joint 116 = .ok (.iload_n 1, 1) := by decide +kernel
theorem dX7_joint_117 : decode cX7_joint 117 = .ok (.invokevirtual 113, 3) := by decide +kernel
theorem dX7_joint_120 : decode cX7_joint 120 = .ok (.ifCond .eq 7, 3) := by decide +kernel
theorem dX7_joint_123 : decode cX7_joint 123 = .ok (.iconst 1, 1) := by decide +kernel
theorem dX7_joint_124 : decode cX7_joint 124 = .ok (.goto 4, 3) := by decide +kernel
theorem dX7_joint_127 : decode cX7_joint 127 = .ok (.iconst 0, 1) := by decide +kernel
theorem dX7_joint_128 : decode cX7_joint 128 = .ok (.ireturn, 1) := by decide +kernel
theorem dX7_joint_129 : decode cX7_joint 129 = .ok (.aload_n 0, 1) := by decide +kernel
theorem dX7_joint_130 : decode cX7_joint 130 = .ok (.getfield 54, 3) := by decide +kernel
theorem dX7_joint_133 : decode cX7_joint 133 = .ok (.iload_n 1, 1) := by decide +kernel
theorem dX7_joint_134 : decode cX7_joint 134 = .ok (.invokevirtual 158, 3) := by decide +kernel
theorem dX7_joint_137 : decode cX7_joint 137 = .ok (.aload_n 0, 1) := by decide +kernel
theorem dX7_joint_138 : decode cX7_joint 138 = .ok (.getfield 54, 3) := by decide +kernel
theorem dX7_joint_141 : decode cX7_joint 141 = .ok (.getfield 131, 3) := by decide +kernel
theorem dX7_joint_144 : decode cX7_joint 144 = .ok (.iand, 1) := by decide +kernel
theorem dX7_joint_145 : decode cX7_joint 145 = .ok (.ireturn, 1) := by decide +kernel
theorem dX7_joint_146 : decode cX7_joint 146 = .ok (.aload_n 0, 1) := by decide +kernel
theorem dX7_joint_147 : decode cX7_joint 147 = .ok (.getfield 54, 3) := by decide +kernel
theorem dX7_joint_150 : decode cX7_joint 150 = .ok (.getfield 116, 3) := by decide +kernel
theorem dX7_joint_153 : decode cX7_joint 153 = .ok (.iload_n 1, 1) := by decide +kernel
theorem dX7_joint_154 : decode cX7_joint 154 = .ok (.iaload, 1) := by decide +kernel
theorem dX7_joint_155 : decode cX7_joint 155 = .ok (.bipush 9, 2) := by decide +kernel
theorem dX7_joint_157 : decode cX7_joint 157 = .ok (.iadd, 1) := by decide +kernel
theorem dX7_joint_158 : decode cX7_joint 158 = .ok (.ireturn, 1) := by decide +kernel
theorem dX7_joint_159 : decode cX7_joint 159 = .ok (.aload_n 0, 1) := by decide +kernel
theorem dX7_joint_160 : decode cX7_joint 160 = .ok (.getfield 54, 3) := by decide +kernel
theorem dX7_joint_163 : decode cX7_joint 163 = .ok (.aload_n 0, 1) := by decide +kernel
theorem dX7_joint_164 : decode cX7_joint 164 = .ok (.getfield 54, 3) := by decide +kernel
theorem dX7_joint_167 : decode cX7_joint 167 = .ok (.getfield 131, 3) := by decide +kernel
theorem dX7_joint_170 : decode cX7_joint 170 = .ok (.invokevirtual 161, 3) := by decide +kernel
theorem dX7_joint_173 : decode cX7_joint 173 = .ok (.iload_n 1, 1) := by decide +kernel
theorem dX7_joint_174 : decode cX7_joint 174 = .ok (.ishr, 1) := by decide +kernel
theorem dX7_joint_175 : decode cX7_joint 175 = .ok (.iconst 1, 1) := by decide +kernel
theorem dX7_joint_176 : decode cX7_joint 176 = .ok (.iand, 1) := by decide +kernel
theorem dX7_joint_177 : decode cX7_joint 177 = .ok (.ireturn, 1) := by decide +kernel
theorem dX7_joint_178 : decode cX7_joint 178 = .ok (.aload_n 0, 1) := by decide +kernel
theorem dX7_joint_179 : decode cX7_joint 179 = .ok (.getfield 33, 3) := by decide +kernel
theorem dX7_joint_182 : decode cX7_joint 182 = .ok (.aload_n 0, 1) := by decide +kernel
theorem dX7_joint_183 : decode cX7_joint 183 = .ok (.getfield 54, 3) := by decide +kernel
theorem dX7_joint_186 : decode cX7_joint 186 = .ok (.iload_n 1, 1) := by decide +kernel
theorem dX7_joint_187 : decode cX7_joint 187 = .ok (.invokevirtual 164, 3) := by decide +kernel
theorem dX7_joint_190 : decode cX7_joint 190 = .ok (.ifCond .eq 7, 3) := by decide +kernel
theorem dX7_joint_193 : decode cX7_joint 193 = .ok (.iconst 1, 1) := by decide +kernel
theorem dX7_joint_194 : decode cX7_joint 194 = .ok (.goto 4, 3) := by decide +kernel
theorem dX7_joint_197 : decode cX7_joint 197 = .ok (.iconst 0, 1) := by decide +kernel
theorem dX7_joint_198 : decode cX7_joint 198 = .ok (.ireturn, 1) := by decide +kernel
theorem dX7_joint_199 : decode cX7_joint 199 = .ok (.aload_n 0, 1) := by decide +kernel
theorem dX7_joint_200 : decode cX7_joint 200 = .ok (.getfield 33, 3) := by decide +kernel
theorem dX7_joint_203 : decode cX7_joint 203 = .ok (.getfield 168, 3) := by decide +kernel
theorem dX7_joint_206 : decode cX7_joint 206 = .ok (.iload_n 1, 1) := by decide +kernel
theorem dX7_joint_207 : decode cX7_joint 207 = .ok (.iconst 3, 1) := by decide +kernel
theorem dX7_joint_208 : decode cX7_joint 208 = .ok (.imul, 1) := by decide +kernel
theorem dX7_joint_209 : decode cX7_joint 209 = .ok (.iload_n 2, 1) := by decide +kernel
theorem dX7_joint_210 : decode cX7_joint 210 = .ok (.iadd, 1) := by decide +kernel
theorem dX7_joint_211 : decode cX7_joint 211 = .ok (.iconst 1, 1) := by decide +kernel
theorem dX7_joint_212 : decode cX7_joint 212 = .ok (.isub, 1) := by decide +kernel
theorem dX7_joint_213 : decode cX7_joint 213 = .ok (.iaload, 1) := by decide +kernel
theorem dX7_joint_214 : decode cX7_joint 214 = .ok (.ldc 171, 2) := by decide +kernel
theorem dX7_joint_216 : decode cX7_joint 216 = .ok (.iadd, 1) := by decide +kernel
theorem dX7_joint_217 : decode cX7_joint 217 = .ok (.ireturn, 1) := by decide +kernel
theorem dX7_exact_0 : decode cX7_exact 0 = .ok (.aload_n 0, 1) := by decide +kernel
theorem dX7_exact_1 : decode cX7_exact 1 = .ok (.getfield 54, 3) := by decide +kernel
theorem dX7_exact_4 : decode cX7_exact 4 = .ok (.iload_n 1, 1) := by decide +kernel
theorem dX7_exact_5 : decode cX7_exact 5 = .ok (.invokevirtual 110, 3) := by decide +kernel
theorem dX7_exact_8 : decode cX7_exact 8 = .ok (.ifCond .eq 19, 3) := by decide +kernel
theorem dX7_exact_11 : decode cX7_exact 11 = .ok (.iload_n 2, 1) := by decide +kernel
theorem dX7_exact_12 : decode cX7_exact 12 = .ok (.invokestatic 122, 3) := by decide +kernel
theorem dX7_exact_15 : decode cX7_exact 15 = .ok (.ifCond .eq 12, 3) := by decide +kernel
theorem dX7_exact_18 : decode cX7_exact 18 = .ok (.iload_n 3, 1) := by decide +kernel
theorem dX7_exact_19 : decode cX7_exact 19 = .ok (.iconst 0, 1) := by decide +kernel
theorem dX7_exact_20 : decode cX7_exact 20 = .ok (.iconst 1, 1) := by decide +kernel
theorem dX7_exact_21 : decode cX7_exact 21 = .ok (.invokestatic 85, 3) := by decide +kernel
theorem dX7_exact_24 : decode cX7_exact 24 = .ok (.ifCond .ne 6, 3) := by decide +kernel
theorem dX7_exact_27 : decode cX7_exact 27 = .ok (.ldc 172, 2) := by decide +kernel
theorem dX7_exact_29 : decode cX7_exact 29 = .ok (.ireturn, 1) := by decide +kernel
theorem dX7_exact_30 : decode cX7_exact 30 = .ok (.aload_n 0, 1) := by decide +kernel
theorem dX7_exact_31 : decode cX7_exact 31 = .ok (.getfield 33, 3) := by decide +kernel
theorem dX7_exact_34 : decode cX7_exact 34 = .ok (.aload_n 0, 1) := by decide +kernel
theorem dX7_exact_35 : decode cX7_exact 35 = .ok (.getfield 54, 3) := by decide +kernel
theorem dX7_exact_38 : decode cX7_exact 38 = .ok (.invokevirtual 144, 3) := by decide +kernel
theorem dX7_exact_41 : decode cX7_exact 41 = .ok (.ifCond .ne 6, 3) := by decide +kernel
theorem dX7_exact_44 : decode cX7_exact 44 = .ok (.ldc 173, 2) := by decide +kernel
theorem dX7_exact_46 : decode cX7_exact 46 = .ok (.ireturn, 1) := by decide +kernel
theorem dX7_exact_47 : decode cX7_exact 47 = .ok (.aload_n 0, 1) := by decide +kernel
theorem dX7_exact_48 : decode cX7_exact 48 = .ok (.getfield 33, 3) := by decide +kernel
theorem dX7_exact_51 : decode cX7_exact 51 = .ok (.aload_n 0, 1) := by decide +kernel
theorem dX7_exact_52 : decode cX7_exact 52 = .ok (.getfield 54, 3) := by decide +kernel
theorem dX7_exact_55 : decode cX7_exact 55 = .ok (.iload_n 1, 1) := by decide +kernel
theorem dX7_exact_56 : decode cX7_exact 56 = .ok (.iload_n 2, 1) := by decide +kernel
theorem dX7_exact_57 : decode cX7_exact 57 = .ok (.invokevirtual 174, 3) := by decide +kernel
theorem dX7_exact_60 : decode cX7_exact 60 = .ok (.lstore 4, 2) := by decide +kernel
theorem dX7_exact_62 : decode cX7_exact 62 = .ok (.aload_n 0, 1) := by decide +kernel
theorem dX7_exact_63 : decode cX7_exact 63 = .ok (.getfield 33, 3) := by decide +kernel
theorem dX7_exact_66 : decode cX7_exact 66 = .ok (.getfield 178, 3) := by decide +kernel
theorem dX7_exact_69 : decode cX7_exact 69 = .ok (.lstore 6, 2) := by decide +kernel
theorem dX7_exact_71 : decode cX7_exact 71 = .ok (.lload 4, 2) := by decide +kernel
theorem dX7_exact_73 : decode cX7_exact 73 = .ok (.invokestatic 182, 3) := by decide +kernel
theorem dX7_exact_76 : decode cX7_exact 76 = .ok (.lload 6, 2) := by decide +kernel
theorem dX7_exact_78 : decode cX7_exact 78 = .ok (.invokestatic 188, 3) := by decide +kernel
theorem dX7_exact_81 : decode cX7_exact 81 = .ok (.lstore 8, 2) := by decide +kernel
theorem dX7_exact_83 : decode cX7_exact 83 = .ok (.iload_n 3, 1) := by decide +kernel
theorem dX7_exact_84 : decode cX7_exact 84 = .ok (.ifCond .ne 8, 3) := by decide +kernel
theorem dX7_exact_87 : decode cX7_exact 87 = .ok (.lload 4, 2) := by decide +kernel
theorem dX7_exact_89 : decode cX7_exact 89 = .ok (.goto 5, 3) := by decide +kernel
theorem dX7_exact_92 : decode cX7_exact 92 = .ok (.lload 6, 2) := by decide +kernel
theorem dX7_exact_94 : decode cX7_exact 94 = .ok (.lload 8, 2) := by decide +kernel
theorem dX7_exact_96 : decode cX7_exact 96 = .ok (.ldiv, 1) := by decide +kernel
theorem dX7_exact_97 : decode cX7_exact 97 = .ok (.l2i, 1) := by decide +kernel
theorem dX7_exact_98 : decode cX7_exact 98 = .ok (.ireturn, 1) := by decide +kernel
theorem dX7_bears_0 : decode cX7_bears 0 = .ok (.aload_n 0, 1) := by decide +kernel
theorem dX7_bears_1 : decode cX7_bears 1 = .ok (.iload_n 1, 1) := by decide +kernel
theorem dX7_bears_2 : decode cX7_bears 2 = .ok (.invokevirtual 119, 3) := by decide +kernel
theorem dX7_bears_5 : decode cX7_bears 5 = .ok (.ifCond .eq 10, 3) := by decide +kernel
theorem dX7_bears_8 : decode cX7_bears 8 = .ok (.iload_n 2, 1) := by decide +kernel
theorem dX7_bears_9 : decode cX7_bears 9 = .ok (.invokestatic 122, 3) := by decide +kernel
theorem dX7_bears_12 : decode cX7_bears 12 = .ok (.ifCond .ne 5, 3) := by decide +kernel
theorem dX7_bears_15 : decode cX7_bears 15 = .ok (.iconst (-1), 1) := by decide +kernel
theorem dX7_bears_16 : decode cX7_bears 16 = .ok (.ireturn, 1) := by decide +kernel
theorem dX7_bears_17 : decode cX7_bears 17 = .ok (.aload_n 0, 1) := by decide +kernel
theorem dX7_bears_18 : decode cX7_bears 18 = .ok (.getfield 33, 3) := by decide +kernel
theorem dX7_bears_21 : decode cX7_bears 21 = .ok (.aload_n 0, 1) := by decide +kernel
theorem dX7_bears_22 : decode cX7_bears 22 = .ok (.getfield 54, 3) := by decide +kernel
theorem dX7_bears_25 : decode cX7_bears 25 = .ok (.invokevirtual 144, 3) := by decide +kernel
theorem dX7_bears_28 : decode cX7_bears 28 = .ok (.ifCond .ne 6, 3) := by decide +kernel
theorem dX7_bears_31 : decode cX7_bears 31 = .ok (.bipush (-2), 2) := by decide +kernel
theorem dX7_bears_33 : decode cX7_bears 33 = .ok (.ireturn, 1) := by decide +kernel
theorem dX7_bears_34 : decode cX7_bears 34 = .ok (.aload_n 0, 1) := by decide +kernel
theorem dX7_bears_35 : decode cX7_bears 35 = .ok (.getfield 33, 3) := by decide +kernel
theorem dX7_bears_38 : decode cX7_bears 38 = .ok (.aload_n 0, 1) := by decide +kernel
theorem dX7_bears_39 : decode cX7_bears 39 = .ok (.getfield 54, 3) := by decide +kernel
theorem dX7_bears_42 : decode cX7_bears 42 = .ok (.iload_n 1, 1) := by decide +kernel
theorem dX7_bears_43 : decode cX7_bears 43 = .ok (.iload_n 2, 1) := by decide +kernel
theorem dX7_bears_44 : decode cX7_bears 44 = .ok (.invokevirtual 192, 3) := by decide +kernel
theorem dX7_bears_47 : decode cX7_bears 47 = .ok (.ldc 171, 2) := by decide +kernel
theorem dX7_bears_49 : decode cX7_bears 49 = .ok (.iadd, 1) := by decide +kernel
theorem dX7_bears_50 : decode cX7_bears 50 = .ok (.ireturn, 1) := by decide +kernel
theorem dX7_strand_0 : decode cX7_strand 0 = .ok (.aload_n 0, 1) := by decide +kernel
theorem dX7_strand_1 : decode cX7_strand 1 = .ok (.getfield 54, 3) := by decide +kernel
theorem dX7_strand_4 : decode cX7_strand 4 = .ok (.iload_n 1, 1) := by decide +kernel
theorem dX7_strand_5 : decode cX7_strand 5 = .ok (.invokevirtual 95, 3) := by decide +kernel
theorem dX7_strand_8 : decode cX7_strand 8 = .ok (.ifCond .eq 13, 3) := by decide +kernel
theorem dX7_strand_11 : decode cX7_strand 11 = .ok (.iload_n 2, 1) := by decide +kernel
theorem dX7_strand_12 : decode cX7_strand 12 = .ok (.iconst 0, 1) := by decide +kernel
theorem dX7_strand_13 : decode cX7_strand 13 = .ok (.bipush 8, 2) := by decide +kernel
theorem dX7_strand_15 : decode cX7_strand 15 = .ok (.invokestatic 85, 3) := by decide +kernel
theorem dX7_strand_18 : decode cX7_strand 18 = .ok (.ifCond .ne 5, 3) := by decide +kernel
theorem dX7_strand_21 : decode cX7_strand 21 = .ok (.iconst (-1), 1) := by decide +kernel
theorem dX7_strand_22 : decode cX7_strand 22 = .ok (.ireturn, 1) := by decide +kernel
theorem dX7_strand_23 : decode cX7_strand 23 = .ok (.iload_n 2, 1) := by decide +kernel
theorem dX7_strand_24 : decode cX7_strand 24 = .ok (.iconst 5, 1) := by decide +kernel
theorem dX7_strand_25 : decode cX7_strand 25 = .ok (.if_icmp .lt 10, 3) := by decide +kernel
theorem dX7_strand_28 : decode cX7_strand 28 = .ok (.aload_n 0, 1) := by decide +kernel
theorem dX7_strand_29 : decode cX7_strand 29 = .ok (.iload_n 1, 1) := by decide +kernel
theorem dX7_strand_30 : decode cX7_strand 30 = .ok (.iload_n 2, 1) := by decide +kernel
theorem dX7_strand_31 : decode cX7_strand 31 = .ok (.invokevirtual 196, 3) := by decide +kernel
theorem dX7_strand_34 : decode cX7_strand 34 = .ok (.ireturn, 1) := by decide +kernel
theorem dX7_strand_35 : decode cX7_strand 35 = .ok (.iload_n 2, 1) := by decide +kernel
theorem dX7_strand_36 : decode cX7_strand 36 = .ok (.tableswitch 72 0 3 #[32, 42, 52, 62], 32) := by decide +kernel
theorem dX7_strand_68 : decode cX7_strand 68 = .ok (.aload_n 0, 1) := by decide +kernel
theorem dX7_strand_69 : decode cX7_strand 69 = .ok (.getfield 54, 3) := by decide +kernel
theorem dX7_strand_72 : decode cX7_strand 72 = .ok (.getfield 200, 3) := by decide +kernel
theorem dX7_strand_75 : decode cX7_strand 75 = .ok (.iload_n 1, 1) := by decide +kernel
theorem dX7_strand_76 : decode cX7_strand 76 = .ok (.iaload, 1) := by decide +kernel
theorem dX7_strand_77 : decode cX7_strand 77 = .ok (.ireturn, 1) := by decide +kernel
theorem dX7_strand_78 : decode cX7_strand 78 = .ok (.aload_n 0, 1) := by decide +kernel
theorem dX7_strand_79 : decode cX7_strand 79 = .ok (.getfield 54, 3) := by decide +kernel
theorem dX7_strand_82 : decode cX7_strand 82 = .ok (.getfield 203, 3) := by decide +kernel
theorem dX7_strand_85 : decode cX7_strand 85 = .ok (.iload_n 1, 1) := by decide +kernel
theorem dX7_strand_86 : decode cX7_strand 86 = .ok (.iaload, 1) := by decide +kernel
theorem dX7_strand_87 : decode cX7_strand 87 = .ok (.ireturn, 1) := by decide +kernel
theorem dX7_strand_88 : decode cX7_strand 88 = .ok (.aload_n 0, 1) := by decide +kernel
theorem dX7_strand_89 : decode cX7_strand 89 = .ok (.getfield 54, 3) := by decide +kernel
theorem dX7_strand_92 : decode cX7_strand 92 = .ok (.getfield 99, 3) := by decide +kernel
theorem dX7_strand_95 : decode cX7_strand 95 = .ok (.iload_n 1, 1) := by decide +kernel
theorem dX7_strand_96 : decode cX7_strand 96 = .ok (.iaload, 1) := by decide +kernel
theorem dX7_strand_97 : decode cX7_strand 97 = .ok (.ireturn, 1) := by decide +kernel
theorem dX7_strand_98 : decode cX7_strand 98 = .ok (.aload_n 0, 1) := by decide +kernel
theorem dX7_strand_99 : decode cX7_strand 99 = .ok (.getfield 54, 3) := by decide +kernel
theorem dX7_strand_102 : decode cX7_strand 102 = .ok (.getfield 107, 3) := by decide +kernel
theorem dX7_strand_105 : decode cX7_strand 105 = .ok (.iload_n 1, 1) := by decide +kernel
theorem dX7_strand_106 : decode cX7_strand 106 = .ok (.iaload, 1) := by decide +kernel
theorem dX7_strand_107 : decode cX7_strand 107 = .ok (.ireturn, 1) := by decide +kernel
theorem dX7_strand_108 : decode cX7_strand 108 = .ok (.aload_n 0, 1) := by decide +kernel
theorem dX7_strand_109 : decode cX7_strand 109 = .ok (.getfield 54, 3) := by decide +kernel
theorem dX7_strand_112 : decode cX7_strand 112 = .ok (.iload_n 1, 1) := by decide +kernel
theorem dX7_strand_113 : decode cX7_strand 113 = .ok (.invokevirtual 128, 3) := by decide +kernel
theorem dX7_strand_116 : decode cX7_strand 116 = .ok (.ifCond .eq 7, 3) := by decide +kernel
theorem dX7_strand_119 : decode cX7_strand 119 = .ok (.iconst 0, 1) := by decide +kernel
theorem dX7_strand_120 : decode cX7_strand 120 = .ok (.goto 4, 3) := by decide +kernel
theorem dX7_strand_123 : decode cX7_strand 123 = .ok (.iconst 1, 1) := by decide +kernel
theorem dX7_strand_124 : decode cX7_strand 124 = .ok (.ireturn, 1) := by decide +kernel
theorem dX7_hangingStrand_0 : decode cX7_hangingStrand 0 = .ok (.aload_n 0, 1) := by decide +kernel
theorem dX7_hangingStrand_1 : decode cX7_hangingStrand 1 = .ok (.getfield 33, 3) := by decide +kernel
theorem dX7_hangingStrand_4 : decode cX7_hangingStrand 4 = .ok (.aload_n 0, 1) := by decide +kernel
theorem dX7_hangingStrand_5 : decode cX7_hangingStrand 5 = .ok (.getfield 54, 3) := by decide +kernel
theorem dX7_hangingStrand_8 : decode cX7_hangingStrand 8 = .ok (.invokevirtual 144, 3) := by decide +kernel
theorem dX7_hangingStrand_11 : decode cX7_hangingStrand 11 = .ok (.ifCond .ne 6, 3) := by decide +kernel
theorem dX7_hangingStrand_14 : decode cX7_hangingStrand 14 = .ok (.bipush (-2), 2) := by decide +kernel
theorem dX7_hangingStrand_16 : decode cX7_hangingStrand 16 = .ok (.ireturn, 1) := by decide +kernel
theorem dX7_hangingStrand_17 : decode cX7_hangingStrand 17 = .ok (.aload_n 0, 1) := by decide +kernel
theorem dX7_hangingStrand_18 : decode cX7_hangingStrand 18 = .ok (.getfield 54, 3) := by decide +kernel
theorem dX7_hangingStrand_21 : decode cX7_hangingStrand 21 = .ok (.iload_n 1, 1) := by decide +kernel
theorem dX7_hangingStrand_22 : decode cX7_hangingStrand 22 = .ok (.invokevirtual 128, 3) := by decide +kernel
theorem dX7_hangingStrand_25 : decode cX7_hangingStrand 25 = .ok (.ifCond .eq 21, 3) := by decide +kernel
theorem dX7_hangingStrand_28 : decode cX7_hangingStrand 28 = .ok (.iload_n 2, 1) := by decide +kernel
theorem dX7_hangingStrand_29 : decode cX7_hangingStrand 29 = .ok (.bipush 7, 2) := by decide +kernel
theorem dX7_hangingStrand_31 : decode cX7_hangingStrand 31 = .ok (.if_icmp .ne 18, 3) := by decide +kernel
theorem dX7_hangingStrand_34 : decode cX7_hangingStrand 34 = .ok (.aload_n 0, 1) := by decide +kernel
theorem dX7_hangingStrand_35 : decode cX7_hangingStrand 35 = .ok (.getfield 54, 3) := by decide +kernel
theorem dX7_hangingStrand_38 : decode cX7_hangingStrand 38 = .ok (.getfield 107, 3) := by decide +kernel
theorem dX7_hangingStrand_41 : decode cX7_hangingStrand 41 = .ok (.iload_n 1, 1) := by decide +kernel
theorem dX7_hangingStrand_42 : decode cX7_hangingStrand 42 = .ok (.iaload, 1) := by decide +kernel
theorem dX7_hangingStrand_43 : decode cX7_hangingStrand 43 = .ok (.ifCond .ne 6, 3) := by decide +kernel
theorem dX7_hangingStrand_46 : decode cX7_hangingStrand 46 = .ok (.bipush (-4), 2) := by decide +kernel
theorem dX7_hangingStrand_48 : decode cX7_hangingStrand 48 = .ok (.ireturn, 1) := by decide +kernel
theorem dX7_hangingStrand_49 : decode cX7_hangingStrand 49 = .ok (.iload_n 2, 1) := by decide +kernel
theorem dX7_hangingStrand_50 : decode cX7_hangingStrand 50 = .ok (.tableswitch 62 5 7 #[26, 36, 49], 26) := by decide +kernel
theorem dX7_hangingStrand_76 : decode cX7_hangingStrand 76 = .ok (.aload_n 0, 1) := by decide +kernel
theorem dX7_hangingStrand_77 : decode cX7_hangingStrand 77 = .ok (.getfield 33, 3) := by decide +kernel
theorem dX7_hangingStrand_80 : decode cX7_hangingStrand 80 = .ok (.getfield 148, 3) := by decide +kernel
theorem dX7_hangingStrand_83 : decode cX7_hangingStrand 83 = .ok (.iload_n 1, 1) := by decide +kernel
theorem dX7_hangingStrand_84 : decode cX7_hangingStrand 84 = .ok (.iaload, 1) := by decide +kernel
theorem dX7_hangingStrand_85 : decode cX7_hangingStrand 85 = .ok (.ireturn, 1) := by decide +kernel
theorem dX7_hangingStrand_86 : decode cX7_hangingStrand 86 = .ok (.aload_n 0, 1) := by decide +kernel
theorem dX7_hangingStrand_87 : decode cX7_hangingStrand 87 = .ok (.getfield 33, 3) := by decide +kernel
theorem dX7_hangingStrand_90 : decode cX7_hangingStrand 90 = .ok (.aload_n 0, 1) := by decide +kernel
theorem dX7_hangingStrand_91 : decode cX7_hangingStrand 91 = .ok (.getfield 54, 3) := by decide +kernel
theorem dX7_hangingStrand_94 : decode cX7_hangingStrand 94 = .ok (.iload_n 1, 1) := by decide +kernel
theorem dX7_hangingStrand_95 : decode cX7_hangingStrand 95 = .ok (.invokevirtual 206, 3) := by decide +kernel
theorem dX7_hangingStrand_98 : decode cX7_hangingStrand 98 = .ok (.ireturn, 1) := by decide +kernel
theorem dX7_hangingStrand_99 : decode cX7_hangingStrand 99 = .ok (.aload_n 0, 1) := by decide +kernel
theorem dX7_hangingStrand_100 : decode cX7_hangingStrand 100 = .ok (.getfield 33, 3) := by decide +kernel
theorem dX7_hangingStrand_103 : decode cX7_hangingStrand 103 = .ok (.aload_n 0, 1) := by decide +kernel
theorem dX7_hangingStrand_104 : decode cX7_hangingStrand 104 = .ok (.getfield 54, 3) := by decide +kernel
theorem dX7_hangingStrand_107 : decode cX7_hangingStrand 107 = .ok (.iload_n 1, 1) := by decide +kernel
theorem dX7_hangingStrand_108 : decode cX7_hangingStrand 108 = .ok (.invokevirtual 210, 3) := by decide +kernel
theorem dX7_hangingStrand_111 : decode cX7_hangingStrand 111 = .ok (.ireturn, 1) := by decide +kernel
theorem dX7_hangingStrand_112 : decode cX7_hangingStrand 112 = .ok (.aload_n 0, 1) := by decide +kernel
theorem dX7_hangingStrand_113 : decode cX7_hangingStrand 113 = .ok (.getfield 54, 3) := by decide +kernel
theorem dX7_hangingStrand_116 : decode cX7_hangingStrand 116 = .ok (.iload_n 1, 1) := by decide +kernel
theorem dX7_hangingStrand_117 : decode cX7_hangingStrand 117 = .ok (.invokevirtual 213, 3) := by decide +kernel
theorem dX7_hangingStrand_120 : decode cX7_hangingStrand 120 = .ok (.ifCond .eq 7, 3) := by decide +kernel
theorem dX7_hangingStrand_123 : decode cX7_hangingStrand 123 = .ok (.iconst 1, 1) := by decide +kernel
theorem dX7_hangingStrand_124 : decode cX7_hangingStrand 124 = .ok (.goto 4, 3) := by decide +kernel
theorem dX7_hangingStrand_127 : decode cX7_hangingStrand 127 = .ok (.iconst 0, 1) := by decide +kernel
theorem dX7_hangingStrand_128 : decode cX7_hangingStrand 128 = .ok (.ireturn, 1) := by decide +kernel
theorem dX7_slack_0 : decode cX7_slack 0 = .ok (.aload_n 0, 1) := by decide +kernel
theorem dX7_slack_1 : decode cX7_slack 1 = .ok (.getfield 33, 3) := by decide +kernel
theorem dX7_slack_4 : decode cX7_slack 4 = .ok (.aload_n 0, 1) := by decide +kernel
theorem dX7_slack_5 : decode cX7_slack 5 = .ok (.getfield 54, 3) := by decide +kernel
theorem dX7_slack_8 : decode cX7_slack 8 = .ok (.invokevirtual 144, 3) := by decide +kernel
theorem dX7_slack_11 : decode cX7_slack 11 = .ok (.ifCond .eq 17, 3) := by decide +kernel
theorem dX7_slack_14 : decode cX7_slack 14 = .ok (.aload_n 0, 1) := by decide +kernel
theorem dX7_slack_15 : decode cX7_slack 15 = .ok (.getfield 33, 3) := by decide +kernel
theorem dX7_slack_18 : decode cX7_slack 18 = .ok (.aload_n 0, 1) := by decide +kernel
theorem dX7_slack_19 : decode cX7_slack 19 = .ok (.getfield 54, 3) := by decide +kernel
theorem dX7_slack_22 : decode cX7_slack 22 = .ok (.invokevirtual 216, 3) := by decide +kernel
theorem dX7_slack_25 : decode cX7_slack 25 = .ok (.goto 5, 3) := by decide +kernel
theorem dX7_slack_28 : decode cX7_slack 28 = .ok (.bipush (-2), 2) := by decide +kernel
theorem dX7_slack_30 : decode cX7_slack 30 = .ok (.ireturn, 1) := by decide +kernel
theorem dX7_miss_0 : decode cX7_miss 0 = .ok (.aload_n 0, 1) := by decide +kernel
theorem dX7_miss_1 : decode cX7_miss 1 = .ok (.getfield 33, 3) := by decide +kernel
theorem dX7_miss_4 : decode cX7_miss 4 = .ok (.aload_n 0, 1) := by decide +kernel
theorem dX7_miss_5 : decode cX7_miss 5 = .ok (.getfield 54, 3) := by decide +kernel
theorem dX7_miss_8 : decode cX7_miss 8 = .ok (.invokevirtual 144, 3) := by decide +kernel
theorem dX7_miss_11 : decode cX7_miss 11 = .ok (.ifCond .eq 17, 3) := by decide +kernel
theorem dX7_miss_14 : decode cX7_miss 14 = .ok (.aload_n 0, 1) := by decide +kernel
theorem dX7_miss_15 : decode cX7_miss 15 = .ok (.getfield 33, 3) := by decide +kernel
theorem dX7_miss_18 : decode cX7_miss 18 = .ok (.aload_n 0, 1) := by decide +kernel
theorem dX7_miss_19 : decode cX7_miss 19 = .ok (.getfield 54, 3) := by decide +kernel
theorem dX7_miss_22 : decode cX7_miss 22 = .ok (.invokevirtual 220, 3) := by decide +kernel
theorem dX7_miss_25 : decode cX7_miss 25 = .ok (.goto 5, 3) := by decide +kernel
theorem dX7_miss_28 : decode cX7_miss 28 = .ok (.bipush (-2), 2) := by decide +kernel
theorem dX7_miss_30 : decode cX7_miss 30 = .ok (.ireturn, 1) := by decide +kernel
theorem dX7_settle_0 : decode cX7_settle 0 = .ok (.iload_n 1, 1) := by decide +kernel
theorem dX7_settle_1 : decode cX7_settle 1 = .ok (.iconst 0, 1) := by decide +kernel
theorem dX7_settle_2 : decode cX7_settle 2 = .ok (.iconst 1, 1) := by decide +kernel
theorem dX7_settle_3 : decode cX7_settle 3 = .ok (.invokestatic 85, 3) := by decide +kernel
theorem dX7_settle_6 : decode cX7_settle 6 = .ok (.ifCond .ne 5, 3) := by decide +kernel
theorem dX7_settle_9 : decode cX7_settle 9 = .ok (.iconst (-1), 1) := by decide +kernel
theorem dX7_settle_10 : decode cX7_settle 10 = .ok (.ireturn, 1) := by decide +kernel
theorem dX7_settle_11 : decode cX7_settle 11 = .ok (.aload_n 0, 1) := by decide +kernel
theorem dX7_settle_12 : decode cX7_settle 12 = .ok (.getfield 54, 3) := by decide +kernel
theorem dX7_settle_15 : decode cX7_settle 15 = .ok (.invokevirtual 140, 3) := by decide +kernel
theorem dX7_settle_18 : decode cX7_settle 18 = .ok (.ifCond .ne 6, 3) := by decide +kernel
theorem dX7_settle_21 : decode cX7_settle 21 = .ok (.bipush (-2), 2) := by decide +kernel
theorem dX7_settle_23 : decode cX7_settle 23 = .ok (.ireturn, 1) := by decide +kernel
theorem dX7_settle_24 : decode cX7_settle 24 = .ok (.aload_n 0, 1) := by decide +kernel
theorem dX7_settle_25 : decode cX7_settle 25 = .ok (.getfield 40, 3) := by decide +kernel
theorem dX7_settle_28 : decode cX7_settle 28 = .ok (.aload_n 0, 1) := by decide +kernel
theorem dX7_settle_29 : decode cX7_settle 29 = .ok (.getfield 54, 3) := by decide +kernel
theorem dX7_settle_32 : decode cX7_settle 32 = .ok (.invokevirtual 223, 3) := by decide +kernel
theorem dX7_settle_35 : decode cX7_settle 35 = .ok (.ifCond .ne 6, 3) := by decide +kernel
theorem dX7_settle_38 : decode cX7_settle 38 = .ok (.bipush (-4), 2) := by decide +kernel
theorem dX7_settle_40 : decode cX7_settle 40 = .ok (.ireturn, 1) := by decide +kernel
theorem dX7_settle_41 : decode cX7_settle 41 = .ok (.iload_n 1, 1) := by decide +kernel
theorem dX7_settle_42 : decode cX7_settle 42 = .ok (.ifCond .ne 13, 3) := by decide +kernel
theorem dX7_settle_45 : decode cX7_settle 45 = .ok (.aload_n 0, 1) := by decide +kernel
theorem dX7_settle_46 : decode cX7_settle 46 = .ok (.getfield 40, 3) := by decide +kernel
theorem dX7_settle_49 : decode cX7_settle 49 = .ok (.getfield 226, 3) := by decide +kernel
theorem dX7_settle_52 : decode cX7_settle 52 = .ok (.goto 10, 3) := by decide +kernel
theorem dX7_settle_55 : decode cX7_settle 55 = .ok (.aload_n 0, 1) := by decide +kernel
theorem dX7_settle_56 : decode cX7_settle 56 = .ok (.getfield 40, 3) := by decide +kernel
theorem dX7_settle_59 : decode cX7_settle 59 = .ok (.getfield 229, 3) := by decide +kernel
theorem dX7_settle_62 : decode cX7_settle 62 = .ok (.ireturn, 1) := by decide +kernel
theorem dX7_better_0 : decode cX7_better 0 = .ok (.iload_n 1, 1) := by decide +kernel
theorem dX7_better_1 : decode cX7_better 1 = .ok (.iconst 0, 1) := by decide +kernel
theorem dX7_better_2 : decode cX7_better 2 = .ok (.iconst 1, 1) := by decide +kernel
theorem dX7_better_3 : decode cX7_better 3 = .ok (.invokestatic 85, 3) := by decide +kernel
theorem dX7_better_6 : decode cX7_better 6 = .ok (.ifCond .ne 5, 3) := by decide +kernel
theorem dX7_better_9 : decode cX7_better 9 = .ok (.iconst (-1), 1) := by decide +kernel
theorem dX7_better_10 : decode cX7_better 10 = .ok (.ireturn, 1) := by decide +kernel
theorem dX7_better_11 : decode cX7_better 11 = .ok (.aload_n 0, 1) := by decide +kernel
theorem dX7_better_12 : decode cX7_better 12 = .ok (.getfield 54, 3) := by decide +kernel
theorem dX7_better_15 : decode cX7_better 15 = .ok (.invokevirtual 140, 3) := by decide +kernel
theorem dX7_better_18 : decode cX7_better 18 = .ok (.ifCond .ne 6, 3) := by decide +kernel
theorem dX7_better_21 : decode cX7_better 21 = .ok (.bipush (-2), 2) := by decide +kernel
theorem dX7_better_23 : decode cX7_better 23 = .ok (.ireturn, 1) := by decide +kernel
theorem dX7_better_24 : decode cX7_better 24 = .ok (.aload_n 0, 1) := by decide +kernel
theorem dX7_better_25 : decode cX7_better 25 = .ok (.getfield 40, 3) := by decide +kernel
theorem dX7_better_28 : decode cX7_better 28 = .ok (.aload_n 0, 1) := by decide +kernel
theorem dX7_better_29 : decode cX7_better 29 = .ok (.getfield 54, 3) := by decide +kernel
theorem dX7_better_32 : decode cX7_better 32 = .ok (.invokevirtual 231, 3) := by decide +kernel
theorem dX7_better_35 : decode cX7_better 35 = .ok (.ifCond .ne 6, 3) := by decide +kernel
theorem dX7_better_38 : decode cX7_better 38 = .ok (.bipush (-4), 2) := by decide +kernel
theorem dX7_better_40 : decode cX7_better 40 = .ok (.ireturn, 1) := by decide +kernel
theorem dX7_better_41 : decode cX7_better 41 = .ok (.iload_n 1, 1) := by decide +kernel
theorem dX7_better_42 : decode cX7_better 42 = .ok (.ifCond .ne 13, 3) := by decide +kernel
theorem dX7_better_45 : decode cX7_better 45 = .ok (.aload_n 0, 1) := by decide +kernel
theorem dX7_better_46 : decode cX7_better 46 = .ok (.getfield 40, 3) := by decide +kernel
theorem dX7_better_49 : decode cX7_better 49 = .ok (.getfield 226, 3) := by decide +kernel
theorem dX7_better_52 : decode cX7_better 52 = .ok (.goto 10, 3) := by decide +kernel
theorem dX7_better_55 : decode cX7_better 55 = .ok (.aload_n 0, 1) := by decide +kernel
theorem dX7_better_56 : decode cX7_better 56 = .ok (.getfield 40, 3) := by decide +kernel
theorem dX7_better_59 : decode cX7_better 59 = .ok (.getfield 229, 3) := by decide +kernel
theorem dX7_better_62 : decode cX7_better 62 = .ok (.ireturn, 1) := by decide +kernel
theorem dX7_greatest_0 : decode cX7_greatest 0 = .ok (.iload_n 1, 1) := by decide +kernel
theorem dX7_greatest_1 : decode cX7_greatest 1 = .ok (.iconst 0, 1) := by decide +kernel
theorem dX7_greatest_2 : decode cX7_greatest 2 = .ok (.iconst 1, 1) := by decide +kernel
theorem dX7_greatest_3 : decode cX7_greatest 3 = .ok (.invokestatic 85, 3) := by decide +kernel
theorem dX7_greatest_6 : decode cX7_greatest 6 = .ok (.ifCond .ne 5, 3) := by decide +kernel
theorem dX7_greatest_9 : decode cX7_greatest 9 = .ok (.iconst (-1), 1) := by decide +kernel
theorem dX7_greatest_10 : decode cX7_greatest 10 = .ok (.ireturn, 1) := by decide +kernel
theorem dX7_greatest_11 : decode cX7_greatest 11 = .ok (.aload_n 0, 1) := by decide +kernel
theorem dX7_greatest_12 : decode cX7_greatest 12 = .ok (.getfield 33, 3) := by decide +kernel
theorem dX7_greatest_15 : decode cX7_greatest 15 = .ok (.aload_n 0, 1) := by decide +kernel
theorem dX7_greatest_16 : decode cX7_greatest 16 = .ok (.getfield 54, 3) := by decide +kernel
theorem dX7_greatest_19 : decode cX7_greatest 19 = .ok (.invokevirtual 144, 3) := by decide +kernel
theorem dX7_greatest_22 : decode cX7_greatest 22 = .ok (.ifCond .ne 6, 3) := by decide +kernel
theorem dX7_greatest_25 : decode cX7_greatest 25 = .ok (.bipush (-2), 2) := by decide +kernel
theorem dX7_greatest_27 : decode cX7_greatest 27 = .ok (.ireturn, 1) := by decide +kernel
theorem dX7_greatest_28 : decode cX7_greatest 28 = .ok (.bipush (-4), 2) := by decide +kernel
theorem dX7_greatest_30 : decode cX7_greatest 30 = .ok (.istore_n 2, 1) := by decide +kernel
theorem dX7_greatest_31 : decode cX7_greatest 31 = .ok (.iconst (-1), 1) := by decide +kernel
theorem dX7_greatest_32 : decode cX7_greatest 32 = .ok (.istore_n 3, 1) := by decide +kernel
theorem dX7_greatest_33 : decode cX7_greatest 33 = .ok (.iconst 0, 1) := by decide +kernel
theorem dX7_greatest_34 : decode cX7_greatest 34 = .ok (.istore 4, 2) := by decide +kernel
theorem dX7_greatest_36 : decode cX7_greatest 36 = .ok (.iload 4, 2) := by decide +kernel
theorem dX7_greatest_38 : decode cX7_greatest 38 = .ok (.aload_n 0, 1) := by decide +kernel
theorem dX7_greatest_39 : decode cX7_greatest 39 = .ok (.getfield 54, 3) := by decide +kernel
theorem dX7_greatest_42 : decode cX7_greatest 42 = .ok (.getfield 234, 3) := by decide +kernel
theorem dX7_greatest_45 : decode cX7_greatest 45 = .ok (.if_icmp .ge 65, 3) := by decide +kernel
theorem dX7_greatest_48 : decode cX7_greatest 48 = .ok (.iload_n 1, 1) := by decide +kernel
theorem dX7_greatest_49 : decode cX7_greatest 49 = .ok (.ifCond .ne 16, 3) := by decide +kernel
theorem dX7_greatest_52 : decode cX7_greatest 52 = .ok (.aload_n 0, 1) := by decide +kernel
theorem dX7_greatest_53 : decode cX7_greatest 53 = .ok (.getfield 33, 3) := by decide +kernel
theorem dX7_greatest_56 : decode cX7_greatest 56 = .ok (.getfield 148, 3) := by decide +kernel
theorem dX7_greatest_59 : decode cX7_greatest 59 = .ok (.iload 4, 2) := by decide +kernel
theorem dX7_greatest_61 : decode cX7_greatest 61 = .ok (.iaload, 1) := by decide +kernel
theorem dX7_greatest_62 : decode cX7_greatest 62 = .ok (.goto 16, 3) := by decide +kernel
theorem dX7_greatest_65 : decode cX7_greatest 65 = .ok (.aload_n 0, 1) := by decide +kernel
theorem dX7_greatest_66 : decode cX7_greatest 66 = .ok (.getfield 33, 3) := by decide +kernel
theorem dX7_greatest_69 : decode cX7_greatest 69 = .ok (.aload_n 0, 1) := by decide +kernel
theorem dX7_greatest_70 : decode cX7_greatest 70 = .ok (.getfield 54, 3) := by decide +kernel
theorem dX7_greatest_73 : decode cX7_greatest 73 = .ok (.iload 4, 2) := by decide +kernel
theorem dX7_greatest_75 : decode cX7_greatest 75 = .ok (.invokevirtual 206, 3) := by decide +kernel
theorem dX7_greatest_78 : decode cX7_greatest 78 = .ok (.istore 5, 2) := by decide +kernel
theorem dX7_greatest_80 : decode cX7_greatest 80 = .ok (.aload_n 0, 1) := by decide +kernel
theorem dX7_greatest_81 : decode cX7_greatest 81 = .ok (.getfield 54, 3) := by decide +kernel
theorem dX7_greatest_84 : decode cX7_greatest 84 = .ok (.iload 4, 2) := by decide +kernel
theorem dX7_greatest_86 : decode cX7_greatest 86 = .ok (.invokevirtual 128, 3) := by decide +kernel
theorem dX7_greatest_89 : decode cX7_greatest 89 = .ok (.ifCond .eq 15, 3) := by decide +kernel
theorem dX7_greatest_92 : decode cX7_greatest 92 = .ok (.iload 5, 2) := by decide +kernel
theorem dX7_greatest_94 : decode cX7_greatest 94 = .ok (.iload_n 3, 1) := by decide +kernel
theorem dX7_greatest_95 : decode cX7_greatest 95 = .ok (.if_icmp .le 9, 3) := by decide +kernel
theorem dX7_greatest_98 : decode cX7_greatest 98 = .ok (.iload 4, 2) := by decide +kernel
theorem dX7_greatest_100 : decode cX7_greatest 100 = .ok (.istore_n 2, 1) := by decide +kernel
theorem dX7_greatest_101 : decode cX7_greatest 101 = .ok (.iload 5, 2) := by decide +kernel
theorem dX7_greatest_103 : decode cX7_greatest 103 = .ok (.istore_n 3, 1) := by decide +kernel
theorem dX7_greatest_104 : decode cX7_greatest 104 = .ok (.iinc 4 1, 3) := by decide +kernel
theorem dX7_greatest_107 : decode cX7_greatest 107 = .ok (.goto (-71), 3) := by decide +kernel
theorem dX7_greatest_110 : decode cX7_greatest 110 = .ok (.iload_n 2, 1) := by decide +kernel
theorem dX7_greatest_111 : decode cX7_greatest 111 = .ok (.ireturn, 1) := by decide +kernel
theorem dX7_rolls_0 : decode cX7_rolls 0 = .ok (.iload_n 1, 1) := by decide +kernel
theorem dX7_rolls_1 : decode cX7_rolls 1 = .ok (.iconst 0, 1) := by decide +kernel
theorem dX7_rolls_2 : decode cX7_rolls 2 = .ok (.iconst 2, 1) := by decide +kernel
theorem dX7_rolls_3 : decode cX7_rolls 3 = .ok (.invokestatic 85, 3) := by decide +kernel
theorem dX7_rolls_6 : decode cX7_rolls 6 = .ok (.ifCond .ne 5, 3) := by decide +kernel
theorem dX7_rolls_9 : decode cX7_rolls 9 = .ok (.iconst (-1), 1) := by decide +kernel
theorem dX7_rolls_10 : decode cX7_rolls 10 = .ok (.ireturn, 1) := by decide +kernel
theorem dX7_rolls_11 : decode cX7_rolls 11 = .ok (.aload_n 0, 1) := by decide +kernel
theorem dX7_rolls_12 : decode cX7_rolls 12 = .ok (.getfield 33, 3) := by decide +kernel
theorem dX7_rolls_15 : decode cX7_rolls 15 = .ok (.aload_n 0, 1) := by decide +kernel
theorem dX7_rolls_16 : decode cX7_rolls 16 = .ok (.getfield 54, 3) := by decide +kernel
theorem dX7_rolls_19 : decode cX7_rolls 19 = .ok (.invokevirtual 144, 3) := by decide +kernel
theorem dX7_rolls_22 : decode cX7_rolls 22 = .ok (.ifCond .ne 6, 3) := by decide +kernel
theorem dX7_rolls_25 : decode cX7_rolls 25 = .ok (.bipush (-2), 2) := by decide +kernel
theorem dX7_rolls_27 : decode cX7_rolls 27 = .ok (.ireturn, 1) := by decide +kernel
theorem dX7_rolls_28 : decode cX7_rolls 28 = .ok (.aload_n 0, 1) := by decide +kernel
theorem dX7_rolls_29 : decode cX7_rolls 29 = .ok (.getfield 47, 3) := by decide +kernel
theorem dX7_rolls_32 : decode cX7_rolls 32 = .ok (.aload_n 0, 1) := by decide +kernel
theorem dX7_rolls_33 : decode cX7_rolls 33 = .ok (.getfield 54, 3) := by decide +kernel
theorem dX7_rolls_36 : decode cX7_rolls 36 = .ok (.aload_n 0, 1) := by decide +kernel
theorem dX7_rolls_37 : decode cX7_rolls 37 = .ok (.getfield 33, 3) := by decide +kernel
theorem dX7_rolls_40 : decode cX7_rolls 40 = .ok (.getfield 148, 3) := by decide +kernel
theorem dX7_rolls_43 : decode cX7_rolls 43 = .ok (.invokevirtual 237, 3) := by decide +kernel
theorem dX7_rolls_46 : decode cX7_rolls 46 = .ok (.ifCond .ne 6, 3) := by decide +kernel
theorem dX7_rolls_49 : decode cX7_rolls 49 = .ok (.bipush (-4), 2) := by decide +kernel
theorem dX7_rolls_51 : decode cX7_rolls 51 = .ok (.ireturn, 1) := by decide +kernel
theorem dX7_rolls_52 : decode cX7_rolls 52 = .ok (.iload_n 1, 1) := by decide +kernel
theorem dX7_rolls_53 : decode cX7_rolls 53 = .ok (.lookupswitch 43 #[(0, 27), (1, 35)], 27) := by decide +kernel
theorem dX7_rolls_80 : decode cX7_rolls 80 = .ok (.aload_n 0, 1) := by decide +kernel
theorem dX7_rolls_81 : decode cX7_rolls 81 = .ok (.getfield 47, 3) := by decide +kernel
theorem dX7_rolls_84 : decode cX7_rolls 84 = .ok (.getfield 241, 3) := by decide +kernel
theorem dX7_rolls_87 : decode cX7_rolls 87 = .ok (.ireturn, 1) := by decide +kernel
theorem dX7_rolls_88 : decode cX7_rolls 88 = .ok (.aload_n 0, 1) := by decide +kernel
theorem dX7_rolls_89 : decode cX7_rolls 89 = .ok (.getfield 47, 3) := by decide +kernel
theorem dX7_rolls_92 : decode cX7_rolls 92 = .ok (.invokevirtual 244, 3) := by decide +kernel
theorem dX7_rolls_95 : decode cX7_rolls 95 = .ok (.ireturn, 1) := by decide +kernel
theorem dX7_rolls_96 : decode cX7_rolls 96 = .ok (.aload_n 0, 1) := by decide +kernel
theorem dX7_rolls_97 : decode cX7_rolls 97 = .ok (.getfield 47, 3) := by decide +kernel
theorem dX7_rolls_100 : decode cX7_rolls 100 = .ok (.invokevirtual 247, 3) := by decide +kernel
theorem dX7_rolls_103 : decode cX7_rolls 103 = .ok (.ireturn, 1) := by decide +kernel
theorem dX7_rollOf_0 : decode cX7_rollOf 0 = .ok (.aload_n 0, 1) := by decide +kernel
theorem dX7_rollOf_1 : decode cX7_rollOf 1 = .ok (.getfield 54, 3) := by decide +kernel
theorem dX7_rollOf_4 : decode cX7_rollOf 4 = .ok (.iload_n 1, 1) := by decide +kernel
theorem dX7_rollOf_5 : decode cX7_rollOf 5 = .ok (.invokevirtual 95, 3) := by decide +kernel
theorem dX7_rollOf_8 : decode cX7_rollOf 8 = .ok (.ifCond .ne 5, 3) := by decide +kernel
theorem dX7_rollOf_11 : decode cX7_rollOf 11 = .ok (.iconst (-1), 1) := by decide +kernel
theorem dX7_rollOf_12 : decode cX7_rollOf 12 = .ok (.ireturn, 1) := by decide +kernel
theorem dX7_rollOf_13 : decode cX7_rollOf 13 = .ok (.aload_n 0, 1) := by decide +kernel
theorem dX7_rollOf_14 : decode cX7_rollOf 14 = .ok (.getfield 33, 3) := by decide +kernel
theorem dX7_rollOf_17 : decode cX7_rollOf 17 = .ok (.aload_n 0, 1) := by decide +kernel
theorem dX7_rollOf_18 : decode cX7_rollOf 18 = .ok (.getfield 54, 3) := by decide +kernel
theorem dX7_rollOf_21 : decode cX7_rollOf 21 = .ok (.invokevirtual 144, 3) := by decide +kernel
theorem dX7_rollOf_24 : decode cX7_rollOf 24 = .ok (.ifCond .ne 6, 3) := by decide +kernel
theorem dX7_rollOf_27 : decode cX7_rollOf 27 = .ok (.bipush (-2), 2) := by decide +kernel
theorem dX7_rollOf_29 : decode cX7_rollOf 29 = .ok (.ireturn, 1) := by decide +kernel
theorem dX7_rollOf_30 : decode cX7_rollOf 30 = .ok (.aload_n 0, 1) := by decide +kernel
theorem dX7_rollOf_31 : decode cX7_rollOf 31 = .ok (.getfield 54, 3) := by decide +kernel
theorem dX7_rollOf_34 : decode cX7_rollOf 34 = .ok (.iload_n 1, 1) := by decide +kernel
theorem dX7_rollOf_35 : decode cX7_rollOf 35 = .ok (.invokevirtual 128, 3) := by decide +kernel
theorem dX7_rollOf_38 : decode cX7_rollOf 38 = .ok (.ifCond .eq 24, 3) := by decide +kernel
theorem dX7_rollOf_41 : decode cX7_rollOf 41 = .ok (.aload_n 0, 1) := by decide +kernel
theorem dX7_rollOf_42 : decode cX7_rollOf 42 = .ok (.getfield 47, 3) := by decide +kernel
theorem dX7_rollOf_45 : decode cX7_rollOf 45 = .ok (.aload_n 0, 1) := by decide +kernel
theorem dX7_rollOf_46 : decode cX7_rollOf 46 = .ok (.getfield 54, 3) := by decide +kernel
theorem dX7_rollOf_49 : decode cX7_rollOf 49 = .ok (.aload_n 0, 1) := by decide +kernel
theorem dX7_rollOf_50 : decode cX7_rollOf 50 = .ok (.getfield 33, 3) := by decide +kernel
theorem dX7_rollOf_53 : decode cX7_rollOf 53 = .ok (.getfield 148, 3) := by decide +kernel
theorem dX7_rollOf_56 : decode cX7_rollOf 56 = .ok (.invokevirtual 237, 3) := by decide +kernel
theorem dX7_rollOf_59 : decode cX7_rollOf 59 = .ok (.ifCond .ne 6, 3) := by decide +kernel
theorem dX7_rollOf_62 : decode cX7_rollOf 62 = .ok (.bipush (-4), 2) := by decide +kernel
theorem dX7_rollOf_64 : decode cX7_rollOf 64 = .ok (.ireturn, 1) := by decide +kernel
theorem dX7_rollOf_65 : decode cX7_rollOf 65 = .ok (.aload_n 0, 1) := by decide +kernel
theorem dX7_rollOf_66 : decode cX7_rollOf 66 = .ok (.getfield 47, 3) := by decide +kernel
theorem dX7_rollOf_69 : decode cX7_rollOf 69 = .ok (.getfield 250, 3) := by decide +kernel
theorem dX7_rollOf_72 : decode cX7_rollOf 72 = .ok (.iload_n 1, 1) := by decide +kernel
theorem dX7_rollOf_73 : decode cX7_rollOf 73 = .ok (.iaload, 1) := by decide +kernel
theorem dX7_rollOf_74 : decode cX7_rollOf 74 = .ok (.ireturn, 1) := by decide +kernel
theorem dX7_count_0 : decode cX7_count 0 = .ok (.iload_n 1, 1) := by decide +kernel
theorem dX7_count_1 : decode cX7_count 1 = .ok (.tableswitch 147 0 8 #[51, 59, 70, 78, 89, 115, 123, 131, 139], 51) := by decide +kernel
theorem dX7_count_52 : decode cX7_count 52 = .ok (.aload_n 0, 1) := by decide +kernel
theorem dX7_count_53 : decode cX7_count 53 = .ok (.getfield 54, 3) := by decide +kernel
theorem dX7_count_56 : decode cX7_count 56 = .ok (.getfield 89, 3) := by decide +kernel
theorem dX7_count_59 : decode cX7_count 59 = .ok (.ireturn, 1) := by decide +kernel
theorem dX7_count_60 : decode cX7_count 60 = .ok (.aload_n 0, 1) := by decide +kernel
theorem dX7_count_61 : decode cX7_count 61 = .ok (.getfield 54, 3) := by decide +kernel
theorem dX7_count_64 : decode cX7_count 64 = .ok (.getfield 253, 3) := by decide +kernel
theorem dX7_count_67 : decode cX7_count 67 = .ok (.invokestatic 134, 3) := by decide +kernel
theorem dX7_count_70 : decode cX7_count 70 = .ok (.ireturn, 1) := by decide +kernel
theorem dX7_count_71 : decode cX7_count 71 = .ok (.aload_n 0, 1) := by decide +kernel
theorem dX7_count_72 : decode cX7_count 72 = .ok (.getfield 54, 3) := by decide +kernel
theorem dX7_count_75 : decode cX7_count 75 = .ok (.getfield 234, 3) := by decide +kernel
theorem dX7_count_78 : decode cX7_count 78 = .ok (.ireturn, 1) := by decide +kernel
theorem dX7_count_79 : decode cX7_count 79 = .ok (.aload_n 0, 1) := by decide +kernel
theorem dX7_count_80 : decode cX7_count 80 = .ok (.getfield 54, 3) := by decide +kernel
theorem dX7_count_83 : decode cX7_count 83 = .ok (.getfield 131, 3) := by decide +kernel
theorem dX7_count_86 : decode cX7_count 86 = .ok (.invokestatic 134, 3) := by decide +kernel
theorem dX7_count_89 : decode cX7_count 89 = .ok (.ireturn, 1) := by decide +kernel
theorem dX7_count_90 : decode cX7_count 90 = .ok (.aload_n 0, 1) := by decide +kernel
theorem dX7_count_91 : decode cX7_count 91 = .ok (.getfield 54, 3) := by decide +kernel
theorem dX7_count_94 : decode cX7_count 94 = .ok (.aload_n 0, 1) := by decide +kernel
theorem dX7_count_95 : decode cX7_count 95 = .ok (.getfield 54, 3) := by decide +kernel
theorem dX7_count_98 : decode cX7_count 98 = .ok (.getfield 131, 3) := by decide +kernel
theorem dX7_count_101 : decode cX7_count 101 = .ok (.invokevirtual 161, 3) := by decide +kernel
theorem dX7_count_104 : decode cX7_count 104 = .ok (.aload_n 0, 1) := by decide +kernel
theorem dX7_count_105 : decode cX7_count 105 = .ok (.getfield 54, 3) := by decide +kernel
theorem dX7_count_108 : decode cX7_count 108 = .ok (.getfield 253, 3) := by decide +kernel
theorem dX7_count_111 : decode cX7_count 111 = .ok (.iand, 1) := by decide +kernel
theorem dX7_count_112 : decode cX7_count 112 = .ok (.invokestatic 134, 3) := by decide +kernel
theorem dX7_count_115 : decode cX7_count 115 = .ok (.ireturn, 1) := by decide +kernel
theorem dX7_count_116 : decode cX7_count 116 = .ok (.aload_n 0, 1) := by decide +kernel
theorem dX7_count_117 : decode cX7_count 117 = .ok (.getfield 26, 3) := by decide +kernel
theorem dX7_count_120 : decode cX7_count 120 = .ok (.getfield 92, 3) := by decide +kernel
theorem dX7_count_123 : decode cX7_count 123 = .ok (.ireturn, 1) := by decide +kernel
theorem dX7_count_124 : decode cX7_count 124 = .ok (.aload_n 0, 1) := by decide +kernel
theorem dX7_count_125 : decode cX7_count 125 = .ok (.getfield 10, 3) := by decide +kernel
theorem dX7_count_128 : decode cX7_count 128 = .ok (.getfield 81, 3) := by decide +kernel
theorem dX7_count_131 : decode cX7_count 131 = .ok (.ireturn, 1) := by decide +kernel
theorem dX7_count_132 : decode cX7_count 132 = .ok (.aload_n 0, 1) := by decide +kernel
theorem dX7_count_133 : decode cX7_count 133 = .ok (.getfield 54, 3) := by decide +kernel
theorem dX7_count_136 : decode cX7_count 136 = .ok (.getfield 256, 3) := by decide +kernel
theorem dX7_count_139 : decode cX7_count 139 = .ok (.ireturn, 1) := by decide +kernel
theorem dX7_count_140 : decode cX7_count 140 = .ok (.aload_n 0, 1) := by decide +kernel
theorem dX7_count_141 : decode cX7_count 141 = .ok (.getfield 54, 3) := by decide +kernel
theorem dX7_count_144 : decode cX7_count 144 = .ok (.getfield 259, 3) := by decide +kernel
theorem dX7_count_147 : decode cX7_count 147 = .ok (.ireturn, 1) := by decide +kernel
theorem dX7_count_148 : decode cX7_count 148 = .ok (.iconst (-1), 1) := by decide +kernel
theorem dX7_count_149 : decode cX7_count 149 = .ok (.ireturn, 1) := by decide +kernel
theorem dX7_isFixedJoint_0 : decode cX7_isFixedJoint 0 = .ok (.aload_n 0, 1) := by decide +kernel
theorem dX7_isFixedJoint_1 : decode cX7_isFixedJoint 1 = .ok (.getfield 54, 3) := by decide +kernel
theorem dX7_isFixedJoint_4 : decode cX7_isFixedJoint 4 = .ok (.iload_n 1, 1) := by decide +kernel
theorem dX7_isFixedJoint_5 : decode cX7_isFixedJoint 5 = .ok (.invokevirtual 110, 3) := by decide +kernel
theorem dX7_isFixedJoint_8 : decode cX7_isFixedJoint 8 = .ok (.ifCond .eq 18, 3) := by decide +kernel
theorem dX7_isFixedJoint_11 : decode cX7_isFixedJoint 11 = .ok (.aload_n 0, 1) := by decide +kernel
theorem dX7_isFixedJoint_12 : decode cX7_isFixedJoint 12 = .ok (.getfield 54, 3) := by decide +kernel
theorem dX7_isFixedJoint_15 : decode cX7_isFixedJoint 15 = .ok (.iload_n 1, 1) := by decide +kernel
theorem dX7_isFixedJoint_16 : decode cX7_isFixedJoint 16 = .ok (.invokevirtual 113, 3) := by decide +kernel
theorem dX7_isFixedJoint_19 : decode cX7_isFixedJoint 19 = .ok (.ifCond .ne 7, 3) := by decide +kernel
theorem dX7_isFixedJoint_22 : decode cX7_isFixedJoint 22 = .ok (.iconst 1, 1) := by decide +kernel
theorem dX7_isFixedJoint_23 : decode cX7_isFixedJoint 23 = .ok (.goto 4, 3) := by decide +kernel
theorem dX7_isFixedJoint_26 : decode cX7_isFixedJoint 26 = .ok (.iconst 0, 1) := by decide +kernel
theorem dX7_isFixedJoint_27 : decode cX7_isFixedJoint 27 = .ok (.ireturn, 1) := by decide +kernel
theorem dX7_isAxis_0 : decode cX7_isAxis 0 = .ok (.iload_n 0, 1) := by decide +kernel
theorem dX7_isAxis_1 : decode cX7_isAxis 1 = .ok (.iconst 0, 1) := by decide +kernel
theorem dX7_isAxis_2 : decode cX7_isAxis 2 = .ok (.iconst 2, 1) := by decide +kernel
theorem dX7_isAxis_3 : decode cX7_isAxis 3 = .ok (.invokestatic 85, 3) := by decide +kernel
theorem dX7_isAxis_6 : decode cX7_isAxis 6 = .ok (.ireturn, 1) := by decide +kernel
theorem dX7_isWithin_0 : decode cX7_isWithin 0 = .ok (.iload_n 0, 1) := by decide +kernel
theorem dX7_isWithin_1 : decode cX7_isWithin 1 = .ok (.iload_n 1, 1) := by decide +kernel
theorem dX7_isWithin_2 : decode cX7_isWithin 2 = .ok (.if_icmp .lt 12, 3) := by decide +kernel
theorem dX7_isWithin_5 : decode cX7_isWithin 5 = .ok (.iload_n 0, 1) := by decide +kernel
theorem dX7_isWithin_6 : decode cX7_isWithin 6 = .ok (.iload_n 2, 1) := by decide +kernel
theorem dX7_isWithin_7 : decode cX7_isWithin 7 = .ok (.if_icmp .gt 7, 3) := by decide +kernel
theorem dX7_isWithin_10 : decode cX7_isWithin 10 = .ok (.iconst 1, 1) := by decide +kernel
theorem dX7_isWithin_11 : decode cX7_isWithin 11 = .ok (.goto 4, 3) := by decide +kernel
theorem dX7_isWithin_14 : decode cX7_isWithin 14 = .ok (.iconst 0, 1) := by decide +kernel
theorem dX7_isWithin_15 : decode cX7_isWithin 15 = .ok (.ireturn, 1) := by decide +kernel
theorem dX7_greatestShared_0 : decode cX7_greatestShared 0 = .ok (.lload_n 0, 1) := by decide +kernel
theorem dX7_greatestShared_1 : decode cX7_greatestShared 1 = .ok (.lstore 4, 2) := by decide +kernel
theorem dX7_greatestShared_3 : decode cX7_greatestShared 3 = .ok (.lload_n 2, 1) := by decide +kernel
theorem dX7_greatestShared_4 : decode cX7_greatestShared 4 = .ok (.lstore 6, 2) := by decide +kernel
theorem dX7_greatestShared_6 : decode cX7_greatestShared 6 = .ok (.iconst 0, 1) := by decide +kernel
theorem dX7_greatestShared_7 : decode cX7_greatestShared 7 = .ok (.istore 8, 2) := by decide +kernel
theorem dX7_greatestShared_9 : decode cX7_greatestShared 9 = .ok (.iload 8, 2) := by decide +kernel
theorem dX7_greatestShared_11 : decode cX7_greatestShared 11 = .ok (.bipush 100, 2) := by decide +kernel
theorem dX7_greatestShared_13 : decode cX7_greatestShared 13 = .ok (.if_icmp .ge 31, 3) := by decide +kernel
theorem dX7_greatestShared_16 : decode cX7_greatestShared 16 = .ok (.lload 6, 2) := by decide +kernel
theorem dX7_greatestShared_18 : decode cX7_greatestShared 18 = .ok (.lconst 0, 1) := by decide +kernel
theorem dX7_greatestShared_19 : decode cX7_greatestShared 19 = .ok (.lcmp, 1) := by decide +kernel
theorem dX7_greatestShared_20 : decode cX7_greatestShared 20 = .ok (.ifCond .eq 24, 3) := by decide +kernel
theorem dX7_greatestShared_23 : decode cX7_greatestShared 23 = .ok (.lload 4, 2) := by decide +kernel
theorem dX7_greatestShared_25 : decode cX7_greatestShared 25 = .ok (.lload 6, 2) := by decide +kernel
theorem dX7_greatestShared_27 : decode cX7_greatestShared 27 = .ok (.lrem, 1) := by decide +kernel
theorem dX7_greatestShared_28 : decode cX7_greatestShared 28 = .ok (.lstore 9, 2) := by decide +kernel
theorem dX7_greatestShared_30 : decode cX7_greatestShared 30 = .ok (.lload 6, 2) := by decide +kernel
theorem dX7_greatestShared_32 : decode cX7_greatestShared 32 = .ok (.lstore 4, 2) := by decide +kernel
theorem dX7_greatestShared_34 : decode cX7_greatestShared 34 = .ok (.lload 9, 2) := by decide +kernel
theorem dX7_greatestShared_36 : decode cX7_greatestShared 36 = .ok (.lstore 6, 2) := by decide +kernel
theorem dX7_greatestShared_38 : decode cX7_greatestShared 38 = .ok (.iinc 8 1, 3) := by decide +kernel
theorem dX7_greatestShared_41 : decode cX7_greatestShared 41 = .ok (.goto (-32), 3) := by decide +kernel
theorem dX7_greatestShared_44 : decode cX7_greatestShared 44 = .ok (.lload 4, 2) := by decide +kernel
theorem dX7_greatestShared_46 : decode cX7_greatestShared 46 = .ok (.lconst 1, 1) := by decide +kernel
theorem dX7_greatestShared_47 : decode cX7_greatestShared 47 = .ok (.invokestatic 262, 3) := by decide +kernel
theorem dX7_greatestShared_50 : decode cX7_greatestShared 50 = .ok (.lreturn, 1) := by decide +kernel
end
section
theorem dX8_init_0 : decode cX8_init 0 = .ok (.aload_n 0, 1) := by decide +kernel
theorem dX8_init_1 : decode cX8_init 1 = .ok (.invokespecial 1, 3) := by decide +kernel
theorem dX8_init_4 : decode cX8_init 4 = .ok (.aload_n 0, 1) := by decide +kernel
theorem dX8_init_5 : decode cX8_init 5 = .ok (.sipush 200, 3) := by decide +kernel
theorem dX8_init_8 : decode cX8_init 8 = .ok (.newarray .byte, 2) := by decide +kernel
theorem dX8_init_10 : decode cX8_init 10 = .ok (.putfield 7, 3) := by decide +kernel
theorem dX8_init_13 : decode cX8_init 13 = .ok (.aload_n 0, 1) := by decide +kernel
theorem dX8_init_14 : decode cX8_init 14 = .ok (.bipush 124, 2) := by decide +kernel
theorem dX8_init_16 : decode cX8_init 16 = .ok (.newarray .int, 2) := by decide +kernel
theorem dX8_init_18 : decode cX8_init 18 = .ok (.putfield 13, 3) := by decide +kernel
theorem dX8_init_21 : decode cX8_init 21 = .ok (.aload_n 0, 1) := by decide +kernel
theorem dX8_init_22 : decode cX8_init 22 = .ok (.bipush 124, 2) := by decide +kernel
theorem dX8_init_24 : decode cX8_init 24 = .ok (.newarray .int, 2) := by decide +kernel
theorem dX8_init_26 : decode cX8_init 26 = .ok (.putfield 17, 3) := by decide +kernel
theorem dX8_init_29 : decode cX8_init 29 = .ok (.aload_n 0, 1) := by decide +kernel
theorem dX8_init_30 : decode cX8_init 30 = .ok (.sipush 744, 3) := by decide +kernel
theorem dX8_init_33 : decode cX8_init 33 = .ok (.newarray .int, 2) := by decide +kernel
theorem dX8_init_35 : decode cX8_init 35 = .ok (.putfield 20, 3) := by decide +kernel
theorem dX8_init_38 : decode cX8_init 38 = .ok (.aload_n 0, 1) := by decide +kernel
theorem dX8_init_39 : decode cX8_init 39 = .ok (.bipush 124, 2) := by decide +kernel
theorem dX8_init_41 : decode cX8_init 41 = .ok (.newarray .int, 2) := by decide +kernel
theorem dX8_init_43 : decode cX8_init 43 = .ok (.putfield 23, 3) := by decide +kernel
theorem dX8_init_46 : decode cX8_init 46 = .ok (.aload_n 0, 1) := by decide +kernel
theorem dX8_init_47 : decode cX8_init 47 = .ok (.iconst 4, 1) := by decide +kernel
theorem dX8_init_48 : decode cX8_init 48 = .ok (.newarray .int, 2) := by decide +kernel
theorem dX8_init_50 : decode cX8_init 50 = .ok (.putfield 26, 3) := by decide +kernel
theorem dX8_init_53 : decode cX8_init 53 = .ok (.aload_n 0, 1) := by decide +kernel
theorem dX8_init_54 : decode cX8_init 54 = .ok (.bipush 10, 2) := by decide +kernel
theorem dX8_init_56 : decode cX8_init 56 = .ok (.newarray .boolean, 2) := by decide +kernel
theorem dX8_init_58 : decode cX8_init 58 = .ok (.putfield 29, 3) := by decide +kernel
theorem dX8_init_61 : decode cX8_init 61 = .ok (.aload_n 0, 1) := by decide +kernel
theorem dX8_init_62 : decode cX8_init 62 = .ok (.bipush 40, 2) := by decide +kernel
theorem dX8_init_64 : decode cX8_init 64 = .ok (.newarray .long, 2) := by decide +kernel
theorem dX8_init_66 : decode cX8_init 66 = .ok (.putfield 33, 3) := by decide +kernel
theorem dX8_init_69 : decode cX8_init 69 = .ok (.aload_n 0, 1) := by decide +kernel
theorem dX8_init_70 : decode cX8_init 70 = .ok (.bipush 10, 2) := by decide +kernel
theorem dX8_init_72 : decode cX8_init 72 = .ok (.newarray .int, 2) := by decide +kernel
theorem dX8_init_74 : decode cX8_init 74 = .ok (.putfield 37, 3) := by decide +kernel
theorem dX8_init_77 : decode cX8_init 77 = .ok (.aload_n 0, 1) := by decide +kernel
theorem dX8_init_78 : decode cX8_init 78 = .ok (.bipush 30, 2) := by decide +kernel
theorem dX8_init_80 : decode cX8_init 80 = .ok (.newarray .long, 2) := by decide +kernel
theorem dX8_init_82 : decode cX8_init 82 = .ok (.putfield 40, 3) := by decide +kernel
theorem dX8_init_85 : decode cX8_init 85 = .ok (.aload_n 0, 1) := by decide +kernel
theorem dX8_init_86 : decode cX8_init 86 = .ok (.bipush 30, 2) := by decide +kernel
theorem dX8_init_88 : decode cX8_init 88 = .ok (.newarray .int, 2) := by decide +kernel
theorem dX8_init_90 : decode cX8_init 90 = .ok (.putfield 43, 3) := by decide +kernel
theorem dX8_init_93 : decode cX8_init 93 = .ok (.aload_n 0, 1) := by decide +kernel
theorem dX8_init_94 : decode cX8_init 94 = .ok (.bipush 14, 2) := by decide +kernel
theorem dX8_init_96 : decode cX8_init 96 = .ok (.newarray .int, 2) := by decide +kernel
theorem dX8_init_98 : decode cX8_init 98 = .ok (.putfield 46, 3) := by decide +kernel
theorem dX8_init_101 : decode cX8_init 101 = .ok (.aload_n 0, 1) := by decide +kernel
theorem dX8_init_102 : decode cX8_init 102 = .ok (.bipush 14, 2) := by decide +kernel
theorem dX8_init_104 : decode cX8_init 104 = .ok (.newarray .int, 2) := by decide +kernel
theorem dX8_init_106 : decode cX8_init 106 = .ok (.putfield 49, 3) := by decide +kernel
theorem dX8_init_109 : decode cX8_init 109 = .ok (.aload_n 0, 1) := by decide +kernel
theorem dX8_init_110 : decode cX8_init 110 = .ok (.bipush 14, 2) := by decide +kernel
theorem dX8_init_112 : decode cX8_init 112 = .ok (.newarray .int, 2) := by decide +kernel
theorem dX8_init_114 : decode cX8_init 114 = .ok (.putfield 52, 3) := by decide +kernel
theorem dX8_init_117 : decode cX8_init 117 = .ok (.aload_n 0, 1) := by decide +kernel
theorem dX8_init_118 : decode cX8_init 118 = .ok (.sipush 16384, 3) := by decide +kernel
theorem dX8_init_121 : decode cX8_init 121 = .ok (.newarray .int, 2) := by decide +kernel
theorem dX8_init_123 : decode cX8_init 123 = .ok (.putfield 55, 3) := by decide +kernel
theorem dX8_init_126 : decode cX8_init 126 = .ok (.aload_n 0, 1) := by decide +kernel
theorem dX8_init_127 : decode cX8_init 127 = .ok (.sipush 16384, 3) := by decide +kernel
theorem dX8_init_130 : decode cX8_init 130 = .ok (.newarray .int, 2) := by decide +kernel
theorem dX8_init_132 : decode cX8_init 132 = .ok (.putfield 58, 3) := by decide +kernel
theorem dX8_init_135 : decode cX8_init 135 = .ok (.aload_n 0, 1) := by decide +kernel
theorem dX8_init_136 : decode cX8_init 136 = .ok (.getfield 13, 3) := by decide +kernel
theorem dX8_init_139 : decode cX8_init 139 = .ok (.iconst 0, 1) := by decide +kernel
theorem dX8_init_140 : decode cX8_init 140 = .ok (.bipush 6, 2) := by decide +kernel
theorem dX8_init_142 : decode cX8_init 142 = .ok (.iastore, 1) := by decide +kernel
theorem dX8_init_143 : decode cX8_init 143 = .ok (.aload_n 0, 1) := by decide +kernel
theorem dX8_init_144 : decode cX8_init 144 = .ok (.iconst 0, 1) := by decide +kernel
theorem dX8_init_145 : decode cX8_init 145 = .ok (.iconst 0, 1) := by decide +kernel
theorem dX8_init_146 : decode cX8_init 146 = .ok (.iconst 0, 1) := by decide +kernel
theorem dX8_init_147 : decode cX8_init 147 = .ok (.bipush 10, 2) := by decide +kernel
theorem dX8_init_149 : decode cX8_init 149 = .ok (.invokevirtual 61, 3) := by decide +kernel
theorem dX8_init_152 : decode cX8_init 152 = .ok (.aload_n 0, 1) := by decide +kernel
theorem dX8_init_153 : decode cX8_init 153 = .ok (.iconst 1, 1) := by decide +kernel
theorem dX8_init_154 : decode cX8_init 154 = .ok (.bipush 40, 2) := by decide +kernel
theorem dX8_init_156 : decode cX8_init 156 = .ok (.iconst 0, 1) := by decide +kernel
theorem dX8_init_157 : decode cX8_init 157 = .ok (.bipush 30, 2) := by decide +kernel
theorem dX8_init_159 : decode cX8_init 159 = .ok (.invokevirtual 61, 3) := by decide +kernel
theorem dX8_init_162 : decode cX8_init 162 = .ok (.aload_n 0, 1) := by decide +kernel
theorem dX8_init_163 : decode cX8_init 163 = .ok (.iconst 2, 1) := by decide +kernel
theorem dX8_init_164 : decode cX8_init 164 = .ok (.iconst 0, 1) := by decide +kernel
theorem dX8_init_165 : decode cX8_init 165 = .ok (.bipush 40, 2) := by decide +kernel
theorem dX8_init_167 : decode cX8_init 167 = .ok (.bipush 20, 2) := by decide +kernel
theorem dX8_init_169 : decode cX8_init 169 = .ok (.invokevirtual 61, 3) := by decide +kernel
theorem dX8_init_172 : decode cX8_init 172 = .ok (.aload_n 0, 1) := by decide +kernel
theorem dX8_init_173 : decode cX8_init 173 = .ok (.iconst 3, 1) := by decide +kernel
theorem dX8_init_174 : decode cX8_init 174 = .ok (.bipush 40, 2) := by decide +kernel
theorem dX8_init_176 : decode cX8_init 176 = .ok (.bipush 40, 2) := by decide +kernel
theorem dX8_init_178 : decode cX8_init 178 = .ok (.iconst 5, 1) := by decide +kernel
theorem dX8_init_179 : decode cX8_init 179 = .ok (.invokevirtual 61, 3) := by decide +kernel
theorem dX8_init_182 : decode cX8_init 182 = .ok (.aload_n 0, 1) := by decide +kernel
theorem dX8_init_183 : decode cX8_init 183 = .ok (.getfield 13, 3) := by decide +kernel
theorem dX8_init_186 : decode cX8_init 186 = .ok (.bipush 8, 2) := by decide +kernel
theorem dX8_init_188 : decode cX8_init 188 = .ok (.iconst 1, 1) := by decide +kernel
theorem dX8_init_189 : decode cX8_init 189 = .ok (.iastore, 1) := by decide +kernel
theorem dX8_init_190 : decode cX8_init 190 = .ok (.aload_n 0, 1) := by decide +kernel
theorem dX8_init_191 : decode cX8_init 191 = .ok (.getfield 13, 3) := by decide +kernel
theorem dX8_init_194 : decode cX8_init 194 = .ok (.bipush 9, 2) := by decide +kernel
theorem dX8_init_196 : decode cX8_init 196 = .ok (.iconst 1, 1) := by decide +kernel
theorem dX8_init_197 : decode cX8_init 197 = .ok (.iastore, 1) := by decide +kernel
theorem dX8_init_198 : decode cX8_init 198 = .ok (.aload_n 0, 1) := by decide +kernel
theorem dX8_init_199 : decode cX8_init 199 = .ok (.getfield 13, 3) := by decide +kernel
theorem dX8_init_202 : decode cX8_init 202 = .ok (.bipush 49, 2) := by decide +kernel
theorem dX8_init_204 : decode cX8_init 204 = .ok (.bipush (-5), 2) := by decide +kernel
theorem dX8_init_206 : decode cX8_init 206 = .ok (.iastore, 1) := by decide +kernel
theorem dX8_init_207 : decode cX8_init 207 = .ok (.aload_n 0, 1) := by decide +kernel
theorem dX8_init_208 : decode cX8_init 208 = .ok (.getfield 13, 3) := by decide +kernel
theorem dX8_init_211 : decode cX8_init 211 = .ok (.iconst 1, 1) := by decide +kernel
theorem dX8_init_212 : decode cX8_init 212 = .ok (.iconst 5, 1) := by decide +kernel
theorem dX8_init_213 : decode cX8_init 213 = .ok (.iastore, 1) := by decide +kernel
theorem dX8_init_214 : decode cX8_init 214 = .ok (.aload_n 0, 1) := by decide +kernel
theorem dX8_init_215 : decode cX8_init 215 = .ok (.iconst 0, 1) := by decide +kernel
theorem dX8_init_216 : decode cX8_init 216 = .ok (.iconst 0, 1) := by decide +kernel
theorem dX8_init_217 : decode cX8_init 217 = .ok (.iconst 4, 1) := by decide +kernel
theorem dX8_init_218 : decode cX8_init 218 = .ok (.iconst 1, 1) := by decide +kernel
theorem dX8_init_219 : decode cX8_init 219 = .ok (.bipush 30, 2) := by decide +kernel
theorem dX8_init_221 : decode cX8_init 221 = .ok (.invokevirtual 65, 3) := by decide +kernel
theorem dX8_init_224 : decode cX8_init 224 = .ok (.aload_n 0, 1) := by decide +kernel
theorem dX8_init_225 : decode cX8_init 225 = .ok (.iconst 1, 1) := by decide +kernel
theorem dX8_init_226 : decode cX8_init 226 = .ok (.iconst 1, 1) := by decide +kernel
theorem dX8_init_227 : decode cX8_init 227 = .ok (.iconst 4, 1) := by decide +kernel
theorem dX8_init_228 : decode cX8_init 228 = .ok (.iconst 2, 1) := by decide +kernel
theorem dX8_init_229 : decode cX8_init 229 = .ok (.iconst 0, 1) := by decide +kernel
theorem dX8_init_230 : decode cX8_init 230 = .ok (.invokevirtual 65, 3) := by decide +kernel
theorem dX8_init_233 : decode cX8_init 233 = .ok (.aload_n 0, 1) := by decide +kernel
theorem dX8_init_234 : decode cX8_init 234 = .ok (.iconst 2, 1) := by decide +kernel
theorem dX8_init_235 : decode cX8_init 235 = .ok (.iconst 4, 1) := by decide +kernel
theorem dX8_init_236 : decode cX8_init 236 = .ok (.iconst 5, 1) := by decide +kernel
theorem dX8_init_237 : decode cX8_init 237 = .ok (.iconst 3, 1) := by decide +kernel
theorem dX8_init_238 : decode cX8_init 238 = .ok (.bipush 18, 2) := by decide +kernel
theorem dX8_init_240 : decode cX8_init 240 = .ok (.invokevirtual 65, 3) := by decide +kernel
theorem dX8_init_243 : decode cX8_init 243 = .ok (.aload_n 0, 1) := by decide +kernel
theorem dX8_init_244 : decode cX8_init 244 = .ok (.iconst 3, 1) := by decide +kernel
theorem dX8_init_245 : decode cX8_init 245 = .ok (.iconst 2, 1) := by decide +kernel
theorem dX8_init_246 : decode cX8_init 246 = .ok (.iconst 5, 1) := by decide +kernel
theorem dX8_init_247 : decode cX8_init 247 = .ok (.iconst 1, 1) := by decide +kernel
theorem dX8_init_248 : decode cX8_init 248 = .ok (.bipush 25, 2) := by decide +kernel
theorem dX8_init_250 : decode cX8_init 250 = .ok (.invokevirtual 65, 3) := by decide +kernel
theorem dX8_init_253 : decode cX8_init 253 = .ok (.aload_n 0, 1) := by decide +kernel
theorem dX8_init_254 : decode cX8_init 254 = .ok (.iconst 4, 1) := by decide +kernel
theorem dX8_init_255 : decode cX8_init 255 = .ok (.iconst 3, 1) := by decide +kernel
theorem dX8_init_256 : decode cX8_init 256 = .ok (.iconst 5, 1) := by decide +kernel
theorem dX8_init_257 : decode cX8_init 257 = .ok (.iconst 2, 1) := by decide +kernel
theorem dX8_init_258 : decode cX8_init 258 = .ok (.bipush 30, 2) := by decide +kernel
theorem dX8_init_260 : decode cX8_init 260 = .ok (.invokevirtual 65, 3) := by decide +kernel
theorem dX8_init_263 : decode cX8_init 263 = .ok (.aload_n 0, 1) := by decide +kernel
theorem dX8_init_264 : decode cX8_init 264 = .ok (.getfield 13, 3) := by decide +kernel
theorem dX8_init_267 : decode cX8_init 267 = .ok (.iconst 2, 1) := by decide +kernel
theorem dX8_init_268 : decode cX8_init 268 = .ok (.bipush 60, 2) := by decide +kernel
theorem dX8_init_270 : decode cX8_init 270 = .ok (.iastore, 1) := by decide +kernel
theorem dX8_init_271 : decode cX8_init 271 = .ok (.aload_n 0, 1) := by decide +kernel
theorem dX8_init_272 : decode cX8_init 272 = .ok (.getfield 13, 3) := by decide +kernel
theorem dX8_init_275 : decode cX8_init 275 = .ok (.iconst 3, 1) := by decide +kernel
theorem dX8_init_276 : decode cX8_init 276 = .ok (.iconst 5, 1) := by decide +kernel
theorem dX8_init_277 : decode cX8_init 277 = .ok (.iastore, 1) := by decide +kernel
theorem dX8_init_278 : decode cX8_init 278 = .ok (.return_, 1) := by decide +kernel
theorem dX8_fixes_0 : decode cX8_fixes 0 = .ok (.aload_n 0, 1) := by decide +kernel
theorem dX8_fixes_1 : decode cX8_fixes 1 = .ok (.getfield 13, 3) := by decide +kernel
theorem dX8_fixes_4 : decode cX8_fixes 4 = .ok (.bipush 14, 2) := by decide +kernel
theorem dX8_fixes_6 : decode cX8_fixes 6 = .ok (.iconst 3, 1) := by decide +kernel
theorem dX8_fixes_7 : decode cX8_fixes 7 = .ok (.iload_n 1, 1) := by decide +kernel
theorem dX8_fixes_8 : decode cX8_fixes 8 = .ok (.imul, 1) := by decide +kernel
theorem dX8_fixes_9 : decode cX8_fixes 9 = .ok (.iadd, 1) := by decide +kernel
theorem dX8_fixes_10 : decode cX8_fixes 10 = .ok (.iload_n 2, 1) := by decide +kernel
theorem dX8_fixes_11 : decode cX8_fixes 11 = .ok (.iastore, 1) := by decide +kernel
theorem dX8_fixes_12 : decode cX8_fixes 12 = .ok (.aload_n 0, 1) := by decide +kernel
theorem dX8_fixes_13 : decode cX8_fixes 13 = .ok (.getfield 13, 3) := by decide +kernel
theorem dX8_fixes_16 : decode cX8_fixes 16 = .ok (.bipush 14, 2) := by decide +kernel
theorem dX8_fixes_18 : decode cX8_fixes 18 = .ok (.iconst 3, 1) := by decide +kernel
theorem dX8_fixes_19 : decode cX8_fixes 19 = .ok (.iload_n 1, 1) := by decide +kernel
theorem dX8_fixes_20 : decode cX8_fixes 20 = .ok (.imul, 1) := by decide +kernel
theorem dX8_fixes_21 : decode cX8_fixes 21 = .ok (.iadd, 1) := by decide +kernel
theorem dX8_fixes_22 : decode cX8_fixes 22 = .ok (.iconst 1, 1) := by decide +kernel
theorem dX8_fixes_23 : decode cX8_fixes 23 = .ok (.iadd, 1) := by decide +kernel
theorem dX8_fixes_24 : decode cX8_fixes 24 = .ok (.iload_n 3, 1) := by decide +kernel
theorem dX8_fixes_25 : decode cX8_fixes 25 = .ok (.iastore, 1) := by decide +kernel
theorem dX8_fixes_26 : decode cX8_fixes 26 = .ok (.aload_n 0, 1) := by decide +kernel
theorem dX8_fixes_27 : decode cX8_fixes 27 = .ok (.getfield 13, 3) := by decide +kernel
theorem dX8_fixes_30 : decode cX8_fixes 30 = .ok (.bipush 14, 2) := by decide +kernel
theorem dX8_fixes_32 : decode cX8_fixes 32 = .ok (.iconst 3, 1) := by decide +kernel
theorem dX8_fixes_33 : decode cX8_fixes 33 = .ok (.iload_n 1, 1) := by decide +kernel
theorem dX8_fixes_34 : decode cX8_fixes 34 = .ok (.imul, 1) := by decide +kernel
theorem dX8_fixes_35 : decode cX8_fixes 35 = .ok (.iadd, 1) := by decide +kernel
theorem dX8_fixes_36 : decode cX8_fixes 36 = .ok (.iconst 2, 1) := by decide +kernel
theorem dX8_fixes_37 : decode cX8_fixes 37 = .ok (.iadd, 1) := by decide +kernel
theorem dX8_fixes_38 : decode cX8_fixes 38 = .ok (.iload 4, 2) := by decide +kernel
theorem dX8_fixes_40 : decode cX8_fixes 40 = .ok (.iastore, 1) := by decide +kernel
theorem dX8_fixes_41 : decode cX8_fixes 41 = .ok (.return_, 1) := by decide +kernel
theorem dX8_ties_0 : decode cX8_ties 0 = .ok (.aload_n 0, 1) := by decide +kernel
theorem dX8_ties_1 : decode cX8_ties 1 = .ok (.getfield 13, 3) := by decide +kernel
theorem dX8_ties_4 : decode cX8_ties 4 = .ok (.bipush 54, 2) := by decide +kernel
theorem dX8_ties_6 : decode cX8_ties 6 = .ok (.iconst 5, 1) := by decide +kernel
theorem dX8_ties_7 : decode cX8_ties 7 = .ok (.iload_n 1, 1) := by decide +kernel
theorem dX8_ties_8 : decode cX8_ties 8 = .ok (.imul, 1) := by decide +kernel
theorem dX8_ties_9 : decode cX8_ties 9 = .ok (.iadd, 1) := by decide +kernel
theorem dX8_ties_10 : decode cX8_ties 10 = .ok (.iload_n 2, 1) := by decide +kernel
theorem dX8_ties_11 : decode cX8_ties 11 = .ok (.iastore, 1) := by decide +kernel
theorem dX8_ties_12 : decode cX8_ties 12 = .ok (.aload_n 0, 1) := by decide +kernel
theorem dX8_ties_13 : decode cX8_ties 13 = .ok (.getfield 13, 3) := by decide +kernel
theorem dX8_ties_16 : decode cX8_ties 16 = .ok (.bipush 54, 2) := by decide +kernel
theorem dX8_ties_18 : decode cX8_ties 18 = .ok (.iconst 5, 1) := by decide +kernel
theorem dX8_ties_19 : decode cX8_ties 19 = .ok (.iload_n 1, 1) := by decide +kernel
theorem dX8_ties_20 : decode cX8_ties 20 = .ok (.imul, 1) := by decide +kernel
theorem dX8_ties_21 : decode cX8_ties 21 = .ok (.iadd, 1) := by decide +kernel
theorem dX8_ties_22 : decode cX8_ties 22 = .ok (.iconst 1, 1) := by decide +kernel
theorem dX8_ties_23 : decode cX8_ties 23 = .ok (.iadd, 1) := by decide +kernel
theorem dX8_ties_24 : decode cX8_ties 24 = .ok (.iload_n 3, 1) := by decide +kernel
theorem dX8_ties_25 : decode cX8_ties 25 = .ok (.iastore, 1) := by decide +kernel
theorem dX8_ties_26 : decode cX8_ties 26 = .ok (.aload_n 0, 1) := by decide +kernel
theorem dX8_ties_27 : decode cX8_ties 27 = .ok (.getfield 13, 3) := by decide +kernel
theorem dX8_ties_30 : decode cX8_ties 30 = .ok (.bipush 54, 2) := by decide +kernel
theorem dX8_ties_32 : decode cX8_ties 32 = .ok (.iconst 5, 1) := by decide +kernel
theorem dX8_ties_33 : decode cX8_ties 33 = .ok (.iload_n 1, 1) := by decide +kernel
theorem dX8_ties_34 : decode cX8_ties 34 = .ok (.imul, 1) := by decide +kernel
theorem dX8_ties_35 : decode cX8_ties 35 = .ok (.iadd, 1) := by decide +kernel
theorem dX8_ties_36 : decode cX8_ties 36 = .ok (.iconst 2, 1) := by decide +kernel
theorem dX8_ties_37 : decode cX8_ties 37 = .ok (.iadd, 1) := by decide +kernel
theorem dX8_ties_38 : decode cX8_ties 38 = .ok (.iload 4, 2) := by decide +kernel
theorem dX8_ties_40 : decode cX8_ties 40 = .ok (.iastore, 1) := by decide +kernel
theorem dX8_ties_41 : decode cX8_ties 41 = .ok (.aload_n 0, 1) := by decide +kernel
theorem dX8_ties_42 : decode cX8_ties 42 = .ok (.getfield 13, 3) := by decide +kernel
theorem dX8_ties_45 : decode cX8_ties 45 = .ok (.bipush 54, 2) := by decide +kernel
theorem dX8_ties_47 : decode cX8_ties 47 = .ok (.iconst 5, 1) := by decide +kernel
theorem dX8_ties_48 : decode cX8_ties 48 = .ok (.iload_n 1, 1) := by decide +kernel
theorem dX8_ties_49 : decode cX8_ties 49 = .ok (.imul, 1) := by decide +kernel
theorem dX8_ties_50 : decode cX8_ties 50 = .ok (.iadd, 1) := by decide +kernel
theorem dX8_ties_51 : decode cX8_ties 51 = .ok (.iconst 3, 1) := by decide +kernel
theorem dX8_ties_52 : decode cX8_ties 52 = .ok (.iadd, 1) := by decide +kernel
theorem dX8_ties_53 : decode cX8_ties 53 = .ok (.iload 5, 2) := by decide +kernel
theorem dX8_ties_55 : decode cX8_ties 55 = .ok (.iastore, 1) := by decide +kernel
theorem dX8_ties_56 : decode cX8_ties 56 = .ok (.return_, 1) := by decide +kernel
theorem dX8_in_0 : decode cX8_in 0 = .ok (.iload_n 0, 1) := by decide +kernel
theorem dX8_in_1 : decode cX8_in 1 = .ok (.iload_n 1, 1) := by decide +kernel
theorem dX8_in_2 : decode cX8_in 2 = .ok (.if_icmp .lt 12, 3) := by decide +kernel
theorem dX8_in_5 : decode cX8_in 5 = .ok (.iload_n 0, 1) := by decide +kernel
theorem dX8_in_6 : decode cX8_in 6 = .ok (.iload_n 2, 1) := by decide +kernel
theorem dX8_in_7 : decode cX8_in 7 = .ok (.if_icmp .gt 7, 3) := by decide +kernel
theorem dX8_in_10 : decode cX8_in 10 = .ok (.iconst 1, 1) := by decide +kernel
theorem dX8_in_11 : decode cX8_in 11 = .ok (.goto 4, 3) := by decide +kernel
theorem dX8_in_14 : decode cX8_in 14 = .ok (.iconst 0, 1) := by decide +kernel
theorem dX8_in_15 : decode cX8_in 15 = .ok (.ireturn, 1) := by decide +kernel
theorem dX8_write_0 : decode cX8_write 0 = .ok (.aload_n 0, 1) := by decide +kernel
theorem dX8_write_1 : decode cX8_write 1 = .ok (.iconst 0, 1) := by decide +kernel
theorem dX8_write_2 : decode cX8_write 2 = .ok (.putfield 69, 3) := by decide +kernel
theorem dX8_write_5 : decode cX8_write 5 = .ok (.iload_n 1, 1) := by decide +kernel
theorem dX8_write_6 : decode cX8_write 6 = .ok (.bipush 32, 2) := by decide +kernel
theorem dX8_write_8 : decode cX8_write 8 = .ok (.bipush 126, 2) := by decide +kernel
theorem dX8_write_10 : decode cX8_write 10 = .ok (.invokestatic 73, 3) := by decide +kernel
theorem dX8_write_13 : decode cX8_write 13 = .ok (.ifCond .ne 5, 3) := by decide +kernel
theorem dX8_write_16 : decode cX8_write 16 = .ok (.iconst (-1), 1) := by decide +kernel
theorem dX8_write_17 : decode cX8_write 17 = .ok (.ireturn, 1) := by decide +kernel
theorem dX8_write_18 : decode cX8_write 18 = .ok (.aload_n 0, 1) := by decide +kernel
theorem dX8_write_19 : decode cX8_write 19 = .ok (.getfield 77, 3) := by decide +kernel
theorem dX8_write_22 : decode cX8_write 22 = .ok (.sipush 200, 3) := by decide +kernel
theorem dX8_write_25 : decode cX8_write 25 = .ok (.if_icmp .ne 6, 3) := by decide +kernel
theorem dX8_write_28 : decode cX8_write 28 = .ok (.bipush (-3), 2) := by decide +kernel
theorem dX8_write_30 : decode cX8_write 30 = .ok (.ireturn, 1) := by decide +kernel
theorem dX8_write_31 : decode cX8_write 31 = .ok (.aload_n 0, 1) := by decide +kernel
theorem dX8_write_32 : decode cX8_write 32 = .ok (.getfield 7, 3) := by decide +kernel
theorem dX8_write_35 : decode cX8_write 35 = .ok (.aload_n 0, 1) := by decide +kernel
theorem dX8_write_36 : decode cX8_write 36 = .ok (.getfield 77, 3) := by decide +kernel
theorem dX8_write_39 : decode cX8_write 39 = .ok (.iload_n 1, 1) := by decide +kernel
theorem dX8_write_40 : decode cX8_write 40 = .ok (.i2b, 1) := by decide +kernel
theorem dX8_write_41 : decode cX8_write 41 = .ok (.bastore, 1) := by decide +kernel
theorem dX8_write_42 : decode cX8_write 42 = .ok (.aload_n 0, 1) := by decide +kernel
theorem dX8_write_43 : decode cX8_write 43 = .ok (.dup, 1) := by decide +kernel
theorem dX8_write_44 : decode cX8_write 44 = .ok (.getfield 77, 3) := by decide +kernel
theorem dX8_write_47 : decode cX8_write 47 = .ok (.iconst 1, 1) := by decide +kernel
theorem dX8_write_48 : decode cX8_write 48 = .ok (.iadd, 1) := by decide +kernel
theorem dX8_write_49 : decode cX8_write 49 = .ok (.putfield 77, 3) := by decide +kernel
theorem dX8_write_52 : decode cX8_write 52 = .ok (.aload_n 0, 1) := by decide +kernel
theorem dX8_write_53 : decode cX8_write 53 = .ok (.getfield 77, 3) := by decide +kernel
theorem dX8_write_56 : decode cX8_write 56 = .ok (.ireturn, 1) := by decide +kernel
theorem dX8_wipe_0 : decode cX8_wipe 0 = .ok (.aload_n 0, 1) := by decide +kernel
theorem dX8_wipe_1 : decode cX8_wipe 1 = .ok (.iconst 0, 1) := by decide +kernel
theorem dX8_wipe_2 : decode cX8_wipe 2 = .ok (.putfield 69, 3) := by decide +kernel
theorem dX8_wipe_5 : decode cX8_wipe 5 = .ok (.aload_n 0, 1) := by decide +kernel
theorem dX8_wipe_6 : decode cX8_wipe 6 = .ok (.getfield 77, 3) := by decide +kernel
theorem dX8_wipe_9 : decode cX8_wipe 9 = .ok (.istore_n 1, 1) := by decide +kernel
theorem dX8_wipe_10 : decode cX8_wipe 10 = .ok (.aload_n 0, 1) := by decide +kernel
theorem dX8_wipe_11 : decode cX8_wipe 11 = .ok (.iconst 0, 1) := by decide +kernel
theorem dX8_wipe_12 : decode cX8_wipe 12 = .ok (.putfield 77, 3) := by decide +kernel
theorem dX8_wipe_15 : decode cX8_wipe 15 = .ok (.iload_n 1, 1) := by decide +kernel
theorem dX8_wipe_16 : decode cX8_wipe 16 = .ok (.ireturn, 1) := by decide +kernel
theorem dX8_isFigure_0 : decode cX8_isFigure 0 = .ok (.iload_n 1, 1) := by decide +kernel
theorem dX8_isFigure_1 : decode cX8_isFigure 1 = .ok (.aload_n 0, 1) := by decide +kernel
theorem dX8_isFigure_2 : decode cX8_isFigure 2 = .ok (.getfield 77, 3) := by decide +kernel
theorem dX8_isFigure_5 : decode cX8_isFigure 5 = .ok (.if_icmp .ge 23, 3) := by decide +kernel
theorem dX8_isFigure_8 : decode cX8_isFigure 8 = .ok (.aload_n 0, 1) := by decide +kernel
theorem dX8_isFigure_9 : decode cX8_isFigure 9 = .ok (.getfield 7, 3) := by decide +kernel
theorem dX8_isFigure_12 : decode cX8_isFigure 12 = .ok (.iload_n 1, 1) := by decide +kernel
theorem dX8_isFigure_13 : decode cX8_isFigure 13 = .ok (.baload, 1) := by decide +kernel
theorem dX8_isFigure_14 : decode cX8_isFigure 14 = .ok (.bipush 48, 2) := by decide +kernel
theorem dX8_isFigure_16 : decode cX8_isFigure 16 = .ok (.bipush 57, 2) := by decide +kernel
theorem dX8_isFigure_18 : decode cX8_isFigure 18 = .ok (.invokestatic 73, 3) := by decide +kernel
theorem dX8_isFigure_21 : decode cX8_isFigure 21 = .ok (.ifCond .eq 7, 3) := by decide +kernel
theorem dX8_isFigure_24 : decode cX8_isFigure 24 = .ok (.iconst 1, 1) := by decide +kernel
theorem dX8_isFigure_25 : decode cX8_isFigure 25 = .ok (.goto 4, 3) := by decide +kernel
theorem dX8_isFigure_28 : decode cX8_isFigure 28 = .ok (.iconst 0, 1) := by decide +kernel
theorem dX8_isFigure_29 : decode cX8_isFigure 29 = .ok (.ireturn, 1) := by decide +kernel
theorem dX8_takes_0 : decode cX8_takes 0 = .ok (.aload_n 0, 1) := by decide +kernel
theorem dX8_takes_1 : decode cX8_takes 1 = .ok (.getfield 80, 3) := by decide +kernel
theorem dX8_takes_4 : decode cX8_takes 4 = .ok (.aload_n 0, 1) := by decide +kernel
theorem dX8_takes_5 : decode cX8_takes 5 = .ok (.getfield 77, 3) := by decide +kernel
theorem dX8_takes_8 : decode cX8_takes 8 = .ok (.if_icmp .ge 29, 3) := by decide +kernel
theorem dX8_takes_11 : decode cX8_takes 11 = .ok (.aload_n 0, 1) := by decide +kernel
theorem dX8_takes_12 : decode cX8_takes 12 = .ok (.getfield 7, 3) := by decide +kernel
theorem dX8_takes_15 : decode cX8_takes 15 = .ok (.aload_n 0, 1) := by decide +kernel
theorem dX8_takes_16 : decode cX8_takes 16 = .ok (.getfield 80, 3) := by decide +kernel
theorem dX8_takes_19 : decode cX8_takes 19 = .ok (.baload, 1) := by decide +kernel
theorem dX8_takes_20 : decode cX8_takes 20 = .ok (.iload_n 1, 1) := by decide +kernel
theorem dX8_takes_21 : decode cX8_takes 21 = .ok (.if_icmp .ne 16, 3) := by decide +kernel
theorem dX8_takes_24 : decode cX8_takes 24 = .ok (.aload_n 0, 1) := by decide +kernel
theorem dX8_takes_25 : decode cX8_takes 25 = .ok (.dup, 1) := by decide +kernel
theorem dX8_takes_26 : decode cX8_takes 26 = .ok (.getfield 80, 3) := by decide +kernel
theorem dX8_takes_29 : decode cX8_takes 29 = .ok (.iconst 1, 1) := by decide +kernel
theorem dX8_takes_30 : decode cX8_takes 30 = .ok (.iadd, 1) := by decide +kernel
theorem dX8_takes_31 : decode cX8_takes 31 = .ok (.putfield 80, 3) := by decide +kernel
theorem dX8_takes_34 : decode cX8_takes 34 = .ok (.goto 8, 3) := by decide +kernel
theorem dX8_takes_37 : decode cX8_takes 37 = .ok (.aload_n 0, 1) := by decide +kernel
theorem dX8_takes_38 : decode cX8_takes 38 = .ok (.iconst 0, 1) := by decide +kernel
theorem dX8_takes_39 : decode cX8_takes 39 = .ok (.putfield 83, 3) := by decide +kernel
theorem dX8_takes_42 : decode cX8_takes 42 = .ok (.return_, 1) := by decide +kernel
theorem dX8_takesNumber_0 : decode cX8_takesNumber 0 = .ok (.iconst (-1), 1) := by decide +kernel
theorem dX8_takesNumber_1 : decode cX8_takesNumber 1 = .ok (.istore_n 3, 1) := by decide +kernel
theorem dX8_takesNumber_2 : decode cX8_takesNumber 2 = .ok (.aload_n 0, 1) := by decide +kernel
theorem dX8_takesNumber_3 : decode cX8_takesNumber 3 = .ok (.aload_n 0, 1) := by decide +kernel
theorem dX8_takesNumber_4 : decode cX8_takesNumber 4 = .ok (.getfield 80, 3) := by decide +kernel
theorem dX8_takesNumber_7 : decode cX8_takesNumber 7 = .ok (.invokevirtual 87, 3) := by decide +kernel
theorem dX8_takesNumber_10 : decode cX8_takesNumber 10 = .ok (.ifCond .eq 65, 3) := by decide +kernel
theorem dX8_takesNumber_13 : decode cX8_takesNumber 13 = .ok (.aload_n 0, 1) := by decide +kernel
theorem dX8_takesNumber_14 : decode cX8_takesNumber 14 = .ok (.getfield 7, 3) := by decide +kernel
theorem dX8_takesNumber_17 : decode cX8_takesNumber 17 = .ok (.aload_n 0, 1) := by decide +kernel
theorem dX8_takesNumber_18 : decode cX8_takesNumber 18 = .ok (.getfield 80, 3) := by decide +kernel
theorem dX8_takesNumber_21 : decode cX8_takesNumber 21 = .ok (.baload, 1) := by decide +kernel
theorem dX8_takesNumber_22 : decode cX8_takesNumber 22 = .ok (.bipush 48, 2) := by decide +kernel
theorem dX8_takesNumber_24 : decode cX8_takesNumber 24 = .ok (.isub, 1) := by decide +kernel
theorem dX8_takesNumber_25 : decode cX8_takesNumber 25 = .ok (.istore_n 3, 1) := by decide +kernel
theorem dX8_takesNumber_26 : decode cX8_takesNumber 26 = .ok (.aload_n 0, 1) := by decide +kernel
theorem dX8_takesNumber_27 : decode cX8_takesNumber 27 = .ok (.dup, 1) := by decide +kernel
theorem dX8_takesNumber_28 : decode cX8_takesNumber 28 = .ok (.getfield 80, 3) := by decide +kernel
theorem dX8_takesNumber_31 : decode cX8_takesNumber 31 = .ok (.iconst 1, 1) := by decide +kernel
theorem dX8_takesNumber_32 : decode cX8_takesNumber 32 = .ok (.iadd, 1) := by decide +kernel
theorem dX8_takesNumber_33 : decode cX8_takesNumber 33 = .ok (.putfield 80, 3) := by decide +kernel
theorem dX8_takesNumber_36 : decode cX8_takesNumber 36 = .ok (.aload_n 0, 1) := by decide +kernel
theorem dX8_takesNumber_37 : decode cX8_takesNumber 37 = .ok (.aload_n 0, 1) := by decide +kernel
theorem dX8_takesNumber_38 : decode cX8_takesNumber 38 = .ok (.getfield 80, 3) := by decide +kernel
theorem dX8_takesNumber_41 : decode cX8_takesNumber 41 = .ok (.invokevirtual 87, 3) := by decide +kernel
theorem dX8_takesNumber_44 : decode cX8_takesNumber 44 = .ok (.ifCond .eq 31, 3) := by decide +kernel
theorem dX8_takesNumber_47 : decode cX8_takesNumber 47 = .ok (.bipush 10, 2) := by decide +kernel
theorem dX8_takesNumber_49 : decode cX8_takesNumber 49 = .ok (.iload_n 3, 1) := by decide +kernel
theorem dX8_takesNumber_50 : decode cX8_takesNumber 50 = .ok (.imul, 1) := by decide +kernel
theorem dX8_takesNumber_51 : decode cX8_takesNumber 51 = .ok (.aload_n 0, 1) := by decide +kernel
theorem dX8_takesNumber_52 : decode cX8_takesNumber 52 = .ok (.getfield 7, 3) := by decide +kernel
theorem dX8_takesNumber_55 : decode cX8_takesNumber 55 = .ok (.aload_n 0, 1) := by decide +kernel
theorem dX8_takesNumber_56 : decode cX8_takesNumber 56 = .ok (.getfield 80, 3) := by decide +kernel
theorem dX8_takesNumber_59 : decode cX8_takesNumber 59 = .ok (.baload, 1) := by decide +kernel
theorem dX8_takesNumber_60 : decode cX8_takesNumber 60 = .ok (.iadd, 1) := by decide +kernel
theorem dX8_takesNumber_61 : decode cX8_takesNumber 61 = .ok (.bipush 48, 2) := by decide +kernel
theorem dX8_takesNumber_63 : decode cX8_takesNumber 63 = .ok (.isub, 1) := by decide +kernel
theorem dX8_takesNumber_64 : decode cX8_takesNumber 64 = .ok (.istore_n 3, 1) := by decide +kernel
theorem dX8_takesNumber_65 : decode cX8_takesNumber 65 = .ok (.aload_n 0, 1) := by decide +kernel
theorem dX8_takesNumber_66 : decode cX8_takesNumber 66 = .ok (.dup, 1) := by decide +kernel
theorem dX8_takesNumber_67 : decode cX8_takesNumber 67 = .ok (.getfield 80, 3) := by decide +kernel
theorem dX8_takesNumber_70 : decode cX8_takesNumber 70 = .ok (.iconst 1, 1) := by decide +kernel
theorem dX8_takesNumber_71 : decode cX8_takesNumber 71 = .ok (.iadd, 1) := by decide +kernel
theorem dX8_takesNumber_72 : decode cX8_takesNumber 72 = .ok (.putfield 80, 3) := by decide +kernel
theorem dX8_takesNumber_75 : decode cX8_takesNumber 75 = .ok (.aload_n 0, 1) := by decide +kernel
theorem dX8_takesNumber_76 : decode cX8_takesNumber 76 = .ok (.aload_n 0, 1) := by decide +kernel
theorem dX8_takesNumber_77 : decode cX8_takesNumber 77 = .ok (.getfield 83, 3) := by decide +kernel
theorem dX8_takesNumber_80 : decode cX8_takesNumber 80 = .ok (.ifCond .eq 16, 3) := by decide +kernel
theorem dX8_takesNumber_83 : decode cX8_takesNumber 83 = .ok (.iload_n 3, 1) := by decide +kernel
theorem dX8_takesNumber_84 : decode cX8_takesNumber 84 = .ok (.iload_n 1, 1) := by decide +kernel
theorem dX8_takesNumber_85 : decode cX8_takesNumber 85 = .ok (.iload_n 2, 1) := by decide +kernel
theorem dX8_takesNumber_86 : decode cX8_takesNumber 86 = .ok (.invokestatic 73, 3) := by decide +kernel
theorem dX8_takesNumber_89 : decode cX8_takesNumber 89 = .ok (.ifCond .eq 7, 3) := by decide +kernel
theorem dX8_takesNumber_92 : decode cX8_takesNumber 92 = .ok (.iconst 1, 1) := by decide +kernel
theorem dX8_takesNumber_93 : decode cX8_takesNumber 93 = .ok (.goto 4, 3) := by decide +kernel
theorem dX8_takesNumber_96 : decode cX8_takesNumber 96 = .ok (.iconst 0, 1) := by decide +kernel
theorem dX8_takesNumber_97 : decode cX8_takesNumber 97 = .ok (.putfield 83, 3) := by decide +kernel
theorem dX8_takesNumber_100 : decode cX8_takesNumber 100 = .ok (.iload_n 3, 1) := by decide +kernel
theorem dX8_takesNumber_101 : decode cX8_takesNumber 101 = .ok (.ireturn, 1) := by decide +kernel
theorem dX8_takesNumbers_0 : decode cX8_takesNumbers 0 = .ok (.iconst 0, 1) := by decide +kernel
theorem dX8_takesNumbers_1 : decode cX8_takesNumbers 1 = .ok (.istore_n 2, 1) := by decide +kernel
theorem dX8_takesNumbers_2 : decode cX8_takesNumbers 2 = .ok (.iload_n 2, 1) := by decide +kernel
theorem dX8_takesNumbers_3 : decode cX8_takesNumbers 3 = .ok (.iload_n 1, 1) := by decide +kernel
theorem dX8_takesNumbers_4 : decode cX8_takesNumbers 4 = .ok (.if_icmp .ge 32, 3) := by decide +kernel
theorem dX8_takesNumbers_7 : decode cX8_takesNumbers 7 = .ok (.iload_n 2, 1) := by decide +kernel
theorem dX8_takesNumbers_8 : decode cX8_takesNumbers 8 = .ok (.ifCond .le 9, 3) := by decide +kernel
theorem dX8_takesNumbers_11 : decode cX8_takesNumbers 11 = .ok (.aload_n 0, 1) := by decide +kernel
theorem dX8_takesNumbers_12 : decode cX8_takesNumbers 12 = .ok (.bipush 44, 2) := by decide +kernel
theorem dX8_takesNumbers_14 : decode cX8_takesNumbers 14 = .ok (.invokevirtual 91, 3) := by decide +kernel
theorem dX8_takesNumbers_17 : decode cX8_takesNumbers 17 = .ok (.aload_n 0, 1) := by decide +kernel
theorem dX8_takesNumbers_18 : decode cX8_takesNumbers 18 = .ok (.getfield 26, 3) := by decide +kernel
theorem dX8_takesNumbers_21 : decode cX8_takesNumbers 21 = .ok (.iload_n 2, 1) := by decide +kernel
theorem dX8_takesNumbers_22 : decode cX8_takesNumbers 22 = .ok (.aload_n 0, 1) := by decide +kernel
theorem dX8_takesNumbers_23 : decode cX8_takesNumbers 23 = .ok (.iconst 0, 1) := by decide +kernel
theorem dX8_takesNumbers_24 : decode cX8_takesNumbers 24 = .ok (.bipush 99, 2) := by decide +kernel
theorem dX8_takesNumbers_26 : decode cX8_takesNumbers 26 = .ok (.invokevirtual 95, 3) := by decide +kernel
theorem dX8_takesNumbers_29 : decode cX8_takesNumbers 29 = .ok (.iastore, 1) := by decide +kernel
theorem dX8_takesNumbers_30 : decode cX8_takesNumbers 30 = .ok (.iinc 2 1, 3) := by decide +kernel
theorem dX8_takesNumbers_33 : decode cX8_takesNumbers 33 = .ok (.goto (-31), 3) := by decide +kernel
theorem dX8_takesNumbers_36 : decode cX8_takesNumbers 36 = .ok (.aload_n 0, 1) := by decide +kernel
theorem dX8_takesNumbers_37 : decode cX8_takesNumbers 37 = .ok (.bipush 59, 2) := by decide +kernel
theorem dX8_takesNumbers_39 : decode cX8_takesNumbers 39 = .ok (.invokevirtual 91, 3) := by decide +kernel
theorem dX8_takesNumbers_42 : decode cX8_takesNumbers 42 = .ok (.return_, 1) := by decide +kernel
theorem dX8_draftFrees_0 : decode cX8_draftFrees 0 = .ok (.iconst 0, 1) := by decide +kernel
theorem dX8_draftFrees_1 : decode cX8_draftFrees 1 = .ok (.istore_n 1, 1) := by decide +kernel
theorem dX8_draftFrees_2 : decode cX8_draftFrees 2 = .ok (.iconst 0, 1) := by decide +kernel
theorem dX8_draftFrees_3 : decode cX8_draftFrees 3 = .ok (.istore_n 2, 1) := by decide +kernel
theorem dX8_draftFrees_4 : decode cX8_draftFrees 4 = .ok (.iload_n 2, 1) := by decide +kernel
theorem dX8_draftFrees_5 : decode cX8_draftFrees 5 = .ok (.aload_n 0, 1) := by decide +kernel
theorem dX8_draftFrees_6 : decode cX8_draftFrees 6 = .ok (.getfield 17, 3) := by decide +kernel
theorem dX8_draftFrees_9 : decode cX8_draftFrees 9 = .ok (.iconst 0, 1) := by decide +kernel
theorem dX8_draftFrees_10 : decode cX8_draftFrees 10 = .ok (.iaload, 1) := by decide +kernel
theorem dX8_draftFrees_11 : decode cX8_draftFrees 11 = .ok (.if_icmp .ge 20, 3) := by decide +kernel
theorem dX8_draftFrees_14 : decode cX8_draftFrees 14 = .ok (.iload_n 1, 1) := by decide +kernel
theorem dX8_draftFrees_15 : decode cX8_draftFrees 15 = .ok (.aload_n 0, 1) := by decide +kernel
theorem dX8_draftFrees_16 : decode cX8_draftFrees 16 = .ok (.getfield 17, 3) := by decide +kernel
theorem dX8_draftFrees_19 : decode cX8_draftFrees 19 = .ok (.iconst 4, 1) := by decide +kernel
theorem dX8_draftFrees_20 : decode cX8_draftFrees 20 = .ok (.iload_n 2, 1) := by decide +kernel
theorem dX8_draftFrees_21 : decode cX8_draftFrees 21 = .ok (.iadd, 1) := by decide +kernel
theorem dX8_draftFrees_22 : decode cX8_draftFrees 22 = .ok (.iaload, 1) := by decide +kernel
theorem dX8_draftFrees_23 : decode cX8_draftFrees 23 = .ok (.iadd, 1) := by decide +kernel
theorem dX8_draftFrees_24 : decode cX8_draftFrees 24 = .ok (.istore_n 1, 1) := by decide +kernel
theorem dX8_draftFrees_25 : decode cX8_draftFrees 25 = .ok (.iinc 2 1, 3) := by decide +kernel
theorem dX8_draftFrees_28 : decode cX8_draftFrees 28 = .ok (.goto (-24), 3) := by decide +kernel
theorem dX8_draftFrees_31 : decode cX8_draftFrees 31 = .ok (.iload_n 1, 1) := by decide +kernel
theorem dX8_draftFrees_32 : decode cX8_draftFrees 32 = .ok (.ireturn, 1) := by decide +kernel
theorem dX8_takesFixed_0 : decode cX8_takesFixed 0 = .ok (.aload_n 0, 1) := by decide +kernel
theorem dX8_takesFixed_1 : decode cX8_takesFixed 1 = .ok (.iconst 3, 1) := by decide +kernel
theorem dX8_takesFixed_2 : decode cX8_takesFixed 2 = .ok (.invokevirtual 99, 3) := by decide +kernel
theorem dX8_takesFixed_5 : decode cX8_takesFixed 5 = .ok (.aload_n 0, 1) := by decide +kernel
theorem dX8_takesFixed_6 : decode cX8_takesFixed 6 = .ok (.aload_n 0, 1) := by decide +kernel
theorem dX8_takesFixed_7 : decode cX8_takesFixed 7 = .ok (.getfield 83, 3) := by decide +kernel
theorem dX8_takesFixed_10 : decode cX8_takesFixed 10 = .ok (.ifCond .eq 51, 3) := by decide +kernel
theorem dX8_takesFixed_13 : decode cX8_takesFixed 13 = .ok (.aload_n 0, 1) := by decide +kernel
theorem dX8_takesFixed_14 : decode cX8_takesFixed 14 = .ok (.getfield 17, 3) := by decide +kernel
theorem dX8_takesFixed_17 : decode cX8_takesFixed 17 = .ok (.iconst 0, 1) := by decide +kernel
theorem dX8_takesFixed_18 : decode cX8_takesFixed 18 = .ok (.iaload, 1) := by decide +kernel
theorem dX8_takesFixed_19 : decode cX8_takesFixed 19 = .ok (.bipush 10, 2) := by decide +kernel
theorem dX8_takesFixed_21 : decode cX8_takesFixed 21 = .ok (.if_icmp .ge 40, 3) := by decide +kernel
theorem dX8_takesFixed_24 : decode cX8_takesFixed 24 = .ok (.aload_n 0, 1) := by decide +kernel
theorem dX8_takesFixed_25 : decode cX8_takesFixed 25 = .ok (.getfield 26, 3) := by decide +kernel
theorem dX8_takesFixed_28 : decode cX8_takesFixed 28 = .ok (.iconst 0, 1) := by decide +kernel
theorem dX8_takesFixed_29 : decode cX8_takesFixed 29 = .ok (.iaload, 1) := by decide +kernel
theorem dX8_takesFixed_30 : decode cX8_takesFixed 30 = .ok (.bipush 60, 2) := by decide +kernel
theorem dX8_takesFixed_32 : decode cX8_takesFixed 32 = .ok (.if_icmp .gt 29, 3) := by decide +kernel
theorem dX8_takesFixed_35 : decode cX8_takesFixed 35 = .ok (.aload_n 0, 1) := by decide +kernel
theorem dX8_takesFixed_36 : decode cX8_takesFixed 36 = .ok (.getfield 26, 3) := by decide +kernel
theorem dX8_takesFixed_39 : decode cX8_takesFixed 39 = .ok (.iconst 1, 1) := by decide +kernel
theorem dX8_takesFixed_40 : decode cX8_takesFixed 40 = .ok (.iaload, 1) := by decide +kernel
theorem dX8_takesFixed_41 : decode cX8_takesFixed 41 = .ok (.bipush 60, 2) := by decide +kernel
theorem dX8_takesFixed_43 : decode cX8_takesFixed 43 = .ok (.if_icmp .gt 18, 3) := by decide +kernel
theorem dX8_takesFixed_46 : decode cX8_takesFixed 46 = .ok (.aload_n 0, 1) := by decide +kernel
theorem dX8_takesFixed_47 : decode cX8_takesFixed 47 = .ok (.getfield 26, 3) := by decide +kernel
theorem dX8_takesFixed_50 : decode cX8_takesFixed 50 = .ok (.iconst 2, 1) := by decide +kernel
theorem dX8_takesFixed_51 : decode cX8_takesFixed 51 = .ok (.iaload, 1) := by decide +kernel
theorem dX8_takesFixed_52 : decode cX8_takesFixed 52 = .ok (.bipush 60, 2) := by decide +kernel
theorem dX8_takesFixed_54 : decode cX8_takesFixed 54 = .ok (.if_icmp .gt 7, 3) := by decide +kernel
theorem dX8_takesFixed_57 : decode cX8_takesFixed 57 = .ok (.iconst 1, 1) := by decide +kernel
theorem dX8_takesFixed_58 : decode cX8_takesFixed 58 = .ok (.goto 4, 3) := by decide +kernel
theorem dX8_takesFixed_61 : decode cX8_takesFixed 61 = .ok (.iconst 0, 1) := by decide +kernel
theorem dX8_takesFixed_62 : decode cX8_takesFixed 62 = .ok (.putfield 83, 3) := by decide +kernel
theorem dX8_takesFixed_65 : decode cX8_takesFixed 65 = .ok (.aload_n 0, 1) := by decide +kernel
theorem dX8_takesFixed_66 : decode cX8_takesFixed 66 = .ok (.getfield 83, 3) := by decide +kernel
theorem dX8_takesFixed_69 : decode cX8_takesFixed 69 = .ok (.ifCond .eq 71, 3) := by decide +kernel
theorem dX8_takesFixed_72 : decode cX8_takesFixed 72 = .ok (.aload_n 0, 1) := by decide +kernel
theorem dX8_takesFixed_73 : decode cX8_takesFixed 73 = .ok (.getfield 17, 3) := by decide +kernel
theorem dX8_takesFixed_76 : decode cX8_takesFixed 76 = .ok (.iconst 0, 1) := by decide +kernel
theorem dX8_takesFixed_77 : decode cX8_takesFixed 77 = .ok (.iaload, 1) := by decide +kernel
theorem dX8_takesFixed_78 : decode cX8_takesFixed 78 = .ok (.istore_n 1, 1) := by decide +kernel
theorem dX8_takesFixed_79 : decode cX8_takesFixed 79 = .ok (.aload_n 0, 1) := by decide +kernel
theorem dX8_takesFixed_80 : decode cX8_takesFixed 80 = .ok (.getfield 17, 3) := by decide +kernel
theorem dX8_takesFixed_83 : decode cX8_takesFixed 83 = .ok (.iconst 4, 1) := by decide +kernel
theorem dX8_takesFixed_84 : decode cX8_takesFixed 84 = .ok (.iload_n 1, 1) := by decide +kernel
theorem dX8_takesFixed_85 : decode cX8_takesFixed 85 = .ok (.iadd, 1) := by decide +kernel
theorem dX8_takesFixed_86 : decode cX8_takesFixed 86 = .ok (.iconst 0, 1) := by decide +kernel
theorem dX8_takesFixed_87 : decode cX8_takesFixed 87 = .ok (.iastore, 1) := by decide +kernel
theorem dX8_takesFixed_88 : decode cX8_takesFixed 88 = .ok (.aload_n 0, 1) := by decide +kernel
theorem dX8_takesFixed_89 : decode cX8_takesFixed 89 = .ok (.getfield 17, 3) := by decide +kernel
theorem dX8_takesFixed_92 : decode cX8_takesFixed 92 = .ok (.bipush 44, 2) := by decide +kernel
theorem dX8_takesFixed_94 : decode cX8_takesFixed 94 = .ok (.iload_n 1, 1) := by decide +kernel
theorem dX8_takesFixed_95 : decode cX8_takesFixed 95 = .ok (.iadd, 1) := by decide +kernel
theorem dX8_takesFixed_96 : decode cX8_takesFixed 96 = .ok (.iconst 0, 1) := by decide +kernel
theorem dX8_takesFixed_97 : decode cX8_takesFixed 97 = .ok (.iastore, 1) := by decide +kernel
theorem dX8_takesFixed_98 : decode cX8_takesFixed 98 = .ok (.iconst 0, 1) := by decide +kernel
theorem dX8_takesFixed_99 : decode cX8_takesFixed 99 = .ok (.istore_n 2, 1) := by decide +kernel
theorem dX8_takesFixed_100 : decode cX8_takesFixed 100 = .ok (.iload_n 2, 1) := by decide +kernel
theorem dX8_takesFixed_101 : decode cX8_takesFixed 101 = .ok (.iconst 3, 1) := by decide +kernel
theorem dX8_takesFixed_102 : decode cX8_takesFixed 102 = .ok (.if_icmp .ge 28, 3) := by decide +kernel
theorem dX8_takesFixed_105 : decode cX8_takesFixed 105 = .ok (.aload_n 0, 1) := by decide +kernel
theorem dX8_takesFixed_106 : decode cX8_takesFixed 106 = .ok (.getfield 17, 3) := by decide +kernel
theorem dX8_takesFixed_109 : decode cX8_takesFixed 109 = .ok (.bipush 14, 2) := by decide +kernel
theorem dX8_takesFixed_111 : decode cX8_takesFixed 111 = .ok (.iconst 3, 1) := by decide +kernel
theorem dX8_takesFixed_112 : decode cX8_takesFixed 112 = .ok (.iload_n 1, 1) := by decide +kernel
theorem dX8_takesFixed_113 : decode cX8_takesFixed 113 = .ok (.imul, 1) := by decide +kernel
theorem dX8_takesFixed_114 : decode cX8_takesFixed 114 = .ok (.iadd, 1) := by decide +kernel
theorem dX8_takesFixed_115 : decode cX8_takesFixed 115 = .ok (.iload_n 2, 1) := by decide +kernel
theorem dX8_takesFixed_116 : decode cX8_takesFixed 116 = .ok (.iadd, 1) := by decide +kernel
theorem dX8_takesFixed_117 : decode cX8_takesFixed 117 = .ok (.aload_n 0, 1) := by decide +kernel
theorem dX8_takesFixed_118 : decode cX8_takesFixed 118 = .ok (.getfield 26, 3) := by decide +kernel
theorem dX8_takesFixed_121 : decode cX8_takesFixed 121 = .ok (.iload_n 2, 1) := by decide +kernel
theorem dX8_takesFixed_122 : decode cX8_takesFixed 122 = .ok (.iaload, 1) := by decide +kernel
theorem dX8_takesFixed_123 : decode cX8_takesFixed 123 = .ok (.iastore, 1) := by decide +kernel
theorem dX8_takesFixed_124 : decode cX8_takesFixed 124 = .ok (.iinc 2 1, 3) := by decide +kernel
theorem dX8_takesFixed_127 : decode cX8_takesFixed 127 = .ok (.goto (-27), 3) := by decide +kernel
theorem dX8_takesFixed_130 : decode cX8_takesFixed 130 = .ok (.aload_n 0, 1) := by decide +kernel
theorem dX8_takesFixed_131 : decode cX8_takesFixed 131 = .ok (.getfield 17, 3) := by decide +kernel
theorem dX8_takesFixed_134 : decode cX8_takesFixed 134 = .ok (.iconst 0, 1) := by decide +kernel
theorem dX8_takesFixed_135 : decode cX8_takesFixed 135 = .ok (.dup2, 1) := by decide +kernel
theorem dX8_takesFixed_136 : decode cX8_takesFixed 136 = .ok (.iaload, 1) := by decide +kernel
theorem dX8_takesFixed_137 : decode cX8_takesFixed 137 = .ok (.iconst 1, 1) := by decide +kernel
theorem dX8_takesFixed_138 : decode cX8_takesFixed 138 = .ok (.iadd, 1) := by decide +kernel
theorem dX8_takesFixed_139 : decode cX8_takesFixed 139 = .ok (.iastore, 1) := by decide +kernel
theorem dX8_takesFixed_140 : decode cX8_takesFixed 140 = .ok (.return_, 1) := by decide +kernel
theorem dX8_takesFree_0 : decode cX8_takesFree 0 = .ok (.aload_n 0, 1) := by decide +kernel
theorem dX8_takesFree_1 : decode cX8_takesFree 1 = .ok (.iconst 1, 1) := by decide +kernel
theorem dX8_takesFree_2 : decode cX8_takesFree 2 = .ok (.invokevirtual 99, 3) := by decide +kernel
theorem dX8_takesFree_5 : decode cX8_takesFree 5 = .ok (.aload_n 0, 1) := by decide +kernel
theorem dX8_takesFree_6 : decode cX8_takesFree 6 = .ok (.aload_n 0, 1) := by decide +kernel
theorem dX8_takesFree_7 : decode cX8_takesFree 7 = .ok (.getfield 83, 3) := by decide +kernel
theorem dX8_takesFree_10 : decode cX8_takesFree 10 = .ok (.ifCond .eq 37, 3) := by decide +kernel
theorem dX8_takesFree_13 : decode cX8_takesFree 13 = .ok (.aload_n 0, 1) := by decide +kernel
theorem dX8_takesFree_14 : decode cX8_takesFree 14 = .ok (.getfield 17, 3) := by decide +kernel
theorem dX8_takesFree_17 : decode cX8_takesFree 17 = .ok (.iconst 0, 1) := by decide +kernel
theorem dX8_takesFree_18 : decode cX8_takesFree 18 = .ok (.iaload, 1) := by decide +kernel
theorem dX8_takesFree_19 : decode cX8_takesFree 19 = .ok (.bipush 10, 2) := by decide +kernel
theorem dX8_takesFree_21 : decode cX8_takesFree 21 = .ok (.if_icmp .ge 26, 3) := by decide +kernel
theorem dX8_takesFree_24 : decode cX8_takesFree 24 = .ok (.aload_n 0, 1) := by decide +kernel
theorem dX8_takesFree_25 : decode cX8_takesFree 25 = .ok (.invokevirtual 102, 3) := by decide +kernel
theorem dX8_takesFree_28 : decode cX8_takesFree 28 = .ok (.iconst 5, 1) := by decide +kernel
theorem dX8_takesFree_29 : decode cX8_takesFree 29 = .ok (.if_icmp .ge 18, 3) := by decide +kernel
theorem dX8_takesFree_32 : decode cX8_takesFree 32 = .ok (.aload_n 0, 1) := by decide +kernel
theorem dX8_takesFree_33 : decode cX8_takesFree 33 = .ok (.getfield 26, 3) := by decide +kernel
theorem dX8_takesFree_36 : decode cX8_takesFree 36 = .ok (.iconst 0, 1) := by decide +kernel
theorem dX8_takesFree_37 : decode cX8_takesFree 37 = .ok (.iaload, 1) := by decide +kernel
theorem dX8_takesFree_38 : decode cX8_takesFree 38 = .ok (.bipush 18, 2) := by decide +kernel
theorem dX8_takesFree_40 : decode cX8_takesFree 40 = .ok (.if_icmp .gt 7, 3) := by decide +kernel
theorem dX8_takesFree_43 : decode cX8_takesFree 43 = .ok (.iconst 1, 1) := by decide +kernel
theorem dX8_takesFree_44 : decode cX8_takesFree 44 = .ok (.goto 4, 3) := by decide +kernel
theorem dX8_takesFree_47 : decode cX8_takesFree 47 = .ok (.iconst 0, 1) := by decide +kernel
theorem dX8_takesFree_48 : decode cX8_takesFree 48 = .ok (.putfield 83, 3) := by decide +kernel
theorem dX8_takesFree_51 : decode cX8_takesFree 51 = .ok (.aload_n 0, 1) := by decide +kernel
theorem dX8_takesFree_52 : decode cX8_takesFree 52 = .ok (.getfield 83, 3) := by decide +kernel
theorem dX8_takesFree_55 : decode cX8_takesFree 55 = .ok (.ifCond .eq 74, 3) := by decide +kernel
theorem dX8_takesFree_58 : decode cX8_takesFree 58 = .ok (.aload_n 0, 1) := by decide +kernel
theorem dX8_takesFree_59 : decode cX8_takesFree 59 = .ok (.getfield 17, 3) := by decide +kernel
theorem dX8_takesFree_62 : decode cX8_takesFree 62 = .ok (.iconst 0, 1) := by decide +kernel
theorem dX8_takesFree_63 : decode cX8_takesFree 63 = .ok (.iaload, 1) := by decide +kernel
theorem dX8_takesFree_64 : decode cX8_takesFree 64 = .ok (.istore_n 1, 1) := by decide +kernel
theorem dX8_takesFree_65 : decode cX8_takesFree 65 = .ok (.aload_n 0, 1) := by decide +kernel
theorem dX8_takesFree_66 : decode cX8_takesFree 66 = .ok (.getfield 17, 3) := by decide +kernel
theorem dX8_takesFree_69 : decode cX8_takesFree 69 = .ok (.iconst 4, 1) := by decide +kernel
theorem dX8_takesFree_70 : decode cX8_takesFree 70 = .ok (.iload_n 1, 1) := by decide +kernel
theorem dX8_takesFree_71 : decode cX8_takesFree 71 = .ok (.iadd, 1) := by decide +kernel
theorem dX8_takesFree_72 : decode cX8_takesFree 72 = .ok (.iconst 1, 1) := by decide +kernel
theorem dX8_takesFree_73 : decode cX8_takesFree 73 = .ok (.iastore, 1) := by decide +kernel
theorem dX8_takesFree_74 : decode cX8_takesFree 74 = .ok (.aload_n 0, 1) := by decide +kernel
theorem dX8_takesFree_75 : decode cX8_takesFree 75 = .ok (.getfield 17, 3) := by decide +kernel
theorem dX8_takesFree_78 : decode cX8_takesFree 78 = .ok (.bipush 44, 2) := by decide +kernel
theorem dX8_takesFree_80 : decode cX8_takesFree 80 = .ok (.iload_n 1, 1) := by decide +kernel
theorem dX8_takesFree_81 : decode cX8_takesFree 81 = .ok (.iadd, 1) := by decide +kernel
theorem dX8_takesFree_82 : decode cX8_takesFree 82 = .ok (.aload_n 0, 1) := by decide +kernel
theorem dX8_takesFree_83 : decode cX8_takesFree 83 = .ok (.getfield 26, 3) := by decide +kernel
theorem dX8_takesFree_86 : decode cX8_takesFree 86 = .ok (.iconst 0, 1) := by decide +kernel
theorem dX8_takesFree_87 : decode cX8_takesFree 87 = .ok (.iaload, 1) := by decide +kernel
theorem dX8_takesFree_88 : decode cX8_takesFree 88 = .ok (.bipush 9, 2) := by decide +kernel
theorem dX8_takesFree_90 : decode cX8_takesFree 90 = .ok (.isub, 1) := by decide +kernel
theorem dX8_takesFree_91 : decode cX8_takesFree 91 = .ok (.iastore, 1) := by decide +kernel
theorem dX8_takesFree_92 : decode cX8_takesFree 92 = .ok (.iconst 0, 1) := by decide +kernel
theorem dX8_takesFree_93 : decode cX8_takesFree 93 = .ok (.istore_n 2, 1) := by decide +kernel
theorem dX8_takesFree_94 : decode cX8_takesFree 94 = .ok (.iload_n 2, 1) := by decide +kernel
theorem dX8_takesFree_95 : decode cX8_takesFree 95 = .ok (.iconst 3, 1) := by decide +kernel
theorem dX8_takesFree_96 : decode cX8_takesFree 96 = .ok (.if_icmp .ge 23, 3) := by decide +kernel
theorem dX8_takesFree_99 : decode cX8_takesFree 99 = .ok (.aload_n 0, 1) := by decide +kernel
theorem dX8_takesFree_100 : decode cX8_takesFree 100 = .ok (.getfield 17, 3) := by decide +kernel
theorem dX8_takesFree_103 : decode cX8_takesFree 103 = .ok (.bipush 14, 2) := by decide +kernel
theorem dX8_takesFree_105 : decode cX8_takesFree 105 = .ok (.iconst 3, 1) := by decide +kernel
theorem dX8_takesFree_106 : decode cX8_takesFree 106 = .ok (.iload_n 1, 1) := by decide +kernel
theorem dX8_takesFree_107 : decode cX8_takesFree 107 = .ok (.imul, 1) := by decide +kernel
theorem dX8_takesFree_108 : decode cX8_takesFree 108 = .ok (.iadd, 1) := by decide +kernel
theorem dX8_takesFree_109 : decode cX8_takesFree 109 = .ok (.iload_n 2, 1) := by decide +kernel
theorem dX8_takesFree_110 : decode cX8_takesFree 110 = .ok (.iadd, 1) := by decide +kernel
theorem dX8_takesFree_111 : decode cX8_takesFree 111 = .ok (.iconst 0, 1) := by decide +kernel
theorem dX8_takesFree_112 : decode cX8_takesFree 112 = .ok (.iastore, 1) := by decide +kernel
theorem dX8_takesFree_113 : decode cX8_takesFree 113 = .ok (.iinc 2 1, 3) := by decide +kernel
theorem dX8_takesFree_116 : decode cX8_takesFree 116 = .ok (.goto (-22), 3) := by decide +kernel
theorem dX8_takesFree_119 : decode cX8_takesFree 119 = .ok (.aload_n 0, 1) := by decide +kernel
theorem dX8_takesFree_120 : decode cX8_takesFree 120 = .ok (.getfield 17, 3) := by decide +kernel
theorem dX8_takesFree_123 : decode cX8_takesFree 123 = .ok (.iconst 0, 1) := by decide +kernel
theorem dX8_takesFree_124 : decode cX8_takesFree 124 = .ok (.dup2, 1) := by decide +kernel
theorem dX8_takesFree_125 : decode cX8_takesFree 125 = .ok (.iaload, 1) := by decide +kernel
theorem dX8_takesFree_126 : decode cX8_takesFree 126 = .ok (.iconst 1, 1) := by decide +kernel
theorem dX8_takesFree_127 : decode cX8_takesFree 127 = .ok (.iadd, 1) := by decide +kernel
theorem dX8_takesFree_128 : decode cX8_takesFree 128 = .ok (.iastore, 1) := by decide +kernel
theorem dX8_takesFree_129 : decode cX8_takesFree 129 = .ok (.return_, 1) := by decide +kernel
theorem dX8_hasRoom_0 : decode cX8_hasRoom 0 = .ok (.iconst 0, 1) := by decide +kernel
theorem dX8_hasRoom_1 : decode cX8_hasRoom 1 = .ok (.istore_n 2, 1) := by decide +kernel
theorem dX8_hasRoom_2 : decode cX8_hasRoom 2 = .ok (.iconst 0, 1) := by decide +kernel
theorem dX8_hasRoom_3 : decode cX8_hasRoom 3 = .ok (.istore_n 3, 1) := by decide +kernel
theorem dX8_hasRoom_4 : decode cX8_hasRoom 4 = .ok (.iload_n 3, 1) := by decide +kernel
theorem dX8_hasRoom_5 : decode cX8_hasRoom 5 = .ok (.aload_n 0, 1) := by decide +kernel
theorem dX8_hasRoom_6 : decode cX8_hasRoom 6 = .ok (.getfield 17, 3) := by decide +kernel
theorem dX8_hasRoom_9 : decode cX8_hasRoom 9 = .ok (.iconst 1, 1) := by decide +kernel
theorem dX8_hasRoom_10 : decode cX8_hasRoom 10 = .ok (.iaload, 1) := by decide +kernel
theorem dX8_hasRoom_11 : decode cX8_hasRoom 11 = .ok (.if_icmp .ge 49, 3) := by decide +kernel
theorem dX8_hasRoom_14 : decode cX8_hasRoom 14 = .ok (.iload_n 2, 1) := by decide +kernel
theorem dX8_hasRoom_15 : decode cX8_hasRoom 15 = .ok (.aload_n 0, 1) := by decide +kernel
theorem dX8_hasRoom_16 : decode cX8_hasRoom 16 = .ok (.getfield 17, 3) := by decide +kernel
theorem dX8_hasRoom_19 : decode cX8_hasRoom 19 = .ok (.bipush 54, 2) := by decide +kernel
theorem dX8_hasRoom_21 : decode cX8_hasRoom 21 = .ok (.iconst 5, 1) := by decide +kernel
theorem dX8_hasRoom_22 : decode cX8_hasRoom 22 = .ok (.iload_n 3, 1) := by decide +kernel
theorem dX8_hasRoom_23 : decode cX8_hasRoom 23 = .ok (.imul, 1) := by decide +kernel
theorem dX8_hasRoom_24 : decode cX8_hasRoom 24 = .ok (.iadd, 1) := by decide +kernel
theorem dX8_hasRoom_25 : decode cX8_hasRoom 25 = .ok (.iaload, 1) := by decide +kernel
theorem dX8_hasRoom_26 : decode cX8_hasRoom 26 = .ok (.iload_n 1, 1) := by decide +kernel
theorem dX8_hasRoom_27 : decode cX8_hasRoom 27 = .ok (.if_icmp .eq 20, 3) := by decide +kernel
theorem dX8_hasRoom_30 : decode cX8_hasRoom 30 = .ok (.aload_n 0, 1) := by decide +kernel
theorem dX8_hasRoom_31 : decode cX8_hasRoom 31 = .ok (.getfield 17, 3) := by decide +kernel
theorem dX8_hasRoom_34 : decode cX8_hasRoom 34 = .ok (.bipush 54, 2) := by decide +kernel
theorem dX8_hasRoom_36 : decode cX8_hasRoom 36 = .ok (.iconst 5, 1) := by decide +kernel
theorem dX8_hasRoom_37 : decode cX8_hasRoom 37 = .ok (.iload_n 3, 1) := by decide +kernel
theorem dX8_hasRoom_38 : decode cX8_hasRoom 38 = .ok (.imul, 1) := by decide +kernel
theorem dX8_hasRoom_39 : decode cX8_hasRoom 39 = .ok (.iadd, 1) := by decide +kernel
theorem dX8_hasRoom_40 : decode cX8_hasRoom 40 = .ok (.iconst 1, 1) := by decide +kernel
theorem dX8_hasRoom_41 : decode cX8_hasRoom 41 = .ok (.iadd, 1) := by decide +kernel
theorem dX8_hasRoom_42 : decode cX8_hasRoom 42 = .ok (.iaload, 1) := by decide +kernel
theorem dX8_hasRoom_43 : decode cX8_hasRoom 43 = .ok (.iload_n 1, 1) := by decide +kernel
theorem dX8_hasRoom_44 : decode cX8_hasRoom 44 = .ok (.if_icmp .ne 7, 3) := by decide +kernel
theorem dX8_hasRoom_47 : decode cX8_hasRoom 47 = .ok (.iconst 1, 1) := by decide +kernel
theorem dX8_hasRoom_48 : decode cX8_hasRoom 48 = .ok (.goto 4, 3) := by decide +kernel
theorem dX8_hasRoom_51 : decode cX8_hasRoom 51 = .ok (.iconst 0, 1) := by decide +kernel
theorem dX8_hasRoom_52 : decode cX8_hasRoom 52 = .ok (.iadd, 1) := by decide +kernel
theorem dX8_hasRoom_53 : decode cX8_hasRoom 53 = .ok (.istore_n 2, 1) := by decide +kernel
theorem dX8_hasRoom_54 : decode cX8_hasRoom 54 = .ok (.iinc 3 1, 3) := by decide +kernel
theorem dX8_hasRoom_57 : decode cX8_hasRoom 57 = .ok (.goto (-53), 3) := by decide +kernel
theorem dX8_hasRoom_60 : decode cX8_hasRoom 60 = .ok (.aload_n 0, 1) := by decide +kernel
theorem dX8_hasRoom_61 : decode cX8_hasRoom 61 = .ok (.getfield 17, 3) := by decide +kernel
theorem dX8_hasRoom_64 : decode cX8_hasRoom 64 = .ok (.iconst 4, 1) := by decide +kernel
theorem dX8_hasRoom_65 : decode cX8_hasRoom 65 = .ok (.iload_n 1, 1) := by decide +kernel
theorem dX8_hasRoom_66 : decode cX8_hasRoom 66 = .ok (.iadd, 1) := by decide +kernel
theorem dX8_hasRoom_67 : decode cX8_hasRoom 67 = .ok (.iaload, 1) := by decide +kernel
theorem dX8_hasRoom_68 : decode cX8_hasRoom 68 = .ok (.ifCond .eq 8, 3) := by decide +kernel
theorem dX8_hasRoom_71 : decode cX8_hasRoom 71 = .ok (.iload_n 2, 1) := by decide +kernel
theorem dX8_hasRoom_72 : decode cX8_hasRoom 72 = .ok (.iconst 4, 1) := by decide +kernel
theorem dX8_hasRoom_73 : decode cX8_hasRoom 73 = .ok (.if_icmp .ge 7, 3) := by decide +kernel
theorem dX8_hasRoom_76 : decode cX8_hasRoom 76 = .ok (.iconst 1, 1) := by decide +kernel
theorem dX8_hasRoom_77 : decode cX8_hasRoom 77 = .ok (.goto 4, 3) := by decide +kernel
theorem dX8_hasRoom_80 : decode cX8_hasRoom 80 = .ok (.iconst 0, 1) := by decide +kernel
theorem dX8_hasRoom_81 : decode cX8_hasRoom 81 = .ok (.ireturn, 1) := by decide +kernel
theorem dX8_isTied_0 : decode cX8_isTied 0 = .ok (.iconst 0, 1) := by decide +kernel
theorem dX8_isTied_1 : decode cX8_isTied 1 = .ok (.istore_n 3, 1) := by decide +kernel
theorem dX8_isTied_2 : decode cX8_isTied 2 = .ok (.iconst 0, 1) := by decide +kernel
theorem dX8_isTied_3 : decode cX8_isTied 3 = .ok (.istore 4, 2) := by decide +kernel
theorem dX8_isTied_5 : decode cX8_isTied 5 = .ok (.iload 4, 2) := by decide +kernel
theorem dX8_isTied_7 : decode cX8_isTied 7 = .ok (.aload_n 0, 1) := by decide +kernel
theorem dX8_isTied_8 : decode cX8_isTied 8 = .ok (.getfield 17, 3) := by decide +kernel
theorem dX8_isTied_11 : decode cX8_isTied 11 = .ok (.iconst 1, 1) := by decide +kernel
theorem dX8_isTied_12 : decode cX8_isTied 12 = .ok (.iaload, 1) := by decide +kernel
theorem dX8_isTied_13 : decode cX8_isTied 13 = .ok (.if_icmp .ge 73, 3) := by decide +kernel
theorem dX8_isTied_16 : decode cX8_isTied 16 = .ok (.aload_n 0, 1) := by decide +kernel
theorem dX8_isTied_17 : decode cX8_isTied 17 = .ok (.getfield 17, 3) := by decide +kernel
theorem dX8_isTied_20 : decode cX8_isTied 20 = .ok (.bipush 54, 2) := by decide +kernel
theorem dX8_isTied_22 : decode cX8_isTied 22 = .ok (.iconst 5, 1) := by decide +kernel
theorem dX8_isTied_23 : decode cX8_isTied 23 = .ok (.iload 4, 2) := by decide +kernel
theorem dX8_isTied_25 : decode cX8_isTied 25 = .ok (.imul, 1) := by decide +kernel
theorem dX8_isTied_26 : decode cX8_isTied 26 = .ok (.iadd, 1) := by decide +kernel
theorem dX8_isTied_27 : decode cX8_isTied 27 = .ok (.iaload, 1) := by decide +kernel
theorem dX8_isTied_28 : decode cX8_isTied 28 = .ok (.istore 5, 2) := by decide +kernel
theorem dX8_isTied_30 : decode cX8_isTied 30 = .ok (.aload_n 0, 1) := by decide +kernel
theorem dX8_isTied_31 : decode cX8_isTied 31 = .ok (.getfield 17, 3) := by decide +kernel
theorem dX8_isTied_34 : decode cX8_isTied 34 = .ok (.bipush 54, 2) := by decide +kernel
theorem dX8_isTied_36 : decode cX8_isTied 36 = .ok (.iconst 5, 1) := by decide +kernel
theorem dX8_isTied_37 : decode cX8_isTied 37 = .ok (.iload 4, 2) := by decide +kernel
theorem dX8_isTied_39 : decode cX8_isTied 39 = .ok (.imul, 1) := by decide +kernel
theorem dX8_isTied_40 : decode cX8_isTied 40 = .ok (.iadd, 1) := by decide +kernel
theorem dX8_isTied_41 : decode cX8_isTied 41 = .ok (.iconst 1, 1) := by decide +kernel
theorem dX8_isTied_42 : decode cX8_isTied 42 = .ok (.iadd, 1) := by decide +kernel
theorem dX8_isTied_43 : decode cX8_isTied 43 = .ok (.iaload, 1) := by decide +kernel
theorem dX8_isTied_44 : decode cX8_isTied 44 = .ok (.istore 6, 2) := by decide +kernel
theorem dX8_isTied_46 : decode cX8_isTied 46 = .ok (.iload_n 3, 1) := by decide +kernel
theorem dX8_isTied_47 : decode cX8_isTied 47 = .ok (.ifCond .ne 27, 3) := by decide +kernel
theorem dX8_isTied_50 : decode cX8_isTied 50 = .ok (.iload 5, 2) := by decide +kernel
theorem dX8_isTied_52 : decode cX8_isTied 52 = .ok (.iload_n 1, 1) := by decide +kernel
theorem dX8_isTied_53 : decode cX8_isTied 53 = .ok (.if_icmp .ne 9, 3) := by decide +kernel
theorem dX8_isTied_56 : decode cX8_isTied 56 = .ok (.iload 6, 2) := by decide +kernel
theorem dX8_isTied_58 : decode cX8_isTied 58 = .ok (.iload_n 2, 1) := by decide +kernel
theorem dX8_isTied_59 : decode cX8_isTied 59 = .ok (.if_icmp .eq 15, 3) := by decide +kernel
theorem dX8_isTied_62 : decode cX8_isTied 62 = .ok (.iload 5, 2) := by decide +kernel
theorem dX8_isTied_64 : decode cX8_isTied 64 = .ok (.iload_n 2, 1) := by decide +kernel
theorem dX8_isTied_65 : decode cX8_isTied 65 = .ok (.if_icmp .ne 13, 3) := by decide +kernel
theorem dX8_isTied_68 : decode cX8_isTied 68 = .ok (.iload 6, 2) := by decide +kernel
theorem dX8_isTied_70 : decode cX8_isTied 70 = .ok (.iload_n 1, 1) := by decide +kernel
theorem dX8_isTied_71 : decode cX8_isTied 71 = .ok (.if_icmp .ne 7, 3) := by decide +kernel
theorem dX8_isTied_74 : decode cX8_isTied 74 = .ok (.iconst 1, 1) := by decide +kernel
theorem dX8_isTied_75 : decode cX8_isTied 75 = .ok (.goto 4, 3) := by decide +kernel
theorem dX8_isTied_78 : decode cX8_isTied 78 = .ok (.iconst 0, 1) := by decide +kernel
theorem dX8_isTied_79 : decode cX8_isTied 79 = .ok (.istore_n 3, 1) := by decide +kernel
theorem dX8_isTied_80 : decode cX8_isTied 80 = .ok (.iinc 4 1, 3) := by decide +kernel
theorem dX8_isTied_83 : decode cX8_isTied 83 = .ok (.goto (-78), 3) := by decide +kernel
theorem dX8_isTied_86 : decode cX8_isTied 86 = .ok (.iload_n 3, 1) := by decide +kernel
theorem dX8_isTied_87 : decode cX8_isTied 87 = .ok (.ireturn, 1) := by decide +kernel
theorem dX8_takesStrand_0 : decode cX8_takesStrand 0 = .ok (.aload_n 0, 1) := by decide +kernel
theorem dX8_takesStrand_1 : decode cX8_takesStrand 1 = .ok (.iconst 4, 1) := by decide +kernel
theorem dX8_takesStrand_2 : decode cX8_takesStrand 2 = .ok (.invokevirtual 99, 3) := by decide +kernel
theorem dX8_takesStrand_5 : decode cX8_takesStrand 5 = .ok (.aload_n 0, 1) := by decide +kernel
theorem dX8_takesStrand_6 : decode cX8_takesStrand 6 = .ok (.getfield 26, 3) := by decide +kernel
theorem dX8_takesStrand_9 : decode cX8_takesStrand 9 = .ok (.iconst 0, 1) := by decide +kernel
theorem dX8_takesStrand_10 : decode cX8_takesStrand 10 = .ok (.iaload, 1) := by decide +kernel
theorem dX8_takesStrand_11 : decode cX8_takesStrand 11 = .ok (.istore_n 1, 1) := by decide +kernel
theorem dX8_takesStrand_12 : decode cX8_takesStrand 12 = .ok (.aload_n 0, 1) := by decide +kernel
theorem dX8_takesStrand_13 : decode cX8_takesStrand 13 = .ok (.getfield 26, 3) := by decide +kernel
theorem dX8_takesStrand_16 : decode cX8_takesStrand 16 = .ok (.iconst 1, 1) := by decide +kernel
theorem dX8_takesStrand_17 : decode cX8_takesStrand 17 = .ok (.iaload, 1) := by decide +kernel
theorem dX8_takesStrand_18 : decode cX8_takesStrand 18 = .ok (.istore_n 2, 1) := by decide +kernel
theorem dX8_takesStrand_19 : decode cX8_takesStrand 19 = .ok (.aload_n 0, 1) := by decide +kernel
theorem dX8_takesStrand_20 : decode cX8_takesStrand 20 = .ok (.aload_n 0, 1) := by decide +kernel
theorem dX8_takesStrand_21 : decode cX8_takesStrand 21 = .ok (.getfield 83, 3) := by decide +kernel
theorem dX8_takesStrand_24 : decode cX8_takesStrand 24 = .ok (.ifCond .eq 57, 3) := by decide +kernel
theorem dX8_takesStrand_27 : decode cX8_takesStrand 27 = .ok (.aload_n 0, 1) := by decide +kernel
theorem dX8_takesStrand_28 : decode cX8_takesStrand 28 = .ok (.getfield 17, 3) := by decide +kernel
theorem dX8_takesStrand_31 : decode cX8_takesStrand 31 = .ok (.iconst 1, 1) := by decide +kernel
theorem dX8_takesStrand_32 : decode cX8_takesStrand 32 = .ok (.iaload, 1) := by decide +kernel
theorem dX8_takesStrand_33 : decode cX8_takesStrand 33 = .ok (.bipush 14, 2) := by decide +kernel
theorem dX8_takesStrand_35 : decode cX8_takesStrand 35 = .ok (.if_icmp .ge 46, 3) := by decide +kernel
theorem dX8_takesStrand_38 : decode cX8_takesStrand 38 = .ok (.iload_n 1, 1) := by decide +kernel
theorem dX8_takesStrand_39 : decode cX8_takesStrand 39 = .ok (.aload_n 0, 1) := by decide +kernel
theorem dX8_takesStrand_40 : decode cX8_takesStrand 40 = .ok (.getfield 17, 3) := by decide +kernel
theorem dX8_takesStrand_43 : decode cX8_takesStrand 43 = .ok (.iconst 0, 1) := by decide +kernel
theorem dX8_takesStrand_44 : decode cX8_takesStrand 44 = .ok (.iaload, 1) := by decide +kernel
theorem dX8_takesStrand_45 : decode cX8_takesStrand 45 = .ok (.if_icmp .ge 36, 3) := by decide +kernel
theorem dX8_takesStrand_48 : decode cX8_takesStrand 48 = .ok (.iload_n 2, 1) := by decide +kernel
theorem dX8_takesStrand_49 : decode cX8_takesStrand 49 = .ok (.aload_n 0, 1) := by decide +kernel
theorem dX8_takesStrand_50 : decode cX8_takesStrand 50 = .ok (.getfield 17, 3) := by decide +kernel
theorem dX8_takesStrand_53 : decode cX8_takesStrand 53 = .ok (.iconst 0, 1) := by decide +kernel
theorem dX8_takesStrand_54 : decode cX8_takesStrand 54 = .ok (.iaload, 1) := by decide +kernel
theorem dX8_takesStrand_55 : decode cX8_takesStrand 55 = .ok (.if_icmp .ge 26, 3) := by decide +kernel
theorem dX8_takesStrand_58 : decode cX8_takesStrand 58 = .ok (.iload_n 1, 1) := by decide +kernel
theorem dX8_takesStrand_59 : decode cX8_takesStrand 59 = .ok (.iload_n 2, 1) := by decide +kernel
theorem dX8_takesStrand_60 : decode cX8_takesStrand 60 = .ok (.if_icmp .eq 21, 3) := by decide +kernel
theorem dX8_takesStrand_63 : decode cX8_takesStrand 63 = .ok (.aload_n 0, 1) := by decide +kernel
theorem dX8_takesStrand_64 : decode cX8_takesStrand 64 = .ok (.getfield 26, 3) := by decide +kernel
theorem dX8_takesStrand_67 : decode cX8_takesStrand 67 = .ok (.iconst 2, 1) := by decide +kernel
theorem dX8_takesStrand_68 : decode cX8_takesStrand 68 = .ok (.iaload, 1) := by decide +kernel
theorem dX8_takesStrand_69 : decode cX8_takesStrand 69 = .ok (.iconst 1, 1) := by decide +kernel
theorem dX8_takesStrand_70 : decode cX8_takesStrand 70 = .ok (.iconst 5, 1) := by decide +kernel
theorem dX8_takesStrand_71 : decode cX8_takesStrand 71 = .ok (.invokestatic 73, 3) := by decide +kernel
theorem dX8_takesStrand_74 : decode cX8_takesStrand 74 = .ok (.ifCond .eq 7, 3) := by decide +kernel
theorem dX8_takesStrand_77 : decode cX8_takesStrand 77 = .ok (.iconst 1, 1) := by decide +kernel
theorem dX8_takesStrand_78 : decode cX8_takesStrand 78 = .ok (.goto 4, 3) := by decide +kernel
theorem dX8_takesStrand_81 : decode cX8_takesStrand 81 = .ok (.iconst 0, 1) := by decide +kernel
theorem dX8_takesStrand_82 : decode cX8_takesStrand 82 = .ok (.putfield 83, 3) := by decide +kernel
theorem dX8_takesStrand_85 : decode cX8_takesStrand 85 = .ok (.aload_n 0, 1) := by decide +kernel
theorem dX8_takesStrand_86 : decode cX8_takesStrand 86 = .ok (.aload_n 0, 1) := by decide +kernel
theorem dX8_takesStrand_87 : decode cX8_takesStrand 87 = .ok (.getfield 83, 3) := by decide +kernel
theorem dX8_takesStrand_90 : decode cX8_takesStrand 90 = .ok (.ifCond .eq 32, 3) := by decide +kernel
theorem dX8_takesStrand_93 : decode cX8_takesStrand 93 = .ok (.aload_n 0, 1) := by decide +kernel
theorem dX8_takesStrand_94 : decode cX8_takesStrand 94 = .ok (.iload_n 1, 1) := by decide +kernel
theorem dX8_takesStrand_95 : decode cX8_takesStrand 95 = .ok (.invokevirtual 106, 3) := by decide +kernel
theorem dX8_takesStrand_98 : decode cX8_takesStrand 98 = .ok (.ifCond .eq 24, 3) := by decide +kernel
theorem dX8_takesStrand_101 : decode cX8_takesStrand 101 = .ok (.aload_n 0, 1) := by decide +kernel
theorem dX8_takesStrand_102 : decode cX8_takesStrand 102 = .ok (.iload_n 2, 1) := by decide +kernel
theorem dX8_takesStrand_103 : decode cX8_takesStrand 103 = .ok (.invokevirtual 106, 3) := by decide +kernel
theorem dX8_takesStrand_106 : decode cX8_takesStrand 106 = .ok (.ifCond .eq 16, 3) := by decide +kernel
theorem dX8_takesStrand_109 : decode cX8_takesStrand 109 = .ok (.aload_n 0, 1) := by decide +kernel
theorem dX8_takesStrand_110 : decode cX8_takesStrand 110 = .ok (.iload_n 1, 1) := by decide +kernel
theorem dX8_takesStrand_111 : decode cX8_takesStrand 111 = .ok (.iload_n 2, 1) := by decide +kernel
theorem dX8_takesStrand_112 : decode cX8_takesStrand 112 = .ok (.invokevirtual 109, 3) := by decide +kernel
theorem dX8_takesStrand_115 : decode cX8_takesStrand 115 = .ok (.ifCond .ne 7, 3) := by decide +kernel
theorem dX8_takesStrand_118 : decode cX8_takesStrand 118 = .ok (.iconst 1, 1) := by decide +kernel
theorem dX8_takesStrand_119 : decode cX8_takesStrand 119 = .ok (.goto 4, 3) := by decide +kernel
theorem dX8_takesStrand_122 : decode cX8_takesStrand 122 = .ok (.iconst 0, 1) := by decide +kernel
theorem dX8_takesStrand_123 : decode cX8_takesStrand 123 = .ok (.putfield 83, 3) := by decide +kernel
theorem dX8_takesStrand_126 : decode cX8_takesStrand 126 = .ok (.aload_n 0, 1) := by decide +kernel
theorem dX8_takesStrand_127 : decode cX8_takesStrand 127 = .ok (.getfield 83, 3) := by decide +kernel
theorem dX8_takesStrand_130 : decode cX8_takesStrand 130 = .ok (.ifCond .eq 69, 3) := by decide +kernel
theorem dX8_takesStrand_133 : decode cX8_takesStrand 133 = .ok (.iconst 0, 1) := by decide +kernel
theorem dX8_takesStrand_134 : decode cX8_takesStrand 134 = .ok (.istore_n 3, 1) := by decide +kernel
theorem dX8_takesStrand_135 : decode cX8_takesStrand 135 = .ok (.iload_n 3, 1) := by decide +kernel
theorem dX8_takesStrand_136 : decode cX8_takesStrand 136 = .ok (.iconst 4, 1) := by decide +kernel
theorem dX8_takesStrand_137 : decode cX8_takesStrand 137 = .ok (.if_icmp .ge 33, 3) := by decide +kernel
theorem dX8_takesStrand_140 : decode cX8_takesStrand 140 = .ok (.aload_n 0, 1) := by decide +kernel
theorem dX8_takesStrand_141 : decode cX8_takesStrand 141 = .ok (.getfield 17, 3) := by decide +kernel
theorem dX8_takesStrand_144 : decode cX8_takesStrand 144 = .ok (.bipush 54, 2) := by decide +kernel
theorem dX8_takesStrand_146 : decode cX8_takesStrand 146 = .ok (.iconst 5, 1) := by decide +kernel
theorem dX8_takesStrand_147 : decode cX8_takesStrand 147 = .ok (.aload_n 0, 1) := by decide +kernel
theorem dX8_takesStrand_148 : decode cX8_takesStrand 148 = .ok (.getfield 17, 3) := by decide +kernel
theorem dX8_takesStrand_151 : decode cX8_takesStrand 151 = .ok (.iconst 1, 1) := by decide +kernel
theorem dX8_takesStrand_152 : decode cX8_takesStrand 152 = .ok (.iaload, 1) := by decide +kernel
theorem dX8_takesStrand_153 : decode cX8_takesStrand 153 = .ok (.imul, 1) := by decide +kernel
theorem dX8_takesStrand_154 : decode cX8_takesStrand 154 = .ok (.iadd, 1) := by decide +kernel
theorem dX8_takesStrand_155 : decode cX8_takesStrand 155 = .ok (.iload_n 3, 1) := by decide +kernel
theorem dX8_takesStrand_156 : decode cX8_takesStrand 156 = .ok (.iadd, 1) := by decide +kernel
theorem dX8_takesStrand_157 : decode cX8_takesStrand 157 = .ok (.aload_n 0, 1) := by decide +kernel
theorem dX8_takesStrand_158 : decode cX8_takesStrand 158 = .ok (.getfield 26, 3) := by decide +kernel
theorem dX8_takesStrand_161 : decode cX8_takesStrand 161 = .ok (.iload_n 3, 1) := by decide +kernel
theorem dX8_takesStrand_162 : decode cX8_takesStrand 162 = .ok (.iaload, 1) := by decide +kernel
theorem dX8_takesStrand_163 : decode cX8_takesStrand 163 = .ok (.iastore, 1) := by decide +kernel
theorem dX8_takesStrand_164 : decode cX8_takesStrand 164 = .ok (.iinc 3 1, 3) := by decide +kernel
theorem dX8_takesStrand_167 : decode cX8_takesStrand 167 = .ok (.goto (-32), 3) := by decide +kernel
theorem dX8_takesStrand_170 : decode cX8_takesStrand 170 = .ok (.aload_n 0, 1) := by decide +kernel
theorem dX8_takesStrand_171 : decode cX8_takesStrand 171 = .ok (.getfield 17, 3) := by decide +kernel
theorem dX8_takesStrand_174 : decode cX8_takesStrand 174 = .ok (.bipush 54, 2) := by decide +kernel
theorem dX8_takesStrand_176 : decode cX8_takesStrand 176 = .ok (.iconst 5, 1) := by decide +kernel
theorem dX8_takesStrand_177 : decode cX8_takesStrand 177 = .ok (.aload_n 0, 1) := by decide +kernel
theorem dX8_takesStrand_178 : decode cX8_takesStrand 178 = .ok (.getfield 17, 3) := by decide +kernel
theorem dX8_takesStrand_181 : decode cX8_takesStrand 181 = .ok (.iconst 1, 1) := by decide +kernel
theorem dX8_takesStrand_182 : decode cX8_takesStrand 182 = .ok (.iaload, 1) := by decide +kernel
theorem dX8_takesStrand_183 : decode cX8_takesStrand 183 = .ok (.imul, 1) := by decide +kernel
theorem dX8_takesStrand_184 : decode cX8_takesStrand 184 = .ok (.iadd, 1) := by decide +kernel
theorem dX8_takesStrand_185 : decode cX8_takesStrand 185 = .ok (.iconst 4, 1) := by decide +kernel
theorem dX8_takesStrand_186 : decode cX8_takesStrand 186 = .ok (.iadd, 1) := by decide +kernel
theorem dX8_takesStrand_187 : decode cX8_takesStrand 187 = .ok (.iconst 0, 1) := by decide +kernel
theorem dX8_takesStrand_188 : decode cX8_takesStrand 188 = .ok (.iastore, 1) := by decide +kernel
theorem dX8_takesStrand_189 : decode cX8_takesStrand 189 = .ok (.aload_n 0, 1) := by decide +kernel
theorem dX8_takesStrand_190 : decode cX8_takesStrand 190 = .ok (.getfield 17, 3) := by decide +kernel
theorem dX8_takesStrand_193 : decode cX8_takesStrand 193 = .ok (.iconst 1, 1) := by decide +kernel
theorem dX8_takesStrand_194 : decode cX8_takesStrand 194 = .ok (.dup2, 1) := by decide +kernel
theorem dX8_takesStrand_195 : decode cX8_takesStrand 195 = .ok (.iaload, 1) := by decide +kernel
theorem dX8_takesStrand_196 : decode cX8_takesStrand 196 = .ok (.iconst 1, 1) := by decide +kernel
theorem dX8_takesStrand_197 : decode cX8_takesStrand 197 = .ok (.iadd, 1) := by decide +kernel
theorem dX8_takesStrand_198 : decode cX8_takesStrand 198 = .ok (.iastore, 1) := by decide +kernel
theorem dX8_takesStrand_199 : decode cX8_takesStrand 199 = .ok (.return_, 1) := by decide +kernel
theorem dX8_takesRolls_0 : decode cX8_takesRolls 0 = .ok (.aload_n 0, 1) := by decide +kernel
theorem dX8_takesRolls_1 : decode cX8_takesRolls 1 = .ok (.iconst 2, 1) := by decide +kernel
theorem dX8_takesRolls_2 : decode cX8_takesRolls 2 = .ok (.invokevirtual 99, 3) := by decide +kernel
theorem dX8_takesRolls_5 : decode cX8_takesRolls 5 = .ok (.aload_n 0, 1) := by decide +kernel
theorem dX8_takesRolls_6 : decode cX8_takesRolls 6 = .ok (.aload_n 0, 1) := by decide +kernel
theorem dX8_takesRolls_7 : decode cX8_takesRolls 7 = .ok (.getfield 83, 3) := by decide +kernel
theorem dX8_takesRolls_10 : decode cX8_takesRolls 10 = .ok (.ifCond .eq 27, 3) := by decide +kernel
theorem dX8_takesRolls_13 : decode cX8_takesRolls 13 = .ok (.aload_n 0, 1) := by decide +kernel
theorem dX8_takesRolls_14 : decode cX8_takesRolls 14 = .ok (.getfield 26, 3) := by decide +kernel
theorem dX8_takesRolls_17 : decode cX8_takesRolls 17 = .ok (.iconst 0, 1) := by decide +kernel
theorem dX8_takesRolls_18 : decode cX8_takesRolls 18 = .ok (.iaload, 1) := by decide +kernel
theorem dX8_takesRolls_19 : decode cX8_takesRolls 19 = .ok (.ifCond .le 18, 3) := by decide +kernel
theorem dX8_takesRolls_22 : decode cX8_takesRolls 22 = .ok (.aload_n 0, 1) := by decide +kernel
theorem dX8_takesRolls_23 : decode cX8_takesRolls 23 = .ok (.getfield 26, 3) := by decide +kernel
theorem dX8_takesRolls_26 : decode cX8_takesRolls 26 = .ok (.iconst 1, 1) := by decide +kernel
theorem dX8_takesRolls_27 : decode cX8_takesRolls 27 = .ok (.iaload, 1) := by decide +kernel
theorem dX8_takesRolls_28 : decode cX8_takesRolls 28 = .ok (.bipush 50, 2) := by decide +kernel
theorem dX8_takesRolls_30 : decode cX8_takesRolls 30 = .ok (.if_icmp .gt 7, 3) := by decide +kernel
theorem dX8_takesRolls_33 : decode cX8_takesRolls 33 = .ok (.iconst 1, 1) := by decide +kernel
theorem dX8_takesRolls_34 : decode cX8_takesRolls 34 = .ok (.goto 4, 3) := by decide +kernel
theorem dX8_takesRolls_37 : decode cX8_takesRolls 37 = .ok (.iconst 0, 1) := by decide +kernel
theorem dX8_takesRolls_38 : decode cX8_takesRolls 38 = .ok (.putfield 83, 3) := by decide +kernel
theorem dX8_takesRolls_41 : decode cX8_takesRolls 41 = .ok (.aload_n 0, 1) := by decide +kernel
theorem dX8_takesRolls_42 : decode cX8_takesRolls 42 = .ok (.getfield 83, 3) := by decide +kernel
theorem dX8_takesRolls_45 : decode cX8_takesRolls 45 = .ok (.ifCond .eq 27, 3) := by decide +kernel
theorem dX8_takesRolls_48 : decode cX8_takesRolls 48 = .ok (.aload_n 0, 1) := by decide +kernel
theorem dX8_takesRolls_49 : decode cX8_takesRolls 49 = .ok (.getfield 17, 3) := by decide +kernel
theorem dX8_takesRolls_52 : decode cX8_takesRolls 52 = .ok (.iconst 2, 1) := by decide +kernel
theorem dX8_takesRolls_53 : decode cX8_takesRolls 53 = .ok (.aload_n 0, 1) := by decide +kernel
theorem dX8_takesRolls_54 : decode cX8_takesRolls 54 = .ok (.getfield 26, 3) := by decide +kernel
theorem dX8_takesRolls_57 : decode cX8_takesRolls 57 = .ok (.iconst 0, 1) := by decide +kernel
theorem dX8_takesRolls_58 : decode cX8_takesRolls 58 = .ok (.iaload, 1) := by decide +kernel
theorem dX8_takesRolls_59 : decode cX8_takesRolls 59 = .ok (.iastore, 1) := by decide +kernel
theorem dX8_takesRolls_60 : decode cX8_takesRolls 60 = .ok (.aload_n 0, 1) := by decide +kernel
theorem dX8_takesRolls_61 : decode cX8_takesRolls 61 = .ok (.getfield 17, 3) := by decide +kernel
theorem dX8_takesRolls_64 : decode cX8_takesRolls 64 = .ok (.iconst 3, 1) := by decide +kernel
theorem dX8_takesRolls_65 : decode cX8_takesRolls 65 = .ok (.aload_n 0, 1) := by decide +kernel
theorem dX8_takesRolls_66 : decode cX8_takesRolls 66 = .ok (.getfield 26, 3) := by decide +kernel
theorem dX8_takesRolls_69 : decode cX8_takesRolls 69 = .ok (.iconst 1, 1) := by decide +kernel
theorem dX8_takesRolls_70 : decode cX8_takesRolls 70 = .ok (.iaload, 1) := by decide +kernel
theorem dX8_takesRolls_71 : decode cX8_takesRolls 71 = .ok (.iastore, 1) := by decide +kernel
theorem dX8_takesRolls_72 : decode cX8_takesRolls 72 = .ok (.return_, 1) := by decide +kernel
theorem dX8_reads_0 : decode cX8_reads 0 = .ok (.aload_n 0, 1) := by decide +kernel
theorem dX8_reads_1 : decode cX8_reads 1 = .ok (.getfield 17, 3) := by decide +kernel
theorem dX8_reads_4 : decode cX8_reads 4 = .ok (.iconst 0, 1) := by decide +kernel
theorem dX8_reads_5 : decode cX8_reads 5 = .ok (.iconst 0, 1) := by decide +kernel
theorem dX8_reads_6 : decode cX8_reads 6 = .ok (.iastore, 1) := by decide +kernel
theorem dX8_reads_7 : decode cX8_reads 7 = .ok (.aload_n 0, 1) := by decide +kernel
theorem dX8_reads_8 : decode cX8_reads 8 = .ok (.getfield 17, 3) := by decide +kernel
theorem dX8_reads_11 : decode cX8_reads 11 = .ok (.iconst 1, 1) := by decide +kernel
theorem dX8_reads_12 : decode cX8_reads 12 = .ok (.iconst 0, 1) := by decide +kernel
theorem dX8_reads_13 : decode cX8_reads 13 = .ok (.iastore, 1) := by decide +kernel
theorem dX8_reads_14 : decode cX8_reads 14 = .ok (.aload_n 0, 1) := by decide +kernel
theorem dX8_reads_15 : decode cX8_reads 15 = .ok (.getfield 17, 3) := by decide +kernel
theorem dX8_reads_18 : decode cX8_reads 18 = .ok (.iconst 2, 1) := by decide +kernel
theorem dX8_reads_19 : decode cX8_reads 19 = .ok (.bipush 40, 2) := by decide +kernel
theorem dX8_reads_21 : decode cX8_reads 21 = .ok (.iastore, 1) := by decide +kernel
theorem dX8_reads_22 : decode cX8_reads 22 = .ok (.aload_n 0, 1) := by decide +kernel
theorem dX8_reads_23 : decode cX8_reads 23 = .ok (.getfield 17, 3) := by decide +kernel
theorem dX8_reads_26 : decode cX8_reads 26 = .ok (.iconst 3, 1) := by decide +kernel
theorem dX8_reads_27 : decode cX8_reads 27 = .ok (.bipush 10, 2) := by decide +kernel
theorem dX8_reads_29 : decode cX8_reads 29 = .ok (.iastore, 1) := by decide +kernel
theorem dX8_reads_30 : decode cX8_reads 30 = .ok (.aload_n 0, 1) := by decide +kernel
theorem dX8_reads_31 : decode cX8_reads 31 = .ok (.iconst 0, 1) := by decide +kernel
theorem dX8_reads_32 : decode cX8_reads 32 = .ok (.putfield 80, 3) := by decide +kernel
theorem dX8_reads_35 : decode cX8_reads 35 = .ok (.aload_n 0, 1) := by decide +kernel
theorem dX8_reads_36 : decode cX8_reads 36 = .ok (.getfield 80, 3) := by decide +kernel
theorem dX8_reads_39 : decode cX8_reads 39 = .ok (.aload_n 0, 1) := by decide +kernel
theorem dX8_reads_40 : decode cX8_reads 40 = .ok (.getfield 77, 3) := by decide +kernel
theorem dX8_reads_43 : decode cX8_reads 43 = .ok (.if_icmp .ge 102, 3) := by decide +kernel
theorem dX8_reads_46 : decode cX8_reads 46 = .ok (.aload_n 0, 1) := by decide +kernel
theorem dX8_reads_47 : decode cX8_reads 47 = .ok (.getfield 80, 3) := by decide +kernel
theorem dX8_reads_50 : decode cX8_reads 50 = .ok (.istore_n 1, 1) := by decide +kernel
theorem dX8_reads_51 : decode cX8_reads 51 = .ok (.aload_n 0, 1) := by decide +kernel
theorem dX8_reads_52 : decode cX8_reads 52 = .ok (.getfield 7, 3) := by decide +kernel
theorem dX8_reads_55 : decode cX8_reads 55 = .ok (.aload_n 0, 1) := by decide +kernel
theorem dX8_reads_56 : decode cX8_reads 56 = .ok (.getfield 80, 3) := by decide +kernel
theorem dX8_reads_59 : decode cX8_reads 59 = .ok (.baload, 1) := by decide +kernel
theorem dX8_reads_60 : decode cX8_reads 60 = .ok (.istore_n 2, 1) := by decide +kernel
theorem dX8_reads_61 : decode cX8_reads 61 = .ok (.aload_n 0, 1) := by decide +kernel
theorem dX8_reads_62 : decode cX8_reads 62 = .ok (.iconst 1, 1) := by decide +kernel
theorem dX8_reads_63 : decode cX8_reads 63 = .ok (.putfield 83, 3) := by decide +kernel
theorem dX8_reads_66 : decode cX8_reads 66 = .ok (.aload_n 0, 1) := by decide +kernel
theorem dX8_reads_67 : decode cX8_reads 67 = .ok (.dup, 1) := by decide +kernel
theorem dX8_reads_68 : decode cX8_reads 68 = .ok (.getfield 80, 3) := by decide +kernel
theorem dX8_reads_71 : decode cX8_reads 71 = .ok (.iconst 1, 1) := by decide +kernel
theorem dX8_reads_72 : decode cX8_reads 72 = .ok (.iadd, 1) := by decide +kernel
theorem dX8_reads_73 : decode cX8_reads 73 = .ok (.putfield 80, 3) := by decide +kernel
theorem dX8_reads_76 : decode cX8_reads 76 = .ok (.iload_n 2, 1) := by decide +kernel
theorem dX8_reads_77 : decode cX8_reads 77 = .ok (.bipush 102, 2) := by decide +kernel
theorem dX8_reads_79 : decode cX8_reads 79 = .ok (.if_icmp .ne 10, 3) := by decide +kernel
theorem dX8_reads_82 : decode cX8_reads 82 = .ok (.aload_n 0, 1) := by decide +kernel
theorem dX8_reads_83 : decode cX8_reads 83 = .ok (.invokevirtual 113, 3) := by decide +kernel
theorem dX8_reads_86 : decode cX8_reads 86 = .ok (.goto 47, 3) := by decide +kernel
theorem dX8_reads_89 : decode cX8_reads 89 = .ok (.iload_n 2, 1) := by decide +kernel
theorem dX8_reads_90 : decode cX8_reads 90 = .ok (.bipush 117, 2) := by decide +kernel
theorem dX8_reads_92 : decode cX8_reads 92 = .ok (.if_icmp .ne 10, 3) := by decide +kernel
theorem dX8_reads_95 : decode cX8_reads 95 = .ok (.aload_n 0, 1) := by decide +kernel
theorem dX8_reads_96 : decode cX8_reads 96 = .ok (.invokevirtual 116, 3) := by decide +kernel
theorem dX8_reads_99 : decode cX8_reads 99 = .ok (.goto 34, 3) := by decide +kernel
theorem dX8_reads_102 : decode cX8_reads 102 = .ok (.iload_n 2, 1) := by decide +kernel
theorem dX8_reads_103 : decode cX8_reads 103 = .ok (.bipush 115, 2) := by decide +kernel
theorem dX8_reads_105 : decode cX8_reads 105 = .ok (.if_icmp .ne 10, 3) := by decide +kernel
theorem dX8_reads_108 : decode cX8_reads 108 = .ok (.aload_n 0, 1) := by decide +kernel
theorem dX8_reads_109 : decode cX8_reads 109 = .ok (.invokevirtual 119, 3) := by decide +kernel
theorem dX8_reads_112 : decode cX8_reads 112 = .ok (.goto 21, 3) := by decide +kernel
theorem dX8_reads_115 : decode cX8_reads 115 = .ok (.iload_n 2, 1) := by decide +kernel
theorem dX8_reads_116 : decode cX8_reads 116 = .ok (.bipush 114, 2) := by decide +kernel
theorem dX8_reads_118 : decode cX8_reads 118 = .ok (.if_icmp .ne 10, 3) := by decide +kernel
theorem dX8_reads_121 : decode cX8_reads 121 = .ok (.aload_n 0, 1) := by decide +kernel
theorem dX8_reads_122 : decode cX8_reads 122 = .ok (.invokevirtual 122, 3) := by decide +kernel
theorem dX8_reads_125 : decode cX8_reads 125 = .ok (.goto 8, 3) := by decide +kernel
theorem dX8_reads_128 : decode cX8_reads 128 = .ok (.aload_n 0, 1) := by decide +kernel
theorem dX8_reads_129 : decode cX8_reads 129 = .ok (.iconst 0, 1) := by decide +kernel
theorem dX8_reads_130 : decode cX8_reads 130 = .ok (.putfield 83, 3) := by decide +kernel
theorem dX8_reads_133 : decode cX8_reads 133 = .ok (.aload_n 0, 1) := by decide +kernel
theorem dX8_reads_134 : decode cX8_reads 134 = .ok (.getfield 83, 3) := by decide +kernel
theorem dX8_reads_137 : decode cX8_reads 137 = .ok (.ifCond .ne 5, 3) := by decide +kernel
theorem dX8_reads_140 : decode cX8_reads 140 = .ok (.iload_n 1, 1) := by decide +kernel
theorem dX8_reads_141 : decode cX8_reads 141 = .ok (.ireturn, 1) := by decide +kernel
theorem dX8_reads_142 : decode cX8_reads 142 = .ok (.goto (-107), 3) := by decide +kernel
theorem dX8_reads_145 : decode cX8_reads 145 = .ok (.bipush (-4), 2) := by decide +kernel
theorem dX8_reads_147 : decode cX8_reads 147 = .ok (.ireturn, 1) := by decide +kernel
theorem dX8_fault_0 : decode cX8_fault 0 = .ok (.aload_n 0, 1) := by decide +kernel
theorem dX8_fault_1 : decode cX8_fault 1 = .ok (.iconst 0, 1) := by decide +kernel
theorem dX8_fault_2 : decode cX8_fault 2 = .ok (.putfield 69, 3) := by decide +kernel
theorem dX8_fault_5 : decode cX8_fault 5 = .ok (.aload_n 0, 1) := by decide +kernel
theorem dX8_fault_6 : decode cX8_fault 6 = .ok (.invokevirtual 125, 3) := by decide +kernel
theorem dX8_fault_9 : decode cX8_fault 9 = .ok (.ireturn, 1) := by decide +kernel
theorem dX8_lay_0 : decode cX8_lay 0 = .ok (.aload_n 0, 1) := by decide +kernel
theorem dX8_lay_1 : decode cX8_lay 1 = .ok (.iconst 0, 1) := by decide +kernel
theorem dX8_lay_2 : decode cX8_lay 2 = .ok (.putfield 69, 3) := by decide +kernel
theorem dX8_lay_5 : decode cX8_lay 5 = .ok (.aload_n 0, 1) := by decide +kernel
theorem dX8_lay_6 : decode cX8_lay 6 = .ok (.invokevirtual 125, 3) := by decide +kernel
theorem dX8_lay_9 : decode cX8_lay 9 = .ok (.bipush (-4), 2) := by decide +kernel
theorem dX8_lay_11 : decode cX8_lay 11 = .ok (.if_icmp .ne 12, 3) := by decide +kernel
theorem dX8_lay_14 : decode cX8_lay 14 = .ok (.aload_n 0, 1) := by decide +kernel
theorem dX8_lay_15 : decode cX8_lay 15 = .ok (.getfield 17, 3) := by decide +kernel
theorem dX8_lay_18 : decode cX8_lay 18 = .ok (.iconst 0, 1) := by decide +kernel
theorem dX8_lay_19 : decode cX8_lay 19 = .ok (.iaload, 1) := by decide +kernel
theorem dX8_lay_20 : decode cX8_lay 20 = .ok (.ifCond .ne 6, 3) := by decide +kernel
theorem dX8_lay_23 : decode cX8_lay 23 = .ok (.bipush (-2), 2) := by decide +kernel
theorem dX8_lay_25 : decode cX8_lay 25 = .ok (.ireturn, 1) := by decide +kernel
theorem dX8_lay_26 : decode cX8_lay 26 = .ok (.iconst 0, 1) := by decide +kernel
theorem dX8_lay_27 : decode cX8_lay 27 = .ok (.istore_n 1, 1) := by decide +kernel
theorem dX8_lay_28 : decode cX8_lay 28 = .ok (.iload_n 1, 1) := by decide +kernel
theorem dX8_lay_29 : decode cX8_lay 29 = .ok (.bipush 124, 2) := by decide +kernel
theorem dX8_lay_31 : decode cX8_lay 31 = .ok (.if_icmp .ge 21, 3) := by decide +kernel
theorem dX8_lay_34 : decode cX8_lay 34 = .ok (.aload_n 0, 1) := by decide +kernel
theorem dX8_lay_35 : decode cX8_lay 35 = .ok (.getfield 13, 3) := by decide +kernel
theorem dX8_lay_38 : decode cX8_lay 38 = .ok (.iload_n 1, 1) := by decide +kernel
theorem dX8_lay_39 : decode cX8_lay 39 = .ok (.aload_n 0, 1) := by decide +kernel
theorem dX8_lay_40 : decode cX8_lay 40 = .ok (.getfield 17, 3) := by decide +kernel
theorem dX8_lay_43 : decode cX8_lay 43 = .ok (.iload_n 1, 1) := by decide +kernel
theorem dX8_lay_44 : decode cX8_lay 44 = .ok (.iaload, 1) := by decide +kernel
theorem dX8_lay_45 : decode cX8_lay 45 = .ok (.iastore, 1) := by decide +kernel
theorem dX8_lay_46 : decode cX8_lay 46 = .ok (.iinc 1 1, 3) := by decide +kernel
theorem dX8_lay_49 : decode cX8_lay 49 = .ok (.goto (-21), 3) := by decide +kernel
theorem dX8_lay_52 : decode cX8_lay 52 = .ok (.aload_n 0, 1) := by decide +kernel
theorem dX8_lay_53 : decode cX8_lay 53 = .ok (.iconst 0, 1) := by decide +kernel
theorem dX8_lay_54 : decode cX8_lay 54 = .ok (.putfield 128, 3) := by decide +kernel
theorem dX8_lay_57 : decode cX8_lay 57 = .ok (.aload_n 0, 1) := by decide +kernel
theorem dX8_lay_58 : decode cX8_lay 58 = .ok (.getfield 13, 3) := by decide +kernel
theorem dX8_lay_61 : decode cX8_lay 61 = .ok (.iconst 0, 1) := by decide +kernel
theorem dX8_lay_62 : decode cX8_lay 62 = .ok (.iaload, 1) := by decide +kernel
theorem dX8_lay_63 : decode cX8_lay 63 = .ok (.ireturn, 1) := by decide +kernel
theorem dX8_isJoint_0 : decode cX8_isJoint 0 = .ok (.iload_n 1, 1) := by decide +kernel
theorem dX8_isJoint_1 : decode cX8_isJoint 1 = .ok (.iconst 0, 1) := by decide +kernel
theorem dX8_isJoint_2 : decode cX8_isJoint 2 = .ok (.aload_n 0, 1) := by decide +kernel
theorem dX8_isJoint_3 : decode cX8_isJoint 3 = .ok (.getfield 13, 3) := by decide +kernel
theorem dX8_isJoint_6 : decode cX8_isJoint 6 = .ok (.iconst 0, 1) := by decide +kernel
theorem dX8_isJoint_7 : decode cX8_isJoint 7 = .ok (.iaload, 1) := by decide +kernel
theorem dX8_isJoint_8 : decode cX8_isJoint 8 = .ok (.iconst 1, 1) := by decide +kernel
theorem dX8_isJoint_9 : decode cX8_isJoint 9 = .ok (.isub, 1) := by decide +kernel
theorem dX8_isJoint_10 : decode cX8_isJoint 10 = .ok (.invokestatic 73, 3) := by decide +kernel
theorem dX8_isJoint_13 : decode cX8_isJoint 13 = .ok (.ireturn, 1) := by decide +kernel
theorem dX8_isFree_0 : decode cX8_isFree 0 = .ok (.aload_n 0, 1) := by decide +kernel
theorem dX8_isFree_1 : decode cX8_isFree 1 = .ok (.getfield 13, 3) := by decide +kernel
theorem dX8_isFree_4 : decode cX8_isFree 4 = .ok (.iconst 4, 1) := by decide +kernel
theorem dX8_isFree_5 : decode cX8_isFree 5 = .ok (.iload_n 1, 1) := by decide +kernel
theorem dX8_isFree_6 : decode cX8_isFree 6 = .ok (.iadd, 1) := by decide +kernel
theorem dX8_isFree_7 : decode cX8_isFree 7 = .ok (.iaload, 1) := by decide +kernel
theorem dX8_isFree_8 : decode cX8_isFree 8 = .ok (.iconst 1, 1) := by decide +kernel
theorem dX8_isFree_9 : decode cX8_isFree 9 = .ok (.if_icmp .ne 7, 3) := by decide +kernel
theorem dX8_isFree_12 : decode cX8_isFree 12 = .ok (.iconst 1, 1) := by decide +kernel
theorem dX8_isFree_13 : decode cX8_isFree 13 = .ok (.goto 4, 3) := by decide +kernel
theorem dX8_isFree_16 : decode cX8_isFree 16 = .ok (.iconst 0, 1) := by decide +kernel
theorem dX8_isFree_17 : decode cX8_isFree 17 = .ok (.ireturn, 1) := by decide +kernel
theorem dX8_isStrand_0 : decode cX8_isStrand 0 = .ok (.iload_n 1, 1) := by decide +kernel
theorem dX8_isStrand_1 : decode cX8_isStrand 1 = .ok (.iconst 0, 1) := by decide +kernel
theorem dX8_isStrand_2 : decode cX8_isStrand 2 = .ok (.aload_n 0, 1) := by decide +kernel
theorem dX8_isStrand_3 : decode cX8_isStrand 3 = .ok (.getfield 13, 3) := by decide +kernel
theorem dX8_isStrand_6 : decode cX8_isStrand 6 = .ok (.iconst 1, 1) := by decide +kernel
theorem dX8_isStrand_7 : decode cX8_isStrand 7 = .ok (.iaload, 1) := by decide +kernel
theorem dX8_isStrand_8 : decode cX8_isStrand 8 = .ok (.iconst 1, 1) := by decide +kernel
theorem dX8_isStrand_9 : decode cX8_isStrand 9 = .ok (.isub, 1) := by decide +kernel
theorem dX8_isStrand_10 : decode cX8_isStrand 10 = .ok (.invokestatic 73, 3) := by decide +kernel
theorem dX8_isStrand_13 : decode cX8_isStrand 13 = .ok (.ireturn, 1) := by decide +kernel
theorem dX8_of_0 : decode cX8_of 0 = .ok (.aload_n 0, 1) := by decide +kernel
theorem dX8_of_1 : decode cX8_of 1 = .ok (.getfield 13, 3) := by decide +kernel
theorem dX8_of_4 : decode cX8_of 4 = .ok (.bipush 54, 2) := by decide +kernel
theorem dX8_of_6 : decode cX8_of 6 = .ok (.iconst 5, 1) := by decide +kernel
theorem dX8_of_7 : decode cX8_of 7 = .ok (.iload_n 1, 1) := by decide +kernel
theorem dX8_of_8 : decode cX8_of 8 = .ok (.imul, 1) := by decide +kernel
theorem dX8_of_9 : decode cX8_of 9 = .ok (.iadd, 1) := by decide +kernel
theorem dX8_of_10 : decode cX8_of 10 = .ok (.iload_n 2, 1) := by decide +kernel
theorem dX8_of_11 : decode cX8_of 11 = .ok (.iadd, 1) := by decide +kernel
theorem dX8_of_12 : decode cX8_of 12 = .ok (.iaload, 1) := by decide +kernel
theorem dX8_of_13 : decode cX8_of 13 = .ok (.ireturn, 1) := by decide +kernel
theorem dX8_hangs_0 : decode cX8_hangs 0 = .ok (.aload_n 0, 1) := by decide +kernel
theorem dX8_hangs_1 : decode cX8_hangs 1 = .ok (.iload_n 1, 1) := by decide +kernel
theorem dX8_hangs_2 : decode cX8_hangs 2 = .ok (.iconst 4, 1) := by decide +kernel
theorem dX8_hangs_3 : decode cX8_hangs 3 = .ok (.invokevirtual 131, 3) := by decide +kernel
theorem dX8_hangs_6 : decode cX8_hangs 6 = .ok (.ifCond .ne 7, 3) := by decide +kernel
theorem dX8_hangs_9 : decode cX8_hangs 9 = .ok (.iconst 1, 1) := by decide +kernel
theorem dX8_hangs_10 : decode cX8_hangs 10 = .ok (.goto 4, 3) := by decide +kernel
theorem dX8_hangs_13 : decode cX8_hangs 13 = .ok (.iconst 0, 1) := by decide +kernel
theorem dX8_hangs_14 : decode cX8_hangs 14 = .ok (.ireturn, 1) := by decide +kernel
theorem dX8_isOf_0 : decode cX8_isOf 0 = .ok (.aload_n 0, 1) := by decide +kernel
theorem dX8_isOf_1 : decode cX8_isOf 1 = .ok (.iload_n 1, 1) := by decide +kernel
theorem dX8_isOf_2 : decode cX8_isOf 2 = .ok (.iconst 0, 1) := by decide +kernel
theorem dX8_isOf_3 : decode cX8_isOf 3 = .ok (.invokevirtual 131, 3) := by decide +kernel
theorem dX8_isOf_6 : decode cX8_isOf 6 = .ok (.iload_n 2, 1) := by decide +kernel
theorem dX8_isOf_7 : decode cX8_isOf 7 = .ok (.if_icmp .eq 13, 3) := by decide +kernel
theorem dX8_isOf_10 : decode cX8_isOf 10 = .ok (.aload_n 0, 1) := by decide +kernel
theorem dX8_isOf_11 : decode cX8_isOf 11 = .ok (.iload_n 1, 1) := by decide +kernel
theorem dX8_isOf_12 : decode cX8_isOf 12 = .ok (.iconst 1, 1) := by decide +kernel
theorem dX8_isOf_13 : decode cX8_isOf 13 = .ok (.invokevirtual 131, 3) := by decide +kernel
theorem dX8_isOf_16 : decode cX8_isOf 16 = .ok (.iload_n 2, 1) := by decide +kernel
theorem dX8_isOf_17 : decode cX8_isOf 17 = .ok (.if_icmp .ne 7, 3) := by decide +kernel
theorem dX8_isOf_20 : decode cX8_isOf 20 = .ok (.iconst 1, 1) := by decide +kernel
theorem dX8_isOf_21 : decode cX8_isOf 21 = .ok (.goto 4, 3) := by decide +kernel
theorem dX8_isOf_24 : decode cX8_isOf 24 = .ok (.iconst 0, 1) := by decide +kernel
theorem dX8_isOf_25 : decode cX8_isOf 25 = .ok (.ireturn, 1) := by decide +kernel
theorem dX8_other_0 : decode cX8_other 0 = .ok (.aload_n 0, 1) := by decide +kernel
theorem dX8_other_1 : decode cX8_other 1 = .ok (.iload_n 1, 1) := by decide +kernel
theorem dX8_other_2 : decode cX8_other 2 = .ok (.iconst 0, 1) := by decide +kernel
theorem dX8_other_3 : decode cX8_other 3 = .ok (.invokevirtual 131, 3) := by decide +kernel
theorem dX8_other_6 : decode cX8_other 6 = .ok (.iload_n 2, 1) := by decide +kernel
theorem dX8_other_7 : decode cX8_other 7 = .ok (.if_icmp .ne 12, 3) := by decide +kernel
theorem dX8_other_10 : decode cX8_other 10 = .ok (.aload_n 0, 1) := by decide +kernel
theorem dX8_other_11 : decode cX8_other 11 = .ok (.iload_n 1, 1) := by decide +kernel
theorem dX8_other_12 : decode cX8_other 12 = .ok (.iconst 1, 1) := by decide +kernel
theorem dX8_other_13 : decode cX8_other 13 = .ok (.invokevirtual 131, 3) := by decide +kernel
theorem dX8_other_16 : decode cX8_other 16 = .ok (.goto 9, 3) := by decide +kernel
theorem dX8_other_19 : decode cX8_other 19 = .ok (.aload_n 0, 1) := by decide +kernel
theorem dX8_other_20 : decode cX8_other 20 = .ok (.iload_n 1, 1) := by decide +kernel
theorem dX8_other_21 : decode cX8_other 21 = .ok (.iconst 0, 1) := by decide +kernel
theorem dX8_other_22 : decode cX8_other 22 = .ok (.invokevirtual 131, 3) := by decide +kernel
theorem dX8_other_25 : decode cX8_other 25 = .ok (.ireturn, 1) := by decide +kernel
theorem dX8_laysHung_0 : decode cX8_laysHung 0 = .ok (.iconst 0, 1) := by decide +kernel
theorem dX8_laysHung_1 : decode cX8_laysHung 1 = .ok (.istore_n 2, 1) := by decide +kernel
theorem dX8_laysHung_2 : decode cX8_laysHung 2 = .ok (.iload_n 2, 1) := by decide +kernel
theorem dX8_laysHung_3 : decode cX8_laysHung 3 = .ok (.aload_n 0, 1) := by decide +kernel
theorem dX8_laysHung_4 : decode cX8_laysHung 4 = .ok (.getfield 13, 3) := by decide +kernel
theorem dX8_laysHung_7 : decode cX8_laysHung 7 = .ok (.iconst 0, 1) := by decide +kernel
theorem dX8_laysHung_8 : decode cX8_laysHung 8 = .ok (.iaload, 1) := by decide +kernel
theorem dX8_laysHung_9 : decode cX8_laysHung 9 = .ok (.if_icmp .ge 28, 3) := by decide +kernel
theorem dX8_laysHung_12 : decode cX8_laysHung 12 = .ok (.aload_n 0, 1) := by decide +kernel
theorem dX8_laysHung_13 : decode cX8_laysHung 13 = .ok (.getfield 29, 3) := by decide +kernel
theorem dX8_laysHung_16 : decode cX8_laysHung 16 = .ok (.iload_n 2, 1) := by decide +kernel
theorem dX8_laysHung_17 : decode cX8_laysHung 17 = .ok (.aload_n 0, 1) := by decide +kernel
theorem dX8_laysHung_18 : decode cX8_laysHung 18 = .ok (.iload_n 2, 1) := by decide +kernel
theorem dX8_laysHung_19 : decode cX8_laysHung 19 = .ok (.invokevirtual 134, 3) := by decide +kernel
theorem dX8_laysHung_22 : decode cX8_laysHung 22 = .ok (.ifCond .ne 7, 3) := by decide +kernel
theorem dX8_laysHung_25 : decode cX8_laysHung 25 = .ok (.iconst 1, 1) := by decide +kernel
theorem dX8_laysHung_26 : decode cX8_laysHung 26 = .ok (.goto 4, 3) := by decide +kernel
theorem dX8_laysHung_29 : decode cX8_laysHung 29 = .ok (.iconst 0, 1) := by decide +kernel
theorem dX8_laysHung_30 : decode cX8_laysHung 30 = .ok (.bastore, 1) := by decide +kernel
theorem dX8_laysHung_31 : decode cX8_laysHung 31 = .ok (.iinc 2 1, 3) := by decide +kernel
theorem dX8_laysHung_34 : decode cX8_laysHung 34 = .ok (.goto (-32), 3) := by decide +kernel
theorem dX8_laysHung_37 : decode cX8_laysHung 37 = .ok (.iconst 1, 1) := by decide +kernel
theorem dX8_laysHung_38 : decode cX8_laysHung 38 = .ok (.istore_n 2, 1) := by decide +kernel
theorem dX8_laysHung_39 : decode cX8_laysHung 39 = .ok (.iload_n 2, 1) := by decide +kernel
theorem dX8_laysHung_40 : decode cX8_laysHung 40 = .ok (.ifCond .eq 102, 3) := by decide +kernel
theorem dX8_laysHung_43 : decode cX8_laysHung 43 = .ok (.iconst 0, 1) := by decide +kernel
theorem dX8_laysHung_44 : decode cX8_laysHung 44 = .ok (.istore_n 2, 1) := by decide +kernel
theorem dX8_laysHung_45 : decode cX8_laysHung 45 = .ok (.iconst 0, 1) := by decide +kernel
theorem dX8_laysHung_46 : decode cX8_laysHung 46 = .ok (.istore_n 3, 1) := by decide +kernel
theorem dX8_laysHung_47 : decode cX8_laysHung 47 = .ok (.iload_n 3, 1) := by decide +kernel
theorem dX8_laysHung_48 : decode cX8_laysHung 48 = .ok (.aload_n 0, 1) := by decide +kernel
theorem dX8_laysHung_49 : decode cX8_laysHung 49 = .ok (.getfield 13, 3) := by decide +kernel
theorem dX8_laysHung_52 : decode cX8_laysHung 52 = .ok (.iconst 1, 1) := by decide +kernel
theorem dX8_laysHung_53 : decode cX8_laysHung 53 = .ok (.iaload, 1) := by decide +kernel
theorem dX8_laysHung_54 : decode cX8_laysHung 54 = .ok (.if_icmp .ge 85, 3) := by decide +kernel
theorem dX8_laysHung_57 : decode cX8_laysHung 57 = .ok (.aload_n 0, 1) := by decide +kernel
theorem dX8_laysHung_58 : decode cX8_laysHung 58 = .ok (.iload_n 3, 1) := by decide +kernel
theorem dX8_laysHung_59 : decode cX8_laysHung 59 = .ok (.invokevirtual 137, 3) := by decide +kernel
theorem dX8_laysHung_62 : decode cX8_laysHung 62 = .ok (.ifCond .eq 37, 3) := by decide +kernel
theorem dX8_laysHung_65 : decode cX8_laysHung 65 = .ok (.iload_n 3, 1) := by decide +kernel
theorem dX8_laysHung_66 : decode cX8_laysHung 66 = .ok (.iload_n 1, 1) := by decide +kernel
theorem dX8_laysHung_67 : decode cX8_laysHung 67 = .ok (.if_icmp .eq 32, 3) := by decide +kernel
theorem dX8_laysHung_70 : decode cX8_laysHung 70 = .ok (.aload_n 0, 1) := by decide +kernel
theorem dX8_laysHung_71 : decode cX8_laysHung 71 = .ok (.getfield 29, 3) := by decide +kernel
theorem dX8_laysHung_74 : decode cX8_laysHung 74 = .ok (.aload_n 0, 1) := by decide +kernel
theorem dX8_laysHung_75 : decode cX8_laysHung 75 = .ok (.iload_n 3, 1) := by decide +kernel
theorem dX8_laysHung_76 : decode cX8_laysHung 76 = .ok (.iconst 0, 1) := by decide +kernel
theorem dX8_laysHung_77 : decode cX8_laysHung 77 = .ok (.invokevirtual 131, 3) := by decide +kernel
theorem dX8_laysHung_80 : decode cX8_laysHung 80 = .ok (.baload, 1) := by decide +kernel
theorem dX8_laysHung_81 : decode cX8_laysHung 81 = .ok (.aload_n 0, 1) := by decide +kernel
theorem dX8_laysHung_82 : decode cX8_laysHung 82 = .ok (.getfield 29, 3) := by decide +kernel
theorem dX8_laysHung_85 : decode cX8_laysHung 85 = .ok (.aload_n 0, 1) := by decide +kernel
theorem dX8_laysHung_86 : decode cX8_laysHung 86 = .ok (.iload_n 3, 1) := by decide +kernel
theorem dX8_laysHung_87 : decode cX8_laysHung 87 = .ok (.iconst 1, 1) := by decide +kernel
theorem dX8_laysHung_88 : decode cX8_laysHung 88 = .ok (.invokevirtual 131, 3) := by decide +kernel
theorem dX8_laysHung_91 : decode cX8_laysHung 91 = .ok (.baload, 1) := by decide +kernel
theorem dX8_laysHung_92 : decode cX8_laysHung 92 = .ok (.if_icmp .eq 7, 3) := by decide +kernel
theorem dX8_laysHung_95 : decode cX8_laysHung 95 = .ok (.iconst 1, 1) := by decide +kernel
theorem dX8_laysHung_96 : decode cX8_laysHung 96 = .ok (.goto 4, 3) := by decide +kernel
theorem dX8_laysHung_99 : decode cX8_laysHung 99 = .ok (.iconst 0, 1) := by decide +kernel
theorem dX8_laysHung_100 : decode cX8_laysHung 100 = .ok (.istore 4, 2) := by decide +kernel
theorem dX8_laysHung_102 : decode cX8_laysHung 102 = .ok (.iload 4, 2) := by decide +kernel
theorem dX8_laysHung_104 : decode cX8_laysHung 104 = .ok (.ifCond .eq 29, 3) := by decide +kernel
theorem dX8_laysHung_107 : decode cX8_laysHung 107 = .ok (.aload_n 0, 1) := by decide +kernel
theorem dX8_laysHung_108 : decode cX8_laysHung 108 = .ok (.getfield 29, 3) := by decide +kernel
theorem dX8_laysHung_111 : decode cX8_laysHung 111 = .ok (.aload_n 0, 1) := by decide +kernel
theorem dX8_laysHung_112 : decode cX8_laysHung 112 = .ok (.iload_n 3, 1) := by decide +kernel
theorem dX8_laysHung_113 : decode cX8_laysHung 113 = .ok (.iconst 0, 1) := by decide +kernel
theorem dX8_laysHung_114 : decode cX8_laysHung 114 = .ok (.invokevirtual 131, 3) := by decide +kernel
theorem dX8_laysHung_117 : decode cX8_laysHung 117 = .ok (.iconst 1, 1) := by decide +kernel
theorem dX8_laysHung_118 : decode cX8_laysHung 118 = .ok (.bastore, 1) := by decide +kernel
theorem dX8_laysHung_119 : decode cX8_laysHung 119 = .ok (.aload_n 0, 1) := by decide +kernel
theorem dX8_laysHung_120 : decode cX8_laysHung 120 = .ok (.getfield 29, 3) := by decide +kernel
theorem dX8_laysHung_123 : decode cX8_laysHung 123 = .ok (.aload_n 0, 1) := by decide +kernel
theorem dX8_laysHung_124 : decode cX8_laysHung 124 = .ok (.iload_n 3, 1) := by decide +kernel
theorem dX8_laysHung_125 : decode cX8_laysHung 125 = .ok (.iconst 1, 1) := by decide +kernel
theorem dX8_laysHung_126 : decode cX8_laysHung 126 = .ok (.invokevirtual 131, 3) := by decide +kernel
theorem dX8_laysHung_129 : decode cX8_laysHung 129 = .ok (.iconst 1, 1) := by decide +kernel
theorem dX8_laysHung_130 : decode cX8_laysHung 130 = .ok (.bastore, 1) := by decide +kernel
theorem dX8_laysHung_131 : decode cX8_laysHung 131 = .ok (.iconst 1, 1) := by decide +kernel
theorem dX8_laysHung_132 : decode cX8_laysHung 132 = .ok (.istore_n 2, 1) := by decide +kernel
theorem dX8_laysHung_133 : decode cX8_laysHung 133 = .ok (.iinc 3 1, 3) := by decide +kernel
theorem dX8_laysHung_136 : decode cX8_laysHung 136 = .ok (.goto (-89), 3) := by decide +kernel
theorem dX8_laysHung_139 : decode cX8_laysHung 139 = .ok (.goto (-100), 3) := by decide +kernel
theorem dX8_laysHung_142 : decode cX8_laysHung 142 = .ok (.iconst 1, 1) := by decide +kernel
theorem dX8_laysHung_143 : decode cX8_laysHung 143 = .ok (.istore_n 3, 1) := by decide +kernel
theorem dX8_laysHung_144 : decode cX8_laysHung 144 = .ok (.iconst 0, 1) := by decide +kernel
theorem dX8_laysHung_145 : decode cX8_laysHung 145 = .ok (.istore 4, 2) := by decide +kernel
theorem dX8_laysHung_147 : decode cX8_laysHung 147 = .ok (.iload 4, 2) := by decide +kernel
theorem dX8_laysHung_149 : decode cX8_laysHung 149 = .ok (.aload_n 0, 1) := by decide +kernel
theorem dX8_laysHung_150 : decode cX8_laysHung 150 = .ok (.getfield 13, 3) := by decide +kernel
theorem dX8_laysHung_153 : decode cX8_laysHung 153 = .ok (.iconst 0, 1) := by decide +kernel
theorem dX8_laysHung_154 : decode cX8_laysHung 154 = .ok (.iaload, 1) := by decide +kernel
theorem dX8_laysHung_155 : decode cX8_laysHung 155 = .ok (.if_icmp .ge 29, 3) := by decide +kernel
theorem dX8_laysHung_158 : decode cX8_laysHung 158 = .ok (.iload_n 3, 1) := by decide +kernel
theorem dX8_laysHung_159 : decode cX8_laysHung 159 = .ok (.ifCond .eq 17, 3) := by decide +kernel
theorem dX8_laysHung_162 : decode cX8_laysHung 162 = .ok (.aload_n 0, 1) := by decide +kernel
theorem dX8_laysHung_163 : decode cX8_laysHung 163 = .ok (.getfield 29, 3) := by decide +kernel
theorem dX8_laysHung_166 : decode cX8_laysHung 166 = .ok (.iload 4, 2) := by decide +kernel
theorem dX8_laysHung_168 : decode cX8_laysHung 168 = .ok (.baload, 1) := by decide +kernel
theorem dX8_laysHung_169 : decode cX8_laysHung 169 = .ok (.ifCond .eq 7, 3) := by decide +kernel
theorem dX8_laysHung_172 : decode cX8_laysHung 172 = .ok (.iconst 1, 1) := by decide +kernel
theorem dX8_laysHung_173 : decode cX8_laysHung 173 = .ok (.goto 4, 3) := by decide +kernel
theorem dX8_laysHung_176 : decode cX8_laysHung 176 = .ok (.iconst 0, 1) := by decide +kernel
theorem dX8_laysHung_177 : decode cX8_laysHung 177 = .ok (.istore_n 3, 1) := by decide +kernel
theorem dX8_laysHung_178 : decode cX8_laysHung 178 = .ok (.iinc 4 1, 3) := by decide +kernel
theorem dX8_laysHung_181 : decode cX8_laysHung 181 = .ok (.goto (-34), 3) := by decide +kernel
theorem dX8_laysHung_184 : decode cX8_laysHung 184 = .ok (.iload_n 3, 1) := by decide +kernel
theorem dX8_laysHung_185 : decode cX8_laysHung 185 = .ok (.ireturn, 1) := by decide +kernel
theorem dX8_laysTable_0 : decode cX8_laysTable 0 = .ok (.aload_n 0, 1) := by decide +kernel
theorem dX8_laysTable_1 : decode cX8_laysTable 1 = .ok (.iconst 0, 1) := by decide +kernel
theorem dX8_laysTable_2 : decode cX8_laysTable 2 = .ok (.putfield 140, 3) := by decide +kernel
theorem dX8_laysTable_5 : decode cX8_laysTable 5 = .ok (.iconst 0, 1) := by decide +kernel
theorem dX8_laysTable_6 : decode cX8_laysTable 6 = .ok (.istore_n 1, 1) := by decide +kernel
theorem dX8_laysTable_7 : decode cX8_laysTable 7 = .ok (.iload_n 1, 1) := by decide +kernel
theorem dX8_laysTable_8 : decode cX8_laysTable 8 = .ok (.aload_n 0, 1) := by decide +kernel
theorem dX8_laysTable_9 : decode cX8_laysTable 9 = .ok (.getfield 13, 3) := by decide +kernel
theorem dX8_laysTable_12 : decode cX8_laysTable 12 = .ok (.iconst 0, 1) := by decide +kernel
theorem dX8_laysTable_13 : decode cX8_laysTable 13 = .ok (.iaload, 1) := by decide +kernel
theorem dX8_laysTable_14 : decode cX8_laysTable 14 = .ok (.if_icmp .ge 54, 3) := by decide +kernel
theorem dX8_laysTable_17 : decode cX8_laysTable 17 = .ok (.aload_n 0, 1) := by decide +kernel
theorem dX8_laysTable_18 : decode cX8_laysTable 18 = .ok (.getfield 37, 3) := by decide +kernel
theorem dX8_laysTable_21 : decode cX8_laysTable 21 = .ok (.iload_n 1, 1) := by decide +kernel
theorem dX8_laysTable_22 : decode cX8_laysTable 22 = .ok (.aload_n 0, 1) := by decide +kernel
theorem dX8_laysTable_23 : decode cX8_laysTable 23 = .ok (.iload_n 1, 1) := by decide +kernel
theorem dX8_laysTable_24 : decode cX8_laysTable 24 = .ok (.invokevirtual 134, 3) := by decide +kernel
theorem dX8_laysTable_27 : decode cX8_laysTable 27 = .ok (.ifCond .eq 10, 3) := by decide +kernel
theorem dX8_laysTable_30 : decode cX8_laysTable 30 = .ok (.aload_n 0, 1) := by decide +kernel
theorem dX8_laysTable_31 : decode cX8_laysTable 31 = .ok (.getfield 140, 3) := by decide +kernel
theorem dX8_laysTable_34 : decode cX8_laysTable 34 = .ok (.goto 5, 3) := by decide +kernel
theorem dX8_laysTable_37 : decode cX8_laysTable 37 = .ok (.bipush (-4), 2) := by decide +kernel
theorem dX8_laysTable_39 : decode cX8_laysTable 39 = .ok (.iastore, 1) := by decide +kernel
theorem dX8_laysTable_40 : decode cX8_laysTable 40 = .ok (.aload_n 0, 1) := by decide +kernel
theorem dX8_laysTable_41 : decode cX8_laysTable 41 = .ok (.dup, 1) := by decide +kernel
theorem dX8_laysTable_42 : decode cX8_laysTable 42 = .ok (.getfield 140, 3) := by decide +kernel
theorem dX8_laysTable_45 : decode cX8_laysTable 45 = .ok (.aload_n 0, 1) := by decide +kernel
theorem dX8_laysTable_46 : decode cX8_laysTable 46 = .ok (.iload_n 1, 1) := by decide +kernel
theorem dX8_laysTable_47 : decode cX8_laysTable 47 = .ok (.invokevirtual 134, 3) := by decide +kernel
theorem dX8_laysTable_50 : decode cX8_laysTable 50 = .ok (.ifCond .eq 7, 3) := by decide +kernel
theorem dX8_laysTable_53 : decode cX8_laysTable 53 = .ok (.iconst 1, 1) := by decide +kernel
theorem dX8_laysTable_54 : decode cX8_laysTable 54 = .ok (.goto 4, 3) := by decide +kernel
theorem dX8_laysTable_57 : decode cX8_laysTable 57 = .ok (.iconst 0, 1) := by decide +kernel
theorem dX8_laysTable_58 : decode cX8_laysTable 58 = .ok (.iadd, 1) := by decide +kernel
theorem dX8_laysTable_59 : decode cX8_laysTable 59 = .ok (.putfield 140, 3) := by decide +kernel
theorem dX8_laysTable_62 : decode cX8_laysTable 62 = .ok (.iinc 1 1, 3) := by decide +kernel
theorem dX8_laysTable_65 : decode cX8_laysTable 65 = .ok (.goto (-58), 3) := by decide +kernel
theorem dX8_laysTable_68 : decode cX8_laysTable 68 = .ok (.iconst 0, 1) := by decide +kernel
theorem dX8_laysTable_69 : decode cX8_laysTable 69 = .ok (.istore_n 1, 1) := by decide +kernel
theorem dX8_laysTable_70 : decode cX8_laysTable 70 = .ok (.iload_n 1, 1) := by decide +kernel
theorem dX8_laysTable_71 : decode cX8_laysTable 71 = .ok (.bipush 40, 2) := by decide +kernel
theorem dX8_laysTable_73 : decode cX8_laysTable 73 = .ok (.if_icmp .ge 16, 3) := by decide +kernel
theorem dX8_laysTable_76 : decode cX8_laysTable 76 = .ok (.aload_n 0, 1) := by decide +kernel
theorem dX8_laysTable_77 : decode cX8_laysTable 77 = .ok (.getfield 33, 3) := by decide +kernel
theorem dX8_laysTable_80 : decode cX8_laysTable 80 = .ok (.iload_n 1, 1) := by decide +kernel
theorem dX8_laysTable_81 : decode cX8_laysTable 81 = .ok (.lconst 0, 1) := by decide +kernel
theorem dX8_laysTable_82 : decode cX8_laysTable 82 = .ok (.lastore, 1) := by decide +kernel
theorem dX8_laysTable_83 : decode cX8_laysTable 83 = .ok (.iinc 1 1, 3) := by decide +kernel
theorem dX8_laysTable_86 : decode cX8_laysTable 86 = .ok (.goto (-16), 3) := by decide +kernel
theorem dX8_laysTable_89 : decode cX8_laysTable 89 = .ok (.iconst 0, 1) := by decide +kernel
theorem dX8_laysTable_90 : decode cX8_laysTable 90 = .ok (.istore_n 1, 1) := by decide +kernel
theorem dX8_laysTable_91 : decode cX8_laysTable 91 = .ok (.iload_n 1, 1) := by decide +kernel
theorem dX8_laysTable_92 : decode cX8_laysTable 92 = .ok (.aload_n 0, 1) := by decide +kernel
theorem dX8_laysTable_93 : decode cX8_laysTable 93 = .ok (.getfield 13, 3) := by decide +kernel
theorem dX8_laysTable_96 : decode cX8_laysTable 96 = .ok (.iconst 0, 1) := by decide +kernel
theorem dX8_laysTable_97 : decode cX8_laysTable 97 = .ok (.iaload, 1) := by decide +kernel
theorem dX8_laysTable_98 : decode cX8_laysTable 98 = .ok (.if_icmp .ge 48, 3) := by decide +kernel
theorem dX8_laysTable_101 : decode cX8_laysTable 101 = .ok (.aload_n 0, 1) := by decide +kernel
theorem dX8_laysTable_102 : decode cX8_laysTable 102 = .ok (.iload_n 1, 1) := by decide +kernel
theorem dX8_laysTable_103 : decode cX8_laysTable 103 = .ok (.invokevirtual 134, 3) := by decide +kernel
theorem dX8_laysTable_106 : decode cX8_laysTable 106 = .ok (.ifCond .eq 34, 3) := by decide +kernel
theorem dX8_laysTable_109 : decode cX8_laysTable 109 = .ok (.aload_n 0, 1) := by decide +kernel
theorem dX8_laysTable_110 : decode cX8_laysTable 110 = .ok (.getfield 33, 3) := by decide +kernel
theorem dX8_laysTable_113 : decode cX8_laysTable 113 = .ok (.bipush 8, 2) := by decide +kernel
theorem dX8_laysTable_115 : decode cX8_laysTable 115 = .ok (.aload_n 0, 1) := by decide +kernel
theorem dX8_laysTable_116 : decode cX8_laysTable 116 = .ok (.getfield 37, 3) := by decide +kernel
theorem dX8_laysTable_119 : decode cX8_laysTable 119 = .ok (.iload_n 1, 1) := by decide +kernel
theorem dX8_laysTable_120 : decode cX8_laysTable 120 = .ok (.iaload, 1) := by decide +kernel
theorem dX8_laysTable_121 : decode cX8_laysTable 121 = .ok (.imul, 1) := by decide +kernel
theorem dX8_laysTable_122 : decode cX8_laysTable 122 = .ok (.iconst 5, 1) := by decide +kernel
theorem dX8_laysTable_123 : decode cX8_laysTable 123 = .ok (.iadd, 1) := by decide +kernel
theorem dX8_laysTable_124 : decode cX8_laysTable 124 = .ok (.iconst 2, 1) := by decide +kernel
theorem dX8_laysTable_125 : decode cX8_laysTable 125 = .ok (.iadd, 1) := by decide +kernel
theorem dX8_laysTable_126 : decode cX8_laysTable 126 = .ok (.dup2, 1) := by decide +kernel
theorem dX8_laysTable_127 : decode cX8_laysTable 127 = .ok (.laload, 1) := by decide +kernel
theorem dX8_laysTable_128 : decode cX8_laysTable 128 = .ok (.aload_n 0, 1) := by decide +kernel
theorem dX8_laysTable_129 : decode cX8_laysTable 129 = .ok (.getfield 13, 3) := by decide +kernel
theorem dX8_laysTable_132 : decode cX8_laysTable 132 = .ok (.bipush 44, 2) := by decide +kernel
theorem dX8_laysTable_134 : decode cX8_laysTable 134 = .ok (.iload_n 1, 1) := by decide +kernel
theorem dX8_laysTable_135 : decode cX8_laysTable 135 = .ok (.iadd, 1) := by decide +kernel
theorem dX8_laysTable_136 : decode cX8_laysTable 136 = .ok (.iaload, 1) := by decide +kernel
theorem dX8_laysTable_137 : decode cX8_laysTable 137 = .ok (.i2l, 1) := by decide +kernel
theorem dX8_laysTable_138 : decode cX8_laysTable 138 = .ok (.ladd, 1) := by decide +kernel
theorem dX8_laysTable_139 : decode cX8_laysTable 139 = .ok (.lastore, 1) := by decide +kernel
theorem dX8_laysTable_140 : decode cX8_laysTable 140 = .ok (.iinc 1 1, 3) := by decide +kernel
theorem dX8_laysTable_143 : decode cX8_laysTable 143 = .ok (.goto (-52), 3) := by decide +kernel
theorem dX8_laysTable_146 : decode cX8_laysTable 146 = .ok (.iconst 0, 1) := by decide +kernel
theorem dX8_laysTable_147 : decode cX8_laysTable 147 = .ok (.istore_n 1, 1) := by decide +kernel
theorem dX8_laysTable_148 : decode cX8_laysTable 148 = .ok (.iload_n 1, 1) := by decide +kernel
theorem dX8_laysTable_149 : decode cX8_laysTable 149 = .ok (.aload_n 0, 1) := by decide +kernel
theorem dX8_laysTable_150 : decode cX8_laysTable 150 = .ok (.getfield 13, 3) := by decide +kernel
theorem dX8_laysTable_153 : decode cX8_laysTable 153 = .ok (.iconst 1, 1) := by decide +kernel
theorem dX8_laysTable_154 : decode cX8_laysTable 154 = .ok (.iaload, 1) := by decide +kernel
theorem dX8_laysTable_155 : decode cX8_laysTable 155 = .ok (.if_icmp .ge 39, 3) := by decide +kernel
theorem dX8_laysTable_158 : decode cX8_laysTable 158 = .ok (.aload_n 0, 1) := by decide +kernel
theorem dX8_laysTable_159 : decode cX8_laysTable 159 = .ok (.iload_n 1, 1) := by decide +kernel
theorem dX8_laysTable_160 : decode cX8_laysTable 160 = .ok (.invokevirtual 137, 3) := by decide +kernel
theorem dX8_laysTable_163 : decode cX8_laysTable 163 = .ok (.ifCond .eq 25, 3) := by decide +kernel
theorem dX8_laysTable_166 : decode cX8_laysTable 166 = .ok (.aload_n 0, 1) := by decide +kernel
theorem dX8_laysTable_167 : decode cX8_laysTable 167 = .ok (.iload_n 1, 1) := by decide +kernel
theorem dX8_laysTable_168 : decode cX8_laysTable 168 = .ok (.aload_n 0, 1) := by decide +kernel
theorem dX8_laysTable_169 : decode cX8_laysTable 169 = .ok (.iload_n 1, 1) := by decide +kernel
theorem dX8_laysTable_170 : decode cX8_laysTable 170 = .ok (.iconst 0, 1) := by decide +kernel
theorem dX8_laysTable_171 : decode cX8_laysTable 171 = .ok (.invokevirtual 131, 3) := by decide +kernel
theorem dX8_laysTable_174 : decode cX8_laysTable 174 = .ok (.invokevirtual 143, 3) := by decide +kernel
theorem dX8_laysTable_177 : decode cX8_laysTable 177 = .ok (.aload_n 0, 1) := by decide +kernel
theorem dX8_laysTable_178 : decode cX8_laysTable 178 = .ok (.iload_n 1, 1) := by decide +kernel
theorem dX8_laysTable_179 : decode cX8_laysTable 179 = .ok (.aload_n 0, 1) := by decide +kernel
theorem dX8_laysTable_180 : decode cX8_laysTable 180 = .ok (.iload_n 1, 1) := by decide +kernel
theorem dX8_laysTable_181 : decode cX8_laysTable 181 = .ok (.iconst 1, 1) := by decide +kernel
theorem dX8_laysTable_182 : decode cX8_laysTable 182 = .ok (.invokevirtual 131, 3) := by decide +kernel
theorem dX8_laysTable_185 : decode cX8_laysTable 185 = .ok (.invokevirtual 143, 3) := by decide +kernel
theorem dX8_laysTable_188 : decode cX8_laysTable 188 = .ok (.iinc 1 1, 3) := by decide +kernel
theorem dX8_laysTable_191 : decode cX8_laysTable 191 = .ok (.goto (-43), 3) := by decide +kernel
theorem dX8_laysTable_194 : decode cX8_laysTable 194 = .ok (.return_, 1) := by decide +kernel
theorem dX8_laysEnd_0 : decode cX8_laysEnd 0 = .ok (.aload_n 0, 1) := by decide +kernel
theorem dX8_laysEnd_1 : decode cX8_laysEnd 1 = .ok (.iload_n 2, 1) := by decide +kernel
theorem dX8_laysEnd_2 : decode cX8_laysEnd 2 = .ok (.invokevirtual 134, 3) := by decide +kernel
theorem dX8_laysEnd_5 : decode cX8_laysEnd 5 = .ok (.ifCond .ne 4, 3) := by decide +kernel
theorem dX8_laysEnd_8 : decode cX8_laysEnd 8 = .ok (.return_, 1) := by decide +kernel
theorem dX8_laysEnd_9 : decode cX8_laysEnd 9 = .ok (.bipush 8, 2) := by decide +kernel
theorem dX8_laysEnd_11 : decode cX8_laysEnd 11 = .ok (.aload_n 0, 1) := by decide +kernel
theorem dX8_laysEnd_12 : decode cX8_laysEnd 12 = .ok (.getfield 37, 3) := by decide +kernel
theorem dX8_laysEnd_15 : decode cX8_laysEnd 15 = .ok (.iload_n 2, 1) := by decide +kernel
theorem dX8_laysEnd_16 : decode cX8_laysEnd 16 = .ok (.iaload, 1) := by decide +kernel
theorem dX8_laysEnd_17 : decode cX8_laysEnd 17 = .ok (.imul, 1) := by decide +kernel
theorem dX8_laysEnd_18 : decode cX8_laysEnd 18 = .ok (.istore_n 3, 1) := by decide +kernel
theorem dX8_laysEnd_19 : decode cX8_laysEnd 19 = .ok (.aload_n 0, 1) := by decide +kernel
theorem dX8_laysEnd_20 : decode cX8_laysEnd 20 = .ok (.iload_n 1, 1) := by decide +kernel
theorem dX8_laysEnd_21 : decode cX8_laysEnd 21 = .ok (.iload_n 2, 1) := by decide +kernel
theorem dX8_laysEnd_22 : decode cX8_laysEnd 22 = .ok (.invokevirtual 147, 3) := by decide +kernel
theorem dX8_laysEnd_25 : decode cX8_laysEnd 25 = .ok (.istore 4, 2) := by decide +kernel
theorem dX8_laysEnd_27 : decode cX8_laysEnd 27 = .ok (.aload_n 0, 1) := by decide +kernel
theorem dX8_laysEnd_28 : decode cX8_laysEnd 28 = .ok (.iload_n 1, 1) := by decide +kernel
theorem dX8_laysEnd_29 : decode cX8_laysEnd 29 = .ok (.iconst 2, 1) := by decide +kernel
theorem dX8_laysEnd_30 : decode cX8_laysEnd 30 = .ok (.invokevirtual 131, 3) := by decide +kernel
theorem dX8_laysEnd_33 : decode cX8_laysEnd 33 = .ok (.istore 5, 2) := by decide +kernel
theorem dX8_laysEnd_35 : decode cX8_laysEnd 35 = .ok (.aload_n 0, 1) := by decide +kernel
theorem dX8_laysEnd_36 : decode cX8_laysEnd 36 = .ok (.getfield 33, 3) := by decide +kernel
theorem dX8_laysEnd_39 : decode cX8_laysEnd 39 = .ok (.iload_n 3, 1) := by decide +kernel
theorem dX8_laysEnd_40 : decode cX8_laysEnd 40 = .ok (.aload_n 0, 1) := by decide +kernel
theorem dX8_laysEnd_41 : decode cX8_laysEnd 41 = .ok (.getfield 37, 3) := by decide +kernel
theorem dX8_laysEnd_44 : decode cX8_laysEnd 44 = .ok (.iload_n 2, 1) := by decide +kernel
theorem dX8_laysEnd_45 : decode cX8_laysEnd 45 = .ok (.iaload, 1) := by decide +kernel
theorem dX8_laysEnd_46 : decode cX8_laysEnd 46 = .ok (.iadd, 1) := by decide +kernel
theorem dX8_laysEnd_47 : decode cX8_laysEnd 47 = .ok (.dup2, 1) := by decide +kernel
theorem dX8_laysEnd_48 : decode cX8_laysEnd 48 = .ok (.laload, 1) := by decide +kernel
theorem dX8_laysEnd_49 : decode cX8_laysEnd 49 = .ok (.iload 5, 2) := by decide +kernel
theorem dX8_laysEnd_51 : decode cX8_laysEnd 51 = .ok (.i2l, 1) := by decide +kernel
theorem dX8_laysEnd_52 : decode cX8_laysEnd 52 = .ok (.ladd, 1) := by decide +kernel
theorem dX8_laysEnd_53 : decode cX8_laysEnd 53 = .ok (.lastore, 1) := by decide +kernel
theorem dX8_laysEnd_54 : decode cX8_laysEnd 54 = .ok (.aload_n 0, 1) := by decide +kernel
theorem dX8_laysEnd_55 : decode cX8_laysEnd 55 = .ok (.iload 4, 2) := by decide +kernel
theorem dX8_laysEnd_57 : decode cX8_laysEnd 57 = .ok (.invokevirtual 134, 3) := by decide +kernel
theorem dX8_laysEnd_60 : decode cX8_laysEnd 60 = .ok (.ifCond .eq 23, 3) := by decide +kernel
theorem dX8_laysEnd_63 : decode cX8_laysEnd 63 = .ok (.aload_n 0, 1) := by decide +kernel
theorem dX8_laysEnd_64 : decode cX8_laysEnd 64 = .ok (.getfield 33, 3) := by decide +kernel
theorem dX8_laysEnd_67 : decode cX8_laysEnd 67 = .ok (.iload_n 3, 1) := by decide +kernel
theorem dX8_laysEnd_68 : decode cX8_laysEnd 68 = .ok (.aload_n 0, 1) := by decide +kernel
theorem dX8_laysEnd_69 : decode cX8_laysEnd 69 = .ok (.getfield 37, 3) := by decide +kernel
theorem dX8_laysEnd_72 : decode cX8_laysEnd 72 = .ok (.iload 4, 2) := by decide +kernel
theorem dX8_laysEnd_74 : decode cX8_laysEnd 74 = .ok (.iaload, 1) := by decide +kernel
theorem dX8_laysEnd_75 : decode cX8_laysEnd 75 = .ok (.iadd, 1) := by decide +kernel
theorem dX8_laysEnd_76 : decode cX8_laysEnd 76 = .ok (.dup2, 1) := by decide +kernel
theorem dX8_laysEnd_77 : decode cX8_laysEnd 77 = .ok (.laload, 1) := by decide +kernel
theorem dX8_laysEnd_78 : decode cX8_laysEnd 78 = .ok (.iload 5, 2) := by decide +kernel
theorem dX8_laysEnd_80 : decode cX8_laysEnd 80 = .ok (.i2l, 1) := by decide +kernel
theorem dX8_laysEnd_81 : decode cX8_laysEnd 81 = .ok (.lsub, 1) := by decide +kernel
theorem dX8_laysEnd_82 : decode cX8_laysEnd 82 = .ok (.lastore, 1) := by decide +kernel
theorem dX8_laysEnd_83 : decode cX8_laysEnd 83 = .ok (.iconst 0, 1) := by decide +kernel
theorem dX8_laysEnd_84 : decode cX8_laysEnd 84 = .ok (.istore 6, 2) := by decide +kernel
theorem dX8_laysEnd_86 : decode cX8_laysEnd 86 = .ok (.iload 6, 2) := by decide +kernel
theorem dX8_laysEnd_88 : decode cX8_laysEnd 88 = .ok (.iconst 3, 1) := by decide +kernel
theorem dX8_laysEnd_89 : decode cX8_laysEnd 89 = .ok (.if_icmp .ge 52, 3) := by decide +kernel
theorem dX8_laysEnd_92 : decode cX8_laysEnd 92 = .ok (.aload_n 0, 1) := by decide +kernel
theorem dX8_laysEnd_93 : decode cX8_laysEnd 93 = .ok (.iload 4, 2) := by decide +kernel
theorem dX8_laysEnd_95 : decode cX8_laysEnd 95 = .ok (.invokevirtual 134, 3) := by decide +kernel
theorem dX8_laysEnd_98 : decode cX8_laysEnd 98 = .ok (.ifCond .ne 43, 3) := by decide +kernel
theorem dX8_laysEnd_101 : decode cX8_laysEnd 101 = .ok (.aload_n 0, 1) := by decide +kernel
theorem dX8_laysEnd_102 : decode cX8_laysEnd 102 = .ok (.getfield 33, 3) := by decide +kernel
theorem dX8_laysEnd_105 : decode cX8_laysEnd 105 = .ok (.iload_n 3, 1) := by decide +kernel
theorem dX8_laysEnd_106 : decode cX8_laysEnd 106 = .ok (.iconst 5, 1) := by decide +kernel
theorem dX8_laysEnd_107 : decode cX8_laysEnd 107 = .ok (.iadd, 1) := by decide +kernel
theorem dX8_laysEnd_108 : decode cX8_laysEnd 108 = .ok (.iload 6, 2) := by decide +kernel
theorem dX8_laysEnd_110 : decode cX8_laysEnd 110 = .ok (.iadd, 1) := by decide +kernel
theorem dX8_laysEnd_111 : decode cX8_laysEnd 111 = .ok (.dup2, 1) := by decide +kernel
theorem dX8_laysEnd_112 : decode cX8_laysEnd 112 = .ok (.laload, 1) := by decide +kernel
theorem dX8_laysEnd_113 : decode cX8_laysEnd 113 = .ok (.iload 5, 2) := by decide +kernel
theorem dX8_laysEnd_115 : decode cX8_laysEnd 115 = .ok (.i2l, 1) := by decide +kernel
theorem dX8_laysEnd_116 : decode cX8_laysEnd 116 = .ok (.aload_n 0, 1) := by decide +kernel
theorem dX8_laysEnd_117 : decode cX8_laysEnd 117 = .ok (.getfield 13, 3) := by decide +kernel
theorem dX8_laysEnd_120 : decode cX8_laysEnd 120 = .ok (.bipush 14, 2) := by decide +kernel
theorem dX8_laysEnd_122 : decode cX8_laysEnd 122 = .ok (.iconst 3, 1) := by decide +kernel
theorem dX8_laysEnd_123 : decode cX8_laysEnd 123 = .ok (.iload 4, 2) := by decide +kernel
theorem dX8_laysEnd_125 : decode cX8_laysEnd 125 = .ok (.imul, 1) := by decide +kernel
theorem dX8_laysEnd_126 : decode cX8_laysEnd 126 = .ok (.iadd, 1) := by decide +kernel
theorem dX8_laysEnd_127 : decode cX8_laysEnd 127 = .ok (.iload 6, 2) := by decide +kernel
theorem dX8_laysEnd_129 : decode cX8_laysEnd 129 = .ok (.iadd, 1) := by decide +kernel
theorem dX8_laysEnd_130 : decode cX8_laysEnd 130 = .ok (.iaload, 1) := by decide +kernel
theorem dX8_laysEnd_131 : decode cX8_laysEnd 131 = .ok (.i2l, 1) := by decide +kernel
theorem dX8_laysEnd_132 : decode cX8_laysEnd 132 = .ok (.lmul, 1) := by decide +kernel
theorem dX8_laysEnd_133 : decode cX8_laysEnd 133 = .ok (.ladd, 1) := by decide +kernel
theorem dX8_laysEnd_134 : decode cX8_laysEnd 134 = .ok (.lastore, 1) := by decide +kernel
theorem dX8_laysEnd_135 : decode cX8_laysEnd 135 = .ok (.iinc 6 1, 3) := by decide +kernel
theorem dX8_laysEnd_138 : decode cX8_laysEnd 138 = .ok (.goto (-52), 3) := by decide +kernel
theorem dX8_laysEnd_141 : decode cX8_laysEnd 141 = .ok (.return_, 1) := by decide +kernel
theorem dX8_lays_0 : decode cX8_lays 0 = .ok (.aload_n 0, 1) := by decide +kernel
theorem dX8_lays_1 : decode cX8_lays 1 = .ok (.bipush (-4), 2) := by decide +kernel
theorem dX8_lays_3 : decode cX8_lays 3 = .ok (.invokevirtual 150, 3) := by decide +kernel
theorem dX8_lays_6 : decode cX8_lays 6 = .ok (.ifCond .ne 5, 3) := by decide +kernel
theorem dX8_lays_9 : decode cX8_lays 9 = .ok (.iconst 0, 1) := by decide +kernel
theorem dX8_lays_10 : decode cX8_lays 10 = .ok (.ireturn, 1) := by decide +kernel
theorem dX8_lays_11 : decode cX8_lays 11 = .ok (.aload_n 0, 1) := by decide +kernel
theorem dX8_lays_12 : decode cX8_lays 12 = .ok (.invokevirtual 153, 3) := by decide +kernel
theorem dX8_lays_15 : decode cX8_lays 15 = .ok (.lconst 1, 1) := by decide +kernel
theorem dX8_lays_16 : decode cX8_lays 16 = .ok (.lstore_n 1, 1) := by decide +kernel
theorem dX8_lays_17 : decode cX8_lays 17 = .ok (.iconst 0, 1) := by decide +kernel
theorem dX8_lays_18 : decode cX8_lays 18 = .ok (.istore_n 3, 1) := by decide +kernel
theorem dX8_lays_19 : decode cX8_lays 19 = .ok (.iload_n 3, 1) := by decide +kernel
theorem dX8_lays_20 : decode cX8_lays 20 = .ok (.aload_n 0, 1) := by decide +kernel
theorem dX8_lays_21 : decode cX8_lays 21 = .ok (.getfield 140, 3) := by decide +kernel
theorem dX8_lays_24 : decode cX8_lays 24 = .ok (.if_icmp .ge 126, 3) := by decide +kernel
theorem dX8_lays_27 : decode cX8_lays 27 = .ok (.aload_n 0, 1) := by decide +kernel
theorem dX8_lays_28 : decode cX8_lays 28 = .ok (.getfield 33, 3) := by decide +kernel
theorem dX8_lays_31 : decode cX8_lays 31 = .ok (.bipush 8, 2) := by decide +kernel
theorem dX8_lays_33 : decode cX8_lays 33 = .ok (.iload_n 3, 1) := by decide +kernel
theorem dX8_lays_34 : decode cX8_lays 34 = .ok (.imul, 1) := by decide +kernel
theorem dX8_lays_35 : decode cX8_lays 35 = .ok (.iload_n 3, 1) := by decide +kernel
theorem dX8_lays_36 : decode cX8_lays 36 = .ok (.iadd, 1) := by decide +kernel
theorem dX8_lays_37 : decode cX8_lays 37 = .ok (.laload, 1) := by decide +kernel
theorem dX8_lays_38 : decode cX8_lays 38 = .ok (.lstore 4, 2) := by decide +kernel
theorem dX8_lays_40 : decode cX8_lays 40 = .ok (.iconst 0, 1) := by decide +kernel
theorem dX8_lays_41 : decode cX8_lays 41 = .ok (.istore 6, 2) := by decide +kernel
theorem dX8_lays_43 : decode cX8_lays 43 = .ok (.iload 6, 2) := by decide +kernel
theorem dX8_lays_45 : decode cX8_lays 45 = .ok (.aload_n 0, 1) := by decide +kernel
theorem dX8_lays_46 : decode cX8_lays 46 = .ok (.getfield 140, 3) := by decide +kernel
theorem dX8_lays_49 : decode cX8_lays 49 = .ok (.if_icmp .ge 92, 3) := by decide +kernel
theorem dX8_lays_52 : decode cX8_lays 52 = .ok (.aload_n 0, 1) := by decide +kernel
theorem dX8_lays_53 : decode cX8_lays 53 = .ok (.getfield 33, 3) := by decide +kernel
theorem dX8_lays_56 : decode cX8_lays 56 = .ok (.bipush 8, 2) := by decide +kernel
theorem dX8_lays_58 : decode cX8_lays 58 = .ok (.iload 6, 2) := by decide +kernel
theorem dX8_lays_60 : decode cX8_lays 60 = .ok (.imul, 1) := by decide +kernel
theorem dX8_lays_61 : decode cX8_lays 61 = .ok (.iload_n 3, 1) := by decide +kernel
theorem dX8_lays_62 : decode cX8_lays 62 = .ok (.iadd, 1) := by decide +kernel
theorem dX8_lays_63 : decode cX8_lays 63 = .ok (.laload, 1) := by decide +kernel
theorem dX8_lays_64 : decode cX8_lays 64 = .ok (.lstore 7, 2) := by decide +kernel
theorem dX8_lays_66 : decode cX8_lays 66 = .ok (.iconst 0, 1) := by decide +kernel
theorem dX8_lays_67 : decode cX8_lays 67 = .ok (.istore 9, 2) := by decide +kernel
theorem dX8_lays_69 : decode cX8_lays 69 = .ok (.iload 9, 2) := by decide +kernel
theorem dX8_lays_71 : decode cX8_lays 71 = .ok (.bipush 8, 2) := by decide +kernel
theorem dX8_lays_73 : decode cX8_lays 73 = .ok (.if_icmp .ge 62, 3) := by decide +kernel
theorem dX8_lays_76 : decode cX8_lays 76 = .ok (.iload 6, 2) := by decide +kernel
theorem dX8_lays_78 : decode cX8_lays 78 = .ok (.iload_n 3, 1) := by decide +kernel
theorem dX8_lays_79 : decode cX8_lays 79 = .ok (.if_icmp .eq 56, 3) := by decide +kernel
theorem dX8_lays_82 : decode cX8_lays 82 = .ok (.aload_n 0, 1) := by decide +kernel
theorem dX8_lays_83 : decode cX8_lays 83 = .ok (.getfield 33, 3) := by decide +kernel
theorem dX8_lays_86 : decode cX8_lays 86 = .ok (.bipush 8, 2) := by decide +kernel
theorem dX8_lays_88 : decode cX8_lays 88 = .ok (.iload 6, 2) := by decide +kernel
theorem dX8_lays_90 : decode cX8_lays 90 = .ok (.imul, 1) := by decide +kernel
theorem dX8_lays_91 : decode cX8_lays 91 = .ok (.iload 9, 2) := by decide +kernel
theorem dX8_lays_93 : decode cX8_lays 93 = .ok (.iadd, 1) := by decide +kernel
theorem dX8_lays_94 : decode cX8_lays 94 = .ok (.lload 4, 2) := by decide +kernel
theorem dX8_lays_96 : decode cX8_lays 96 = .ok (.aload_n 0, 1) := by decide +kernel
theorem dX8_lays_97 : decode cX8_lays 97 = .ok (.getfield 33, 3) := by decide +kernel
theorem dX8_lays_100 : decode cX8_lays 100 = .ok (.bipush 8, 2) := by decide +kernel
theorem dX8_lays_102 : decode cX8_lays 102 = .ok (.iload 6, 2) := by decide +kernel
theorem dX8_lays_104 : decode cX8_lays 104 = .ok (.imul, 1) := by decide +kernel
theorem dX8_lays_105 : decode cX8_lays 105 = .ok (.iload 9, 2) := by decide +kernel
theorem dX8_lays_107 : decode cX8_lays 107 = .ok (.iadd, 1) := by decide +kernel
theorem dX8_lays_108 : decode cX8_lays 108 = .ok (.laload, 1) := by decide +kernel
theorem dX8_lays_109 : decode cX8_lays 109 = .ok (.lmul, 1) := by decide +kernel
theorem dX8_lays_110 : decode cX8_lays 110 = .ok (.lload 7, 2) := by decide +kernel
theorem dX8_lays_112 : decode cX8_lays 112 = .ok (.aload_n 0, 1) := by decide +kernel
theorem dX8_lays_113 : decode cX8_lays 113 = .ok (.getfield 33, 3) := by decide +kernel
theorem dX8_lays_116 : decode cX8_lays 116 = .ok (.bipush 8, 2) := by decide +kernel
theorem dX8_lays_118 : decode cX8_lays 118 = .ok (.iload_n 3, 1) := by decide +kernel
theorem dX8_lays_119 : decode cX8_lays 119 = .ok (.imul, 1) := by decide +kernel
theorem dX8_lays_120 : decode cX8_lays 120 = .ok (.iload 9, 2) := by decide +kernel
theorem dX8_lays_122 : decode cX8_lays 122 = .ok (.iadd, 1) := by decide +kernel
theorem dX8_lays_123 : decode cX8_lays 123 = .ok (.laload, 1) := by decide +kernel
theorem dX8_lays_124 : decode cX8_lays 124 = .ok (.lmul, 1) := by decide +kernel
theorem dX8_lays_125 : decode cX8_lays 125 = .ok (.lsub, 1) := by decide +kernel
theorem dX8_lays_126 : decode cX8_lays 126 = .ok (.lload_n 1, 1) := by decide +kernel
theorem dX8_lays_127 : decode cX8_lays 127 = .ok (.ldiv, 1) := by decide +kernel
theorem dX8_lays_128 : decode cX8_lays 128 = .ok (.lastore, 1) := by decide +kernel
theorem dX8_lays_129 : decode cX8_lays 129 = .ok (.iinc 9 1, 3) := by decide +kernel
theorem dX8_lays_132 : decode cX8_lays 132 = .ok (.goto (-63), 3) := by decide +kernel
theorem dX8_lays_135 : decode cX8_lays 135 = .ok (.iinc 6 1, 3) := by decide +kernel
theorem dX8_lays_138 : decode cX8_lays 138 = .ok (.goto (-95), 3) := by decide +kernel
theorem dX8_lays_141 : decode cX8_lays 141 = .ok (.lload 4, 2) := by decide +kernel
theorem dX8_lays_143 : decode cX8_lays 143 = .ok (.lstore_n 1, 1) := by decide +kernel
theorem dX8_lays_144 : decode cX8_lays 144 = .ok (.iinc 3 1, 3) := by decide +kernel
theorem dX8_lays_147 : decode cX8_lays 147 = .ok (.goto (-128), 3) := by decide +kernel
theorem dX8_lays_150 : decode cX8_lays 150 = .ok (.aload_n 0, 1) := by decide +kernel
theorem dX8_lays_151 : decode cX8_lays 151 = .ok (.lload_n 1, 1) := by decide +kernel
theorem dX8_lays_152 : decode cX8_lays 152 = .ok (.putfield 156, 3) := by decide +kernel
theorem dX8_lays_155 : decode cX8_lays 155 = .ok (.iconst 0, 1) := by decide +kernel
theorem dX8_lays_156 : decode cX8_lays 156 = .ok (.istore_n 3, 1) := by decide +kernel
theorem dX8_lays_157 : decode cX8_lays 157 = .ok (.iload_n 3, 1) := by decide +kernel
theorem dX8_lays_158 : decode cX8_lays 158 = .ok (.aload_n 0, 1) := by decide +kernel
theorem dX8_lays_159 : decode cX8_lays 159 = .ok (.getfield 13, 3) := by decide +kernel
theorem dX8_lays_162 : decode cX8_lays 162 = .ok (.iconst 0, 1) := by decide +kernel
theorem dX8_lays_163 : decode cX8_lays 163 = .ok (.iaload, 1) := by decide +kernel
theorem dX8_lays_164 : decode cX8_lays 164 = .ok (.if_icmp .ge 119, 3) := by decide +kernel
theorem dX8_lays_167 : decode cX8_lays 167 = .ok (.iconst 0, 1) := by decide +kernel
theorem dX8_lays_168 : decode cX8_lays 168 = .ok (.istore 4, 2) := by decide +kernel
theorem dX8_lays_170 : decode cX8_lays 170 = .ok (.iload 4, 2) := by decide +kernel
theorem dX8_lays_172 : decode cX8_lays 172 = .ok (.iconst 3, 1) := by decide +kernel
theorem dX8_lays_173 : decode cX8_lays 173 = .ok (.if_icmp .ge 104, 3) := by decide +kernel
theorem dX8_lays_176 : decode cX8_lays 176 = .ok (.aload_n 0, 1) := by decide +kernel
theorem dX8_lays_177 : decode cX8_lays 177 = .ok (.getfield 40, 3) := by decide +kernel
theorem dX8_lays_180 : decode cX8_lays 180 = .ok (.iconst 3, 1) := by decide +kernel
theorem dX8_lays_181 : decode cX8_lays 181 = .ok (.iload_n 3, 1) := by decide +kernel
theorem dX8_lays_182 : decode cX8_lays 182 = .ok (.imul, 1) := by decide +kernel
theorem dX8_lays_183 : decode cX8_lays 183 = .ok (.iload 4, 2) := by decide +kernel
theorem dX8_lays_185 : decode cX8_lays 185 = .ok (.iadd, 1) := by decide +kernel
theorem dX8_lays_186 : decode cX8_lays 186 = .ok (.aload_n 0, 1) := by decide +kernel
theorem dX8_lays_187 : decode cX8_lays 187 = .ok (.iload_n 3, 1) := by decide +kernel
theorem dX8_lays_188 : decode cX8_lays 188 = .ok (.invokevirtual 134, 3) := by decide +kernel
theorem dX8_lays_191 : decode cX8_lays 191 = .ok (.ifCond .eq 25, 3) := by decide +kernel
theorem dX8_lays_194 : decode cX8_lays 194 = .ok (.aload_n 0, 1) := by decide +kernel
theorem dX8_lays_195 : decode cX8_lays 195 = .ok (.getfield 33, 3) := by decide +kernel
theorem dX8_lays_198 : decode cX8_lays 198 = .ok (.bipush 8, 2) := by decide +kernel
theorem dX8_lays_200 : decode cX8_lays 200 = .ok (.aload_n 0, 1) := by decide +kernel
theorem dX8_lays_201 : decode cX8_lays 201 = .ok (.getfield 37, 3) := by decide +kernel
theorem dX8_lays_204 : decode cX8_lays 204 = .ok (.iload_n 3, 1) := by decide +kernel
theorem dX8_lays_205 : decode cX8_lays 205 = .ok (.iaload, 1) := by decide +kernel
theorem dX8_lays_206 : decode cX8_lays 206 = .ok (.imul, 1) := by decide +kernel
theorem dX8_lays_207 : decode cX8_lays 207 = .ok (.iconst 5, 1) := by decide +kernel
theorem dX8_lays_208 : decode cX8_lays 208 = .ok (.iadd, 1) := by decide +kernel
theorem dX8_lays_209 : decode cX8_lays 209 = .ok (.iload 4, 2) := by decide +kernel
theorem dX8_lays_211 : decode cX8_lays 211 = .ok (.iadd, 1) := by decide +kernel
theorem dX8_lays_212 : decode cX8_lays 212 = .ok (.laload, 1) := by decide +kernel
theorem dX8_lays_213 : decode cX8_lays 213 = .ok (.goto 23, 3) := by decide +kernel
theorem dX8_lays_216 : decode cX8_lays 216 = .ok (.aload_n 0, 1) := by decide +kernel
theorem dX8_lays_217 : decode cX8_lays 217 = .ok (.getfield 156, 3) := by decide +kernel
theorem dX8_lays_220 : decode cX8_lays 220 = .ok (.aload_n 0, 1) := by decide +kernel
theorem dX8_lays_221 : decode cX8_lays 221 = .ok (.getfield 13, 3) := by decide +kernel
theorem dX8_lays_224 : decode cX8_lays 224 = .ok (.bipush 14, 2) := by decide +kernel
theorem dX8_lays_226 : decode cX8_lays 226 = .ok (.iconst 3, 1) := by decide +kernel
theorem dX8_lays_227 : decode cX8_lays 227 = .ok (.iload_n 3, 1) := by decide +kernel
theorem dX8_lays_228 : decode cX8_lays 228 = .ok (.imul, 1) := by decide +kernel
theorem dX8_lays_229 : decode cX8_lays 229 = .ok (.iadd, 1) := by decide +kernel
theorem dX8_lays_230 : decode cX8_lays 230 = .ok (.iload 4, 2) := by decide +kernel
theorem dX8_lays_232 : decode cX8_lays 232 = .ok (.iadd, 1) := by decide +kernel
theorem dX8_lays_233 : decode cX8_lays 233 = .ok (.iaload, 1) := by decide +kernel
theorem dX8_lays_234 : decode cX8_lays 234 = .ok (.i2l, 1) := by decide +kernel
theorem dX8_lays_235 : decode cX8_lays 235 = .ok (.lmul, 1) := by decide +kernel
theorem dX8_lays_236 : decode cX8_lays 236 = .ok (.lastore, 1) := by decide +kernel
theorem dX8_lays_237 : decode cX8_lays 237 = .ok (.aload_n 0, 1) := by decide +kernel
theorem dX8_lays_238 : decode cX8_lays 238 = .ok (.getfield 43, 3) := by decide +kernel
theorem dX8_lays_241 : decode cX8_lays 241 = .ok (.iconst 3, 1) := by decide +kernel
theorem dX8_lays_242 : decode cX8_lays 242 = .ok (.iload_n 3, 1) := by decide +kernel
theorem dX8_lays_243 : decode cX8_lays 243 = .ok (.imul, 1) := by decide +kernel
theorem dX8_lays_244 : decode cX8_lays 244 = .ok (.iload 4, 2) := by decide +kernel
theorem dX8_lays_246 : decode cX8_lays 246 = .ok (.iadd, 1) := by decide +kernel
theorem dX8_lays_247 : decode cX8_lays 247 = .ok (.ldc2_w 160, 3) := by decide +kernel
theorem dX8_lays_250 : decode cX8_lays 250 = .ok (.aload_n 0, 1) := by decide +kernel
theorem dX8_lays_251 : decode cX8_lays 251 = .ok (.getfield 40, 3) := by decide +kernel
theorem dX8_lays_254 : decode cX8_lays 254 = .ok (.iconst 3, 1) := by decide +kernel
theorem dX8_lays_255 : decode cX8_lays 255 = .ok (.iload_n 3, 1) := by decide +kernel
theorem dX8_lays_256 : decode cX8_lays 256 = .ok (.imul, 1) := by decide +kernel
theorem dX8_lays_257 : decode cX8_lays 257 = .ok (.iload 4, 2) := by decide +kernel
theorem dX8_lays_259 : decode cX8_lays 259 = .ok (.iadd, 1) := by decide +kernel
theorem dX8_lays_260 : decode cX8_lays 260 = .ok (.laload, 1) := by decide +kernel
theorem dX8_lays_261 : decode cX8_lays 261 = .ok (.lmul, 1) := by decide +kernel
theorem dX8_lays_262 : decode cX8_lays 262 = .ok (.aload_n 0, 1) := by decide +kernel
theorem dX8_lays_263 : decode cX8_lays 263 = .ok (.getfield 156, 3) := by decide +kernel
theorem dX8_lays_266 : decode cX8_lays 266 = .ok (.invokestatic 162, 3) := by decide +kernel
theorem dX8_lays_269 : decode cX8_lays 269 = .ok (.l2i, 1) := by decide +kernel
theorem dX8_lays_270 : decode cX8_lays 270 = .ok (.iastore, 1) := by decide +kernel
theorem dX8_lays_271 : decode cX8_lays 271 = .ok (.iinc 4 1, 3) := by decide +kernel
theorem dX8_lays_274 : decode cX8_lays 274 = .ok (.goto (-104), 3) := by decide +kernel
theorem dX8_lays_277 : decode cX8_lays 277 = .ok (.iinc 3 1, 3) := by decide +kernel
theorem dX8_lays_280 : decode cX8_lays 280 = .ok (.goto (-123), 3) := by decide +kernel
theorem dX8_lays_283 : decode cX8_lays 283 = .ok (.iconst 1, 1) := by decide +kernel
theorem dX8_lays_284 : decode cX8_lays 284 = .ok (.ireturn, 1) := by decide +kernel
theorem dX8_down_0 : decode cX8_down 0 = .ok (.lload_n 0, 1) := by decide +kernel
theorem dX8_down_1 : decode cX8_down 1 = .ok (.lconst 0, 1) := by decide +kernel
theorem dX8_down_2 : decode cX8_down 2 = .ok (.lcmp, 1) := by decide +kernel
theorem dX8_down_3 : decode cX8_down 3 = .ok (.ifCond .lt 9, 3) := by decide +kernel
theorem dX8_down_6 : decode cX8_down 6 = .ok (.lload_n 0, 1) := by decide +kernel
theorem dX8_down_7 : decode cX8_down 7 = .ok (.lload_n 2, 1) := by decide +kernel
theorem dX8_down_8 : decode cX8_down 8 = .ok (.ldiv, 1) := by decide +kernel
theorem dX8_down_9 : decode cX8_down 9 = .ok (.goto 12, 3) := by decide +kernel
theorem dX8_down_12 : decode cX8_down 12 = .ok (.lload_n 0, 1) := by decide +kernel
theorem dX8_down_13 : decode cX8_down 13 = .ok (.lneg, 1) := by decide +kernel
theorem dX8_down_14 : decode cX8_down 14 = .ok (.lload_n 2, 1) := by decide +kernel
theorem dX8_down_15 : decode cX8_down 15 = .ok (.ladd, 1) := by decide +kernel
theorem dX8_down_16 : decode cX8_down 16 = .ok (.lconst 1, 1) := by decide +kernel
theorem dX8_down_17 : decode cX8_down 17 = .ok (.lsub, 1) := by decide +kernel
theorem dX8_down_18 : decode cX8_down 18 = .ok (.lload_n 2, 1) := by decide +kernel
theorem dX8_down_19 : decode cX8_down 19 = .ok (.ldiv, 1) := by decide +kernel
theorem dX8_down_20 : decode cX8_down 20 = .ok (.lneg, 1) := by decide +kernel
theorem dX8_down_21 : decode cX8_down 21 = .ok (.lreturn, 1) := by decide +kernel
theorem dX8_root_0 : decode cX8_root 0 = .ok (.lconst 0, 1) := by decide +kernel
theorem dX8_root_1 : decode cX8_root 1 = .ok (.lstore_n 2, 1) := by decide +kernel
theorem dX8_root_2 : decode cX8_root 2 = .ok (.ldc2_w 166, 3) := by decide +kernel
theorem dX8_root_5 : decode cX8_root 5 = .ok (.lstore 4, 2) := by decide +kernel
theorem dX8_root_7 : decode cX8_root 7 = .ok (.lload_n 2, 1) := by decide +kernel
theorem dX8_root_8 : decode cX8_root 8 = .ok (.lload 4, 2) := by decide +kernel
theorem dX8_root_10 : decode cX8_root 10 = .ok (.lcmp, 1) := by decide +kernel
theorem dX8_root_11 : decode cX8_root 11 = .ok (.ifCond .ge 40, 3) := by decide +kernel
theorem dX8_root_14 : decode cX8_root 14 = .ok (.lload_n 2, 1) := by decide +kernel
theorem dX8_root_15 : decode cX8_root 15 = .ok (.lload 4, 2) := by decide +kernel
theorem dX8_root_17 : decode cX8_root 17 = .ok (.ladd, 1) := by decide +kernel
theorem dX8_root_18 : decode cX8_root 18 = .ok (.lconst 1, 1) := by decide +kernel
theorem dX8_root_19 : decode cX8_root 19 = .ok (.ladd, 1) := by decide +kernel
theorem dX8_root_20 : decode cX8_root 20 = .ok (.ldc2_w 168, 3) := by decide +kernel
theorem dX8_root_23 : decode cX8_root 23 = .ok (.ldiv, 1) := by decide +kernel
theorem dX8_root_24 : decode cX8_root 24 = .ok (.lstore 6, 2) := by decide +kernel
theorem dX8_root_26 : decode cX8_root 26 = .ok (.lload 6, 2) := by decide +kernel
theorem dX8_root_28 : decode cX8_root 28 = .ok (.lload 6, 2) := by decide +kernel
theorem dX8_root_30 : decode cX8_root 30 = .ok (.lmul, 1) := by decide +kernel
theorem dX8_root_31 : decode cX8_root 31 = .ok (.lload_n 0, 1) := by decide +kernel
theorem dX8_root_32 : decode cX8_root 32 = .ok (.lcmp, 1) := by decide +kernel
theorem dX8_root_33 : decode cX8_root 33 = .ok (.ifCond .gt 9, 3) := by decide +kernel
theorem dX8_root_36 : decode cX8_root 36 = .ok (.lload 6, 2) := by decide +kernel
theorem dX8_root_38 : decode cX8_root 38 = .ok (.lstore_n 2, 1) := by decide +kernel
theorem dX8_root_39 : decode cX8_root 39 = .ok (.goto 9, 3) := by decide +kernel
theorem dX8_root_42 : decode cX8_root 42 = .ok (.lload 6, 2) := by decide +kernel
theorem dX8_root_44 : decode cX8_root 44 = .ok (.lconst 1, 1) := by decide +kernel
theorem dX8_root_45 : decode cX8_root 45 = .ok (.lsub, 1) := by decide +kernel
theorem dX8_root_46 : decode cX8_root 46 = .ok (.lstore 4, 2) := by decide +kernel
theorem dX8_root_48 : decode cX8_root 48 = .ok (.goto (-41), 3) := by decide +kernel
theorem dX8_root_51 : decode cX8_root 51 = .ok (.lload_n 2, 1) := by decide +kernel
theorem dX8_root_52 : decode cX8_root 52 = .ok (.lreturn, 1) := by decide +kernel
theorem dX8_lengthOf_0 : decode cX8_lengthOf 0 = .ok (.lconst 0, 1) := by decide +kernel
theorem dX8_lengthOf_1 : decode cX8_lengthOf 1 = .ok (.lstore_n 2, 1) := by decide +kernel
theorem dX8_lengthOf_2 : decode cX8_lengthOf 2 = .ok (.iconst 0, 1) := by decide +kernel
theorem dX8_lengthOf_3 : decode cX8_lengthOf 3 = .ok (.istore 4, 2) := by decide +kernel
theorem dX8_lengthOf_5 : decode cX8_lengthOf 5 = .ok (.iload 4, 2) := by decide +kernel
theorem dX8_lengthOf_7 : decode cX8_lengthOf 7 = .ok (.iconst 3, 1) := by decide +kernel
theorem dX8_lengthOf_8 : decode cX8_lengthOf 8 = .ok (.if_icmp .ge 53, 3) := by decide +kernel
theorem dX8_lengthOf_11 : decode cX8_lengthOf 11 = .ok (.aload_n 0, 1) := by decide +kernel
theorem dX8_lengthOf_12 : decode cX8_lengthOf 12 = .ok (.getfield 43, 3) := by decide +kernel
theorem dX8_lengthOf_15 : decode cX8_lengthOf 15 = .ok (.iconst 3, 1) := by decide +kernel
theorem dX8_lengthOf_16 : decode cX8_lengthOf 16 = .ok (.aload_n 0, 1) := by decide +kernel
theorem dX8_lengthOf_17 : decode cX8_lengthOf 17 = .ok (.iload_n 1, 1) := by decide +kernel
theorem dX8_lengthOf_18 : decode cX8_lengthOf 18 = .ok (.iconst 0, 1) := by decide +kernel
theorem dX8_lengthOf_19 : decode cX8_lengthOf 19 = .ok (.invokevirtual 131, 3) := by decide +kernel
theorem dX8_lengthOf_22 : decode cX8_lengthOf 22 = .ok (.imul, 1) := by decide +kernel
theorem dX8_lengthOf_23 : decode cX8_lengthOf 23 = .ok (.iload 4, 2) := by decide +kernel
theorem dX8_lengthOf_25 : decode cX8_lengthOf 25 = .ok (.iadd, 1) := by decide +kernel
theorem dX8_lengthOf_26 : decode cX8_lengthOf 26 = .ok (.iaload, 1) := by decide +kernel
theorem dX8_lengthOf_27 : decode cX8_lengthOf 27 = .ok (.aload_n 0, 1) := by decide +kernel
theorem dX8_lengthOf_28 : decode cX8_lengthOf 28 = .ok (.getfield 43, 3) := by decide +kernel
theorem dX8_lengthOf_31 : decode cX8_lengthOf 31 = .ok (.iconst 3, 1) := by decide +kernel
theorem dX8_lengthOf_32 : decode cX8_lengthOf 32 = .ok (.aload_n 0, 1) := by decide +kernel
theorem dX8_lengthOf_33 : decode cX8_lengthOf 33 = .ok (.iload_n 1, 1) := by decide +kernel
theorem dX8_lengthOf_34 : decode cX8_lengthOf 34 = .ok (.iconst 1, 1) := by decide +kernel
theorem dX8_lengthOf_35 : decode cX8_lengthOf 35 = .ok (.invokevirtual 131, 3) := by decide +kernel
theorem dX8_lengthOf_38 : decode cX8_lengthOf 38 = .ok (.imul, 1) := by decide +kernel
theorem dX8_lengthOf_39 : decode cX8_lengthOf 39 = .ok (.iload 4, 2) := by decide +kernel
theorem dX8_lengthOf_41 : decode cX8_lengthOf 41 = .ok (.iadd, 1) := by decide +kernel
theorem dX8_lengthOf_42 : decode cX8_lengthOf 42 = .ok (.iaload, 1) := by decide +kernel
theorem dX8_lengthOf_43 : decode cX8_lengthOf 43 = .ok (.isub, 1) := by decide +kernel
theorem dX8_lengthOf_44 : decode cX8_lengthOf 44 = .ok (.i2l, 1) := by decide +kernel
theorem dX8_lengthOf_45 : decode cX8_lengthOf 45 = .ok (.lstore 5, 2) := by decide +kernel
theorem dX8_lengthOf_47 : decode cX8_lengthOf 47 = .ok (.lload_n 2, 1) := by decide +kernel
theorem dX8_lengthOf_48 : decode cX8_lengthOf 48 = .ok (.lload 5, 2) := by decide +kernel
theorem dX8_lengthOf_50 : decode cX8_lengthOf 50 = .ok (.lload 5, 2) := by decide +kernel
theorem dX8_lengthOf_52 : decode cX8_lengthOf 52 = .ok (.lmul, 1) := by decide +kernel
theorem dX8_lengthOf_53 : decode cX8_lengthOf 53 = .ok (.ladd, 1) := by decide +kernel
theorem dX8_lengthOf_54 : decode cX8_lengthOf 54 = .ok (.lstore_n 2, 1) := by decide +kernel
theorem dX8_lengthOf_55 : decode cX8_lengthOf 55 = .ok (.iinc 4 1, 3) := by decide +kernel
theorem dX8_lengthOf_58 : decode cX8_lengthOf 58 = .ok (.goto (-53), 3) := by decide +kernel
theorem dX8_lengthOf_61 : decode cX8_lengthOf 61 = .ok (.lload_n 2, 1) := by decide +kernel
theorem dX8_lengthOf_62 : decode cX8_lengthOf 62 = .ok (.invokestatic 170, 3) := by decide +kernel
theorem dX8_lengthOf_65 : decode cX8_lengthOf 65 = .ok (.l2i, 1) := by decide +kernel
theorem dX8_lengthOf_66 : decode cX8_lengthOf 66 = .ok (.ireturn, 1) := by decide +kernel
theorem dX8_offOf_0 : decode cX8_offOf 0 = .ok (.aload_n 0, 1) := by decide +kernel
theorem dX8_offOf_1 : decode cX8_offOf 1 = .ok (.iload_n 1, 1) := by decide +kernel
theorem dX8_offOf_2 : decode cX8_offOf 2 = .ok (.invokevirtual 174, 3) := by decide +kernel
theorem dX8_offOf_5 : decode cX8_offOf 5 = .ok (.bipush 100, 2) := by decide +kernel
theorem dX8_offOf_7 : decode cX8_offOf 7 = .ok (.aload_n 0, 1) := by decide +kernel
theorem dX8_offOf_8 : decode cX8_offOf 8 = .ok (.iload_n 1, 1) := by decide +kernel
theorem dX8_offOf_9 : decode cX8_offOf 9 = .ok (.iconst 3, 1) := by decide +kernel
theorem dX8_offOf_10 : decode cX8_offOf 10 = .ok (.invokevirtual 131, 3) := by decide +kernel
theorem dX8_offOf_13 : decode cX8_offOf 13 = .ok (.imul, 1) := by decide +kernel
theorem dX8_offOf_14 : decode cX8_offOf 14 = .ok (.isub, 1) := by decide +kernel
theorem dX8_offOf_15 : decode cX8_offOf 15 = .ok (.istore_n 2, 1) := by decide +kernel
theorem dX8_offOf_16 : decode cX8_offOf 16 = .ok (.iload_n 2, 1) := by decide +kernel
theorem dX8_offOf_17 : decode cX8_offOf 17 = .ok (.ifCond .ge 8, 3) := by decide +kernel
theorem dX8_offOf_20 : decode cX8_offOf 20 = .ok (.iload_n 2, 1) := by decide +kernel
theorem dX8_offOf_21 : decode cX8_offOf 21 = .ok (.ineg, 1) := by decide +kernel
theorem dX8_offOf_22 : decode cX8_offOf 22 = .ok (.goto 4, 3) := by decide +kernel
theorem dX8_offOf_25 : decode cX8_offOf 25 = .ok (.iload_n 2, 1) := by decide +kernel
theorem dX8_offOf_26 : decode cX8_offOf 26 = .ok (.ireturn, 1) := by decide +kernel
theorem dX8_isAsked_0 : decode cX8_isAsked 0 = .ok (.aload_n 0, 1) := by decide +kernel
theorem dX8_isAsked_1 : decode cX8_isAsked 1 = .ok (.iload_n 1, 1) := by decide +kernel
theorem dX8_isAsked_2 : decode cX8_isAsked 2 = .ok (.invokevirtual 137, 3) := by decide +kernel
theorem dX8_isAsked_5 : decode cX8_isAsked 5 = .ok (.ifCond .eq 16, 3) := by decide +kernel
theorem dX8_isAsked_8 : decode cX8_isAsked 8 = .ok (.aload_n 0, 1) := by decide +kernel
theorem dX8_isAsked_9 : decode cX8_isAsked 9 = .ok (.iload_n 1, 1) := by decide +kernel
theorem dX8_isAsked_10 : decode cX8_isAsked 10 = .ok (.iconst 3, 1) := by decide +kernel
theorem dX8_isAsked_11 : decode cX8_isAsked 11 = .ok (.invokevirtual 131, 3) := by decide +kernel
theorem dX8_isAsked_14 : decode cX8_isAsked 14 = .ok (.ifCond .le 7, 3) := by decide +kernel
theorem dX8_isAsked_17 : decode cX8_isAsked 17 = .ok (.iconst 1, 1) := by decide +kernel
theorem dX8_isAsked_18 : decode cX8_isAsked 18 = .ok (.goto 4, 3) := by decide +kernel
theorem dX8_isAsked_21 : decode cX8_isAsked 21 = .ok (.iconst 0, 1) := by decide +kernel
theorem dX8_isAsked_22 : decode cX8_isAsked 22 = .ok (.ireturn, 1) := by decide +kernel
theorem dX8_missing_0 : decode cX8_missing 0 = .ok (.iconst 0, 1) := by decide +kernel
theorem dX8_missing_1 : decode cX8_missing 1 = .ok (.istore_n 1, 1) := by decide +kernel
theorem dX8_missing_2 : decode cX8_missing 2 = .ok (.iconst 0, 1) := by decide +kernel
theorem dX8_missing_3 : decode cX8_missing 3 = .ok (.istore_n 2, 1) := by decide +kernel
theorem dX8_missing_4 : decode cX8_missing 4 = .ok (.iload_n 2, 1) := by decide +kernel
theorem dX8_missing_5 : decode cX8_missing 5 = .ok (.aload_n 0, 1) := by decide +kernel
theorem dX8_missing_6 : decode cX8_missing 6 = .ok (.getfield 13, 3) := by decide +kernel
theorem dX8_missing_9 : decode cX8_missing 9 = .ok (.iconst 1, 1) := by decide +kernel
theorem dX8_missing_10 : decode cX8_missing 10 = .ok (.iaload, 1) := by decide +kernel
theorem dX8_missing_11 : decode cX8_missing 11 = .ok (.if_icmp .ge 29, 3) := by decide +kernel
theorem dX8_missing_14 : decode cX8_missing 14 = .ok (.iload_n 1, 1) := by decide +kernel
theorem dX8_missing_15 : decode cX8_missing 15 = .ok (.aload_n 0, 1) := by decide +kernel
theorem dX8_missing_16 : decode cX8_missing 16 = .ok (.iload_n 2, 1) := by decide +kernel
theorem dX8_missing_17 : decode cX8_missing 17 = .ok (.invokevirtual 178, 3) := by decide +kernel
theorem dX8_missing_20 : decode cX8_missing 20 = .ok (.ifCond .eq 11, 3) := by decide +kernel
theorem dX8_missing_23 : decode cX8_missing 23 = .ok (.aload_n 0, 1) := by decide +kernel
theorem dX8_missing_24 : decode cX8_missing 24 = .ok (.iload_n 2, 1) := by decide +kernel
theorem dX8_missing_25 : decode cX8_missing 25 = .ok (.invokevirtual 181, 3) := by decide +kernel
theorem dX8_missing_28 : decode cX8_missing 28 = .ok (.goto 4, 3) := by decide +kernel
theorem dX8_missing_31 : decode cX8_missing 31 = .ok (.iconst 0, 1) := by decide +kernel
theorem dX8_missing_32 : decode cX8_missing 32 = .ok (.iadd, 1) := by decide +kernel
theorem dX8_missing_33 : decode cX8_missing 33 = .ok (.istore_n 1, 1) := by decide +kernel
theorem dX8_missing_34 : decode cX8_missing 34 = .ok (.iinc 2 1, 3) := by decide +kernel
theorem dX8_missing_37 : decode cX8_missing 37 = .ok (.goto (-33), 3) := by decide +kernel
theorem dX8_missing_40 : decode cX8_missing 40 = .ok (.iload_n 1, 1) := by decide +kernel
theorem dX8_missing_41 : decode cX8_missing 41 = .ok (.ireturn, 1) := by decide +kernel
theorem dX8_isWithin_0 : decode cX8_isWithin 0 = .ok (.iconst 1, 1) := by decide +kernel
theorem dX8_isWithin_1 : decode cX8_isWithin 1 = .ok (.istore_n 2, 1) := by decide +kernel
theorem dX8_isWithin_2 : decode cX8_isWithin 2 = .ok (.iconst 0, 1) := by decide +kernel
theorem dX8_isWithin_3 : decode cX8_isWithin 3 = .ok (.istore_n 3, 1) := by decide +kernel
theorem dX8_isWithin_4 : decode cX8_isWithin 4 = .ok (.iload_n 3, 1) := by decide +kernel
theorem dX8_isWithin_5 : decode cX8_isWithin 5 = .ok (.iconst 3, 1) := by decide +kernel
theorem dX8_isWithin_6 : decode cX8_isWithin 6 = .ok (.if_icmp .ge 148, 3) := by decide +kernel
theorem dX8_isWithin_9 : decode cX8_isWithin 9 = .ok (.iconst 0, 1) := by decide +kernel
theorem dX8_isWithin_10 : decode cX8_isWithin 10 = .ok (.istore 4, 2) := by decide +kernel
theorem dX8_isWithin_12 : decode cX8_isWithin 12 = .ok (.iconst 0, 1) := by decide +kernel
theorem dX8_isWithin_13 : decode cX8_isWithin 13 = .ok (.istore 5, 2) := by decide +kernel
theorem dX8_isWithin_15 : decode cX8_isWithin 15 = .ok (.iconst 0, 1) := by decide +kernel
theorem dX8_isWithin_16 : decode cX8_isWithin 16 = .ok (.istore 6, 2) := by decide +kernel
theorem dX8_isWithin_18 : decode cX8_isWithin 18 = .ok (.iload 6, 2) := by decide +kernel
theorem dX8_isWithin_20 : decode cX8_isWithin 20 = .ok (.aload_n 0, 1) := by decide +kernel
theorem dX8_isWithin_21 : decode cX8_isWithin 21 = .ok (.getfield 13, 3) := by decide +kernel
theorem dX8_isWithin_24 : decode cX8_isWithin 24 = .ok (.iconst 1, 1) := by decide +kernel
theorem dX8_isWithin_25 : decode cX8_isWithin 25 = .ok (.iaload, 1) := by decide +kernel
theorem dX8_isWithin_26 : decode cX8_isWithin 26 = .ok (.if_icmp .ge 102, 3) := by decide +kernel
theorem dX8_isWithin_29 : decode cX8_isWithin 29 = .ok (.aload_n 0, 1) := by decide +kernel
theorem dX8_isWithin_30 : decode cX8_isWithin 30 = .ok (.iload 6, 2) := by decide +kernel
theorem dX8_isWithin_32 : decode cX8_isWithin 32 = .ok (.invokevirtual 137, 3) := by decide +kernel
theorem dX8_isWithin_35 : decode cX8_isWithin 35 = .ok (.ifCond .eq 87, 3) := by decide +kernel
theorem dX8_isWithin_38 : decode cX8_isWithin 38 = .ok (.aload_n 0, 1) := by decide +kernel
theorem dX8_isWithin_39 : decode cX8_isWithin 39 = .ok (.iload 6, 2) := by decide +kernel
theorem dX8_isWithin_41 : decode cX8_isWithin 41 = .ok (.iload_n 1, 1) := by decide +kernel
theorem dX8_isWithin_42 : decode cX8_isWithin 42 = .ok (.invokevirtual 184, 3) := by decide +kernel
theorem dX8_isWithin_45 : decode cX8_isWithin 45 = .ok (.ifCond .eq 77, 3) := by decide +kernel
theorem dX8_isWithin_48 : decode cX8_isWithin 48 = .ok (.aload_n 0, 1) := by decide +kernel
theorem dX8_isWithin_49 : decode cX8_isWithin 49 = .ok (.getfield 40, 3) := by decide +kernel
theorem dX8_isWithin_52 : decode cX8_isWithin 52 = .ok (.iconst 3, 1) := by decide +kernel
theorem dX8_isWithin_53 : decode cX8_isWithin 53 = .ok (.aload_n 0, 1) := by decide +kernel
theorem dX8_isWithin_54 : decode cX8_isWithin 54 = .ok (.iload 6, 2) := by decide +kernel
theorem dX8_isWithin_56 : decode cX8_isWithin 56 = .ok (.iload_n 1, 1) := by decide +kernel
theorem dX8_isWithin_57 : decode cX8_isWithin 57 = .ok (.invokevirtual 147, 3) := by decide +kernel
theorem dX8_isWithin_60 : decode cX8_isWithin 60 = .ok (.imul, 1) := by decide +kernel
theorem dX8_isWithin_61 : decode cX8_isWithin 61 = .ok (.iload_n 3, 1) := by decide +kernel
theorem dX8_isWithin_62 : decode cX8_isWithin 62 = .ok (.iadd, 1) := by decide +kernel
theorem dX8_isWithin_63 : decode cX8_isWithin 63 = .ok (.laload, 1) := by decide +kernel
theorem dX8_isWithin_64 : decode cX8_isWithin 64 = .ok (.lstore 7, 2) := by decide +kernel
theorem dX8_isWithin_66 : decode cX8_isWithin 66 = .ok (.iload 4, 2) := by decide +kernel
theorem dX8_isWithin_68 : decode cX8_isWithin 68 = .ok (.ifCond .ne 19, 3) := by decide +kernel
theorem dX8_isWithin_71 : decode cX8_isWithin 71 = .ok (.lload 7, 2) := by decide +kernel
theorem dX8_isWithin_73 : decode cX8_isWithin 73 = .ok (.aload_n 0, 1) := by decide +kernel
theorem dX8_isWithin_74 : decode cX8_isWithin 74 = .ok (.getfield 40, 3) := by decide +kernel
theorem dX8_isWithin_77 : decode cX8_isWithin 77 = .ok (.iconst 3, 1) := by decide +kernel
theorem dX8_isWithin_78 : decode cX8_isWithin 78 = .ok (.iload_n 1, 1) := by decide +kernel
theorem dX8_isWithin_79 : decode cX8_isWithin 79 = .ok (.imul, 1) := by decide +kernel
theorem dX8_isWithin_80 : decode cX8_isWithin 80 = .ok (.iload_n 3, 1) := by decide +kernel
theorem dX8_isWithin_81 : decode cX8_isWithin 81 = .ok (.iadd, 1) := by decide +kernel
theorem dX8_isWithin_82 : decode cX8_isWithin 82 = .ok (.laload, 1) := by decide +kernel
theorem dX8_isWithin_83 : decode cX8_isWithin 83 = .ok (.lcmp, 1) := by decide +kernel
theorem dX8_isWithin_84 : decode cX8_isWithin 84 = .ok (.ifCond .gt 7, 3) := by decide +kernel
theorem dX8_isWithin_87 : decode cX8_isWithin 87 = .ok (.iconst 1, 1) := by decide +kernel
theorem dX8_isWithin_88 : decode cX8_isWithin 88 = .ok (.goto 4, 3) := by decide +kernel
theorem dX8_isWithin_91 : decode cX8_isWithin 91 = .ok (.iconst 0, 1) := by decide +kernel
theorem dX8_isWithin_92 : decode cX8_isWithin 92 = .ok (.istore 4, 2) := by decide +kernel
theorem dX8_isWithin_94 : decode cX8_isWithin 94 = .ok (.iload 5, 2) := by decide +kernel
theorem dX8_isWithin_96 : decode cX8_isWithin 96 = .ok (.ifCond .ne 19, 3) := by decide +kernel
theorem dX8_isWithin_99 : decode cX8_isWithin 99 = .ok (.lload 7, 2) := by decide +kernel
theorem dX8_isWithin_101 : decode cX8_isWithin 101 = .ok (.aload_n 0, 1) := by decide +kernel
theorem dX8_isWithin_102 : decode cX8_isWithin 102 = .ok (.getfield 40, 3) := by decide +kernel
theorem dX8_isWithin_105 : decode cX8_isWithin 105 = .ok (.iconst 3, 1) := by decide +kernel
theorem dX8_isWithin_106 : decode cX8_isWithin 106 = .ok (.iload_n 1, 1) := by decide +kernel
theorem dX8_isWithin_107 : decode cX8_isWithin 107 = .ok (.imul, 1) := by decide +kernel
theorem dX8_isWithin_108 : decode cX8_isWithin 108 = .ok (.iload_n 3, 1) := by decide +kernel
theorem dX8_isWithin_109 : decode cX8_isWithin 109 = .ok (.iadd, 1) := by decide +kernel
theorem dX8_isWithin_110 : decode cX8_isWithin 110 = .ok (.laload, 1) := by decide +kernel
theorem dX8_isWithin_111 : decode cX8_isWithin 111 = .ok (.lcmp, 1) := by decide +kernel
theorem dX8_isWithin_112 : decode cX8_isWithin 112 = .ok (.ifCond .lt 7, 3) := by decide +kernel
theorem dX8_isWithin_115 : decode cX8_isWithin 115 = .ok (.iconst 1, 1) := by decide +kernel
theorem dX8_isWithin_116 : decode cX8_isWithin 116 = .ok (.goto 4, 3) := by decide +kernel
theorem dX8_isWithin_119 : decode cX8_isWithin 119 = .ok (.iconst 0, 1) := by decide +kernel
theorem dX8_isWithin_120 : decode cX8_isWithin 120 = .ok (.istore 5, 2) := by decide +kernel
theorem dX8_isWithin_122 : decode cX8_isWithin 122 = .ok (.iinc 6 1, 3) := by decide +kernel
theorem dX8_isWithin_125 : decode cX8_isWithin 125 = .ok (.goto (-107), 3) := by decide +kernel
theorem dX8_isWithin_128 : decode cX8_isWithin 128 = .ok (.iload_n 2, 1) := by decide +kernel
theorem dX8_isWithin_129 : decode cX8_isWithin 129 = .ok (.ifCond .eq 17, 3) := by decide +kernel
theorem dX8_isWithin_132 : decode cX8_isWithin 132 = .ok (.iload 4, 2) := by decide +kernel
theorem dX8_isWithin_134 : decode cX8_isWithin 134 = .ok (.ifCond .eq 12, 3) := by decide +kernel
theorem dX8_isWithin_137 : decode cX8_isWithin 137 = .ok (.iload 5, 2) := by decide +kernel
theorem dX8_isWithin_139 : decode cX8_isWithin 139 = .ok (.ifCond .eq 7, 3) := by decide +kernel
theorem dX8_isWithin_142 : decode cX8_isWithin 142 = .ok (.iconst 1, 1) := by decide +kernel
theorem dX8_isWithin_143 : decode cX8_isWithin 143 = .ok (.goto 4, 3) := by decide +kernel
theorem dX8_isWithin_146 : decode cX8_isWithin 146 = .ok (.iconst 0, 1) := by decide +kernel
theorem dX8_isWithin_147 : decode cX8_isWithin 147 = .ok (.istore_n 2, 1) := by decide +kernel
theorem dX8_isWithin_148 : decode cX8_isWithin 148 = .ok (.iinc 3 1, 3) := by decide +kernel
theorem dX8_isWithin_151 : decode cX8_isWithin 151 = .ok (.goto (-147), 3) := by decide +kernel
theorem dX8_isWithin_154 : decode cX8_isWithin 154 = .ok (.iload_n 2, 1) := by decide +kernel
theorem dX8_isWithin_155 : decode cX8_isWithin 155 = .ok (.ireturn, 1) := by decide +kernel
theorem dX8_notes_0 : decode cX8_notes 0 = .ok (.aload_n 0, 1) := by decide +kernel
theorem dX8_notes_1 : decode cX8_notes 1 = .ok (.getfield 128, 3) := by decide +kernel
theorem dX8_notes_4 : decode cX8_notes 4 = .ok (.bipush 6, 2) := by decide +kernel
theorem dX8_notes_6 : decode cX8_notes 6 = .ok (.if_icmp .ne 43, 3) := by decide +kernel
theorem dX8_notes_9 : decode cX8_notes 9 = .ok (.iconst 0, 1) := by decide +kernel
theorem dX8_notes_10 : decode cX8_notes 10 = .ok (.istore_n 1, 1) := by decide +kernel
theorem dX8_notes_11 : decode cX8_notes 11 = .ok (.iload_n 1, 1) := by decide +kernel
theorem dX8_notes_12 : decode cX8_notes 12 = .ok (.sipush 620, 3) := by decide +kernel
theorem dX8_notes_15 : decode cX8_notes 15 = .ok (.if_icmp .ge 24, 3) := by decide +kernel
theorem dX8_notes_18 : decode cX8_notes 18 = .ok (.aload_n 0, 1) := by decide +kernel
theorem dX8_notes_19 : decode cX8_notes 19 = .ok (.getfield 20, 3) := by decide +kernel
theorem dX8_notes_22 : decode cX8_notes 22 = .ok (.iload_n 1, 1) := by decide +kernel
theorem dX8_notes_23 : decode cX8_notes 23 = .ok (.aload_n 0, 1) := by decide +kernel
theorem dX8_notes_24 : decode cX8_notes 24 = .ok (.getfield 20, 3) := by decide +kernel
theorem dX8_notes_27 : decode cX8_notes 27 = .ok (.iload_n 1, 1) := by decide +kernel
theorem dX8_notes_28 : decode cX8_notes 28 = .ok (.bipush 124, 2) := by decide +kernel
theorem dX8_notes_30 : decode cX8_notes 30 = .ok (.iadd, 1) := by decide +kernel
theorem dX8_notes_31 : decode cX8_notes 31 = .ok (.iaload, 1) := by decide +kernel
theorem dX8_notes_32 : decode cX8_notes 32 = .ok (.iastore, 1) := by decide +kernel
theorem dX8_notes_33 : decode cX8_notes 33 = .ok (.iinc 1 1, 3) := by decide +kernel
theorem dX8_notes_36 : decode cX8_notes 36 = .ok (.goto (-25), 3) := by decide +kernel
theorem dX8_notes_39 : decode cX8_notes 39 = .ok (.aload_n 0, 1) := by decide +kernel
theorem dX8_notes_40 : decode cX8_notes 40 = .ok (.dup, 1) := by decide +kernel
theorem dX8_notes_41 : decode cX8_notes 41 = .ok (.getfield 128, 3) := by decide +kernel
theorem dX8_notes_44 : decode cX8_notes 44 = .ok (.iconst 1, 1) := by decide +kernel
theorem dX8_notes_45 : decode cX8_notes 45 = .ok (.isub, 1) := by decide +kernel
theorem dX8_notes_46 : decode cX8_notes 46 = .ok (.putfield 128, 3) := by decide +kernel
theorem dX8_notes_49 : decode cX8_notes 49 = .ok (.iconst 0, 1) := by decide +kernel
theorem dX8_notes_50 : decode cX8_notes 50 = .ok (.istore_n 1, 1) := by decide +kernel
theorem dX8_notes_51 : decode cX8_notes 51 = .ok (.iload_n 1, 1) := by decide +kernel
theorem dX8_notes_52 : decode cX8_notes 52 = .ok (.bipush 124, 2) := by decide +kernel
theorem dX8_notes_54 : decode cX8_notes 54 = .ok (.if_icmp .ge 29, 3) := by decide +kernel
theorem dX8_notes_57 : decode cX8_notes 57 = .ok (.aload_n 0, 1) := by decide +kernel
theorem dX8_notes_58 : decode cX8_notes 58 = .ok (.getfield 20, 3) := by decide +kernel
theorem dX8_notes_61 : decode cX8_notes 61 = .ok (.bipush 124, 2) := by decide +kernel
theorem dX8_notes_63 : decode cX8_notes 63 = .ok (.aload_n 0, 1) := by decide +kernel
theorem dX8_notes_64 : decode cX8_notes 64 = .ok (.getfield 128, 3) := by decide +kernel
theorem dX8_notes_67 : decode cX8_notes 67 = .ok (.imul, 1) := by decide +kernel
theorem dX8_notes_68 : decode cX8_notes 68 = .ok (.iload_n 1, 1) := by decide +kernel
theorem dX8_notes_69 : decode cX8_notes 69 = .ok (.iadd, 1) := by decide +kernel
theorem dX8_notes_70 : decode cX8_notes 70 = .ok (.aload_n 0, 1) := by decide +kernel
theorem dX8_notes_71 : decode cX8_notes 71 = .ok (.getfield 13, 3) := by decide +kernel
theorem dX8_notes_74 : decode cX8_notes 74 = .ok (.iload_n 1, 1) := by decide +kernel
theorem dX8_notes_75 : decode cX8_notes 75 = .ok (.iaload, 1) := by decide +kernel
theorem dX8_notes_76 : decode cX8_notes 76 = .ok (.iastore, 1) := by decide +kernel
theorem dX8_notes_77 : decode cX8_notes 77 = .ok (.iinc 1 1, 3) := by decide +kernel
theorem dX8_notes_80 : decode cX8_notes 80 = .ok (.goto (-29), 3) := by decide +kernel
theorem dX8_notes_83 : decode cX8_notes 83 = .ok (.aload_n 0, 1) := by decide +kernel
theorem dX8_notes_84 : decode cX8_notes 84 = .ok (.dup, 1) := by decide +kernel
theorem dX8_notes_85 : decode cX8_notes 85 = .ok (.getfield 128, 3) := by decide +kernel
theorem dX8_notes_88 : decode cX8_notes 88 = .ok (.iconst 1, 1) := by decide +kernel
theorem dX8_notes_89 : decode cX8_notes 89 = .ok (.iadd, 1) := by decide +kernel
theorem dX8_notes_90 : decode cX8_notes 90 = .ok (.putfield 128, 3) := by decide +kernel
theorem dX8_notes_93 : decode cX8_notes 93 = .ok (.return_, 1) := by decide +kernel
theorem dX8_becomes_0 : decode cX8_becomes 0 = .ok (.aload_n 0, 1) := by decide +kernel
theorem dX8_becomes_1 : decode cX8_becomes 1 = .ok (.getfield 13, 3) := by decide +kernel
theorem dX8_becomes_4 : decode cX8_becomes 4 = .ok (.iload_n 1, 1) := by decide +kernel
theorem dX8_becomes_5 : decode cX8_becomes 5 = .ok (.iaload, 1) := by decide +kernel
theorem dX8_becomes_6 : decode cX8_becomes 6 = .ok (.iload_n 2, 1) := by decide +kernel
theorem dX8_becomes_7 : decode cX8_becomes 7 = .ok (.if_icmp .ne 6, 3) := by decide +kernel
theorem dX8_becomes_10 : decode cX8_becomes 10 = .ok (.bipush (-2), 2) := by decide +kernel
theorem dX8_becomes_12 : decode cX8_becomes 12 = .ok (.ireturn, 1) := by decide +kernel
theorem dX8_becomes_13 : decode cX8_becomes 13 = .ok (.aload_n 0, 1) := by decide +kernel
theorem dX8_becomes_14 : decode cX8_becomes 14 = .ok (.invokevirtual 187, 3) := by decide +kernel
theorem dX8_becomes_17 : decode cX8_becomes 17 = .ok (.aload_n 0, 1) := by decide +kernel
theorem dX8_becomes_18 : decode cX8_becomes 18 = .ok (.getfield 13, 3) := by decide +kernel
theorem dX8_becomes_21 : decode cX8_becomes 21 = .ok (.iload_n 1, 1) := by decide +kernel
theorem dX8_becomes_22 : decode cX8_becomes 22 = .ok (.iaload, 1) := by decide +kernel
theorem dX8_becomes_23 : decode cX8_becomes 23 = .ok (.istore_n 3, 1) := by decide +kernel
theorem dX8_becomes_24 : decode cX8_becomes 24 = .ok (.aload_n 0, 1) := by decide +kernel
theorem dX8_becomes_25 : decode cX8_becomes 25 = .ok (.getfield 13, 3) := by decide +kernel
theorem dX8_becomes_28 : decode cX8_becomes 28 = .ok (.iload_n 1, 1) := by decide +kernel
theorem dX8_becomes_29 : decode cX8_becomes 29 = .ok (.iload_n 2, 1) := by decide +kernel
theorem dX8_becomes_30 : decode cX8_becomes 30 = .ok (.iastore, 1) := by decide +kernel
theorem dX8_becomes_31 : decode cX8_becomes 31 = .ok (.iload_n 3, 1) := by decide +kernel
theorem dX8_becomes_32 : decode cX8_becomes 32 = .ok (.ireturn, 1) := by decide +kernel
theorem dX8_density_0 : decode cX8_density 0 = .ok (.aload_n 0, 1) := by decide +kernel
theorem dX8_density_1 : decode cX8_density 1 = .ok (.iconst 0, 1) := by decide +kernel
theorem dX8_density_2 : decode cX8_density 2 = .ok (.putfield 69, 3) := by decide +kernel
theorem dX8_density_5 : decode cX8_density 5 = .ok (.aload_n 0, 1) := by decide +kernel
theorem dX8_density_6 : decode cX8_density 6 = .ok (.iload_n 1, 1) := by decide +kernel
theorem dX8_density_7 : decode cX8_density 7 = .ok (.invokevirtual 190, 3) := by decide +kernel
theorem dX8_density_10 : decode cX8_density 10 = .ok (.ifCond .eq 28, 3) := by decide +kernel
theorem dX8_density_13 : decode cX8_density 13 = .ok (.iload_n 2, 1) := by decide +kernel
theorem dX8_density_14 : decode cX8_density 14 = .ok (.iconst 1, 1) := by decide +kernel
theorem dX8_density_15 : decode cX8_density 15 = .ok (.iconst 5, 1) := by decide +kernel
theorem dX8_density_16 : decode cX8_density 16 = .ok (.invokestatic 73, 3) := by decide +kernel
theorem dX8_density_19 : decode cX8_density 19 = .ok (.ifCond .eq 19, 3) := by decide +kernel
theorem dX8_density_22 : decode cX8_density 22 = .ok (.aload_n 0, 1) := by decide +kernel
theorem dX8_density_23 : decode cX8_density 23 = .ok (.bipush 54, 2) := by decide +kernel
theorem dX8_density_25 : decode cX8_density 25 = .ok (.iconst 5, 1) := by decide +kernel
theorem dX8_density_26 : decode cX8_density 26 = .ok (.iload_n 1, 1) := by decide +kernel
theorem dX8_density_27 : decode cX8_density 27 = .ok (.imul, 1) := by decide +kernel
theorem dX8_density_28 : decode cX8_density 28 = .ok (.iadd, 1) := by decide +kernel
theorem dX8_density_29 : decode cX8_density 29 = .ok (.iconst 2, 1) := by decide +kernel
theorem dX8_density_30 : decode cX8_density 30 = .ok (.iadd, 1) := by decide +kernel
theorem dX8_density_31 : decode cX8_density 31 = .ok (.iload_n 2, 1) := by decide +kernel
theorem dX8_density_32 : decode cX8_density 32 = .ok (.invokevirtual 193, 3) := by decide +kernel
theorem dX8_density_35 : decode cX8_density 35 = .ok (.goto 4, 3) := by decide +kernel
theorem dX8_density_38 : decode cX8_density 38 = .ok (.iconst (-1), 1) := by decide +kernel
theorem dX8_density_39 : decode cX8_density 39 = .ok (.ireturn, 1) := by decide +kernel
theorem dX8_want_0 : decode cX8_want 0 = .ok (.aload_n 0, 1) := by decide +kernel
theorem dX8_want_1 : decode cX8_want 1 = .ok (.iconst 0, 1) := by decide +kernel
theorem dX8_want_2 : decode cX8_want 2 = .ok (.putfield 69, 3) := by decide +kernel
theorem dX8_want_5 : decode cX8_want 5 = .ok (.aload_n 0, 1) := by decide +kernel
theorem dX8_want_6 : decode cX8_want 6 = .ok (.iload_n 1, 1) := by decide +kernel
theorem dX8_want_7 : decode cX8_want 7 = .ok (.invokevirtual 190, 3) := by decide +kernel
theorem dX8_want_10 : decode cX8_want 10 = .ok (.ifCond .eq 29, 3) := by decide +kernel
theorem dX8_want_13 : decode cX8_want 13 = .ok (.iload_n 2, 1) := by decide +kernel
theorem dX8_want_14 : decode cX8_want 14 = .ok (.iconst 0, 1) := by decide +kernel
theorem dX8_want_15 : decode cX8_want 15 = .ok (.bipush 99, 2) := by decide +kernel
theorem dX8_want_17 : decode cX8_want 17 = .ok (.invokestatic 73, 3) := by decide +kernel
theorem dX8_want_20 : decode cX8_want 20 = .ok (.ifCond .eq 19, 3) := by decide +kernel
theorem dX8_want_23 : decode cX8_want 23 = .ok (.aload_n 0, 1) := by decide +kernel
theorem dX8_want_24 : decode cX8_want 24 = .ok (.bipush 54, 2) := by decide +kernel
theorem dX8_want_26 : decode cX8_want 26 = .ok (.iconst 5, 1) := by decide +kernel
theorem dX8_want_27 : decode cX8_want 27 = .ok (.iload_n 1, 1) := by decide +kernel
theorem dX8_want_28 : decode cX8_want 28 = .ok (.imul, 1) := by decide +kernel
theorem dX8_want_29 : decode cX8_want 29 = .ok (.iadd, 1) := by decide +kernel
theorem dX8_want_30 : decode cX8_want 30 = .ok (.iconst 3, 1) := by decide +kernel
theorem dX8_want_31 : decode cX8_want 31 = .ok (.iadd, 1) := by decide +kernel
theorem dX8_want_32 : decode cX8_want 32 = .ok (.iload_n 2, 1) := by decide +kernel
theorem dX8_want_33 : decode cX8_want 33 = .ok (.invokevirtual 193, 3) := by decide +kernel
theorem dX8_want_36 : decode cX8_want 36 = .ok (.goto 4, 3) := by decide +kernel
theorem dX8_want_39 : decode cX8_want 39 = .ok (.iconst (-1), 1) := by decide +kernel
theorem dX8_want_40 : decode cX8_want 40 = .ok (.ireturn, 1) := by decide +kernel
theorem dX8_load_0 : decode cX8_load 0 = .ok (.aload_n 0, 1) := by decide +kernel
theorem dX8_load_1 : decode cX8_load 1 = .ok (.iconst 0, 1) := by decide +kernel
theorem dX8_load_2 : decode cX8_load 2 = .ok (.putfield 69, 3) := by decide +kernel
theorem dX8_load_5 : decode cX8_load 5 = .ok (.aload_n 0, 1) := by decide +kernel
theorem dX8_load_6 : decode cX8_load 6 = .ok (.iload_n 1, 1) := by decide +kernel
theorem dX8_load_7 : decode cX8_load 7 = .ok (.invokevirtual 196, 3) := by decide +kernel
theorem dX8_load_10 : decode cX8_load 10 = .ok (.ifCond .eq 22, 3) := by decide +kernel
theorem dX8_load_13 : decode cX8_load 13 = .ok (.aload_n 0, 1) := by decide +kernel
theorem dX8_load_14 : decode cX8_load 14 = .ok (.iload_n 1, 1) := by decide +kernel
theorem dX8_load_15 : decode cX8_load 15 = .ok (.invokevirtual 134, 3) := by decide +kernel
theorem dX8_load_18 : decode cX8_load 18 = .ok (.ifCond .eq 14, 3) := by decide +kernel
theorem dX8_load_21 : decode cX8_load 21 = .ok (.iload_n 2, 1) := by decide +kernel
theorem dX8_load_22 : decode cX8_load 22 = .ok (.bipush (-9), 2) := by decide +kernel
theorem dX8_load_24 : decode cX8_load 24 = .ok (.bipush 9, 2) := by decide +kernel
theorem dX8_load_26 : decode cX8_load 26 = .ok (.invokestatic 73, 3) := by decide +kernel
theorem dX8_load_29 : decode cX8_load 29 = .ok (.ifCond .ne 5, 3) := by decide +kernel
theorem dX8_load_32 : decode cX8_load 32 = .ok (.iconst (-1), 1) := by decide +kernel
theorem dX8_load_33 : decode cX8_load 33 = .ok (.ireturn, 1) := by decide +kernel
theorem dX8_load_34 : decode cX8_load 34 = .ok (.aload_n 0, 1) := by decide +kernel
theorem dX8_load_35 : decode cX8_load 35 = .ok (.getfield 13, 3) := by decide +kernel
theorem dX8_load_38 : decode cX8_load 38 = .ok (.bipush 44, 2) := by decide +kernel
theorem dX8_load_40 : decode cX8_load 40 = .ok (.iload_n 1, 1) := by decide +kernel
theorem dX8_load_41 : decode cX8_load 41 = .ok (.iadd, 1) := by decide +kernel
theorem dX8_load_42 : decode cX8_load 42 = .ok (.iaload, 1) := by decide +kernel
theorem dX8_load_43 : decode cX8_load 43 = .ok (.iload_n 2, 1) := by decide +kernel
theorem dX8_load_44 : decode cX8_load 44 = .ok (.if_icmp .ne 6, 3) := by decide +kernel
theorem dX8_load_47 : decode cX8_load 47 = .ok (.bipush (-2), 2) := by decide +kernel
theorem dX8_load_49 : decode cX8_load 49 = .ok (.ireturn, 1) := by decide +kernel
theorem dX8_load_50 : decode cX8_load 50 = .ok (.aload_n 0, 1) := by decide +kernel
theorem dX8_load_51 : decode cX8_load 51 = .ok (.bipush 44, 2) := by decide +kernel
theorem dX8_load_53 : decode cX8_load 53 = .ok (.iload_n 1, 1) := by decide +kernel
theorem dX8_load_54 : decode cX8_load 54 = .ok (.iadd, 1) := by decide +kernel
theorem dX8_load_55 : decode cX8_load 55 = .ok (.iload_n 2, 1) := by decide +kernel
theorem dX8_load_56 : decode cX8_load 56 = .ok (.invokevirtual 193, 3) := by decide +kernel
theorem dX8_load_59 : decode cX8_load 59 = .ok (.bipush 9, 2) := by decide +kernel
theorem dX8_load_61 : decode cX8_load 61 = .ok (.iadd, 1) := by decide +kernel
theorem dX8_load_62 : decode cX8_load 62 = .ok (.ireturn, 1) := by decide +kernel
theorem dX8_move_0 : decode cX8_move 0 = .ok (.aload_n 0, 1) := by decide +kernel
theorem dX8_move_1 : decode cX8_move 1 = .ok (.iconst 0, 1) := by decide +kernel
theorem dX8_move_2 : decode cX8_move 2 = .ok (.putfield 69, 3) := by decide +kernel
theorem dX8_move_5 : decode cX8_move 5 = .ok (.aload_n 0, 1) := by decide +kernel
theorem dX8_move_6 : decode cX8_move 6 = .ok (.iload_n 1, 1) := by decide +kernel
theorem dX8_move_7 : decode cX8_move 7 = .ok (.invokevirtual 196, 3) := by decide +kernel
theorem dX8_move_10 : decode cX8_move 10 = .ok (.ifCond .eq 30, 3) := by decide +kernel
theorem dX8_move_13 : decode cX8_move 13 = .ok (.aload_n 0, 1) := by decide +kernel
theorem dX8_move_14 : decode cX8_move 14 = .ok (.iload_n 1, 1) := by decide +kernel
theorem dX8_move_15 : decode cX8_move 15 = .ok (.invokevirtual 134, 3) := by decide +kernel
theorem dX8_move_18 : decode cX8_move 18 = .ok (.ifCond .ne 22, 3) := by decide +kernel
theorem dX8_move_21 : decode cX8_move 21 = .ok (.iload_n 2, 1) := by decide +kernel
theorem dX8_move_22 : decode cX8_move 22 = .ok (.iconst 0, 1) := by decide +kernel
theorem dX8_move_23 : decode cX8_move 23 = .ok (.iconst 2, 1) := by decide +kernel
theorem dX8_move_24 : decode cX8_move 24 = .ok (.invokestatic 73, 3) := by decide +kernel
theorem dX8_move_27 : decode cX8_move 27 = .ok (.ifCond .eq 13, 3) := by decide +kernel
theorem dX8_move_30 : decode cX8_move 30 = .ok (.iload_n 3, 1) := by decide +kernel
theorem dX8_move_31 : decode cX8_move 31 = .ok (.iconst 0, 1) := by decide +kernel
theorem dX8_move_32 : decode cX8_move 32 = .ok (.bipush 60, 2) := by decide +kernel
theorem dX8_move_34 : decode cX8_move 34 = .ok (.invokestatic 73, 3) := by decide +kernel
theorem dX8_move_37 : decode cX8_move 37 = .ok (.ifCond .ne 5, 3) := by decide +kernel
theorem dX8_move_40 : decode cX8_move 40 = .ok (.iconst (-1), 1) := by decide +kernel
theorem dX8_move_41 : decode cX8_move 41 = .ok (.ireturn, 1) := by decide +kernel
theorem dX8_move_42 : decode cX8_move 42 = .ok (.aload_n 0, 1) := by decide +kernel
theorem dX8_move_43 : decode cX8_move 43 = .ok (.bipush 14, 2) := by decide +kernel
theorem dX8_move_45 : decode cX8_move 45 = .ok (.iconst 3, 1) := by decide +kernel
theorem dX8_move_46 : decode cX8_move 46 = .ok (.iload_n 1, 1) := by decide +kernel
theorem dX8_move_47 : decode cX8_move 47 = .ok (.imul, 1) := by decide +kernel
theorem dX8_move_48 : decode cX8_move 48 = .ok (.iadd, 1) := by decide +kernel
theorem dX8_move_49 : decode cX8_move 49 = .ok (.iload_n 2, 1) := by decide +kernel
theorem dX8_move_50 : decode cX8_move 50 = .ok (.iadd, 1) := by decide +kernel
theorem dX8_move_51 : decode cX8_move 51 = .ok (.iload_n 3, 1) := by decide +kernel
theorem dX8_move_52 : decode cX8_move 52 = .ok (.invokevirtual 193, 3) := by decide +kernel
theorem dX8_move_55 : decode cX8_move 55 = .ok (.ireturn, 1) := by decide +kernel
theorem dX8_hanging_0 : decode cX8_hanging 0 = .ok (.iconst 0, 1) := by decide +kernel
theorem dX8_hanging_1 : decode cX8_hanging 1 = .ok (.istore_n 1, 1) := by decide +kernel
theorem dX8_hanging_2 : decode cX8_hanging 2 = .ok (.iconst 0, 1) := by decide +kernel
theorem dX8_hanging_3 : decode cX8_hanging 3 = .ok (.istore_n 2, 1) := by decide +kernel
theorem dX8_hanging_4 : decode cX8_hanging 4 = .ok (.iload_n 2, 1) := by decide +kernel
theorem dX8_hanging_5 : decode cX8_hanging 5 = .ok (.aload_n 0, 1) := by decide +kernel
theorem dX8_hanging_6 : decode cX8_hanging 6 = .ok (.getfield 13, 3) := by decide +kernel
theorem dX8_hanging_9 : decode cX8_hanging 9 = .ok (.iconst 1, 1) := by decide +kernel
theorem dX8_hanging_10 : decode cX8_hanging 10 = .ok (.iaload, 1) := by decide +kernel
theorem dX8_hanging_11 : decode cX8_hanging 11 = .ok (.if_icmp .ge 25, 3) := by decide +kernel
theorem dX8_hanging_14 : decode cX8_hanging 14 = .ok (.iload_n 1, 1) := by decide +kernel
theorem dX8_hanging_15 : decode cX8_hanging 15 = .ok (.aload_n 0, 1) := by decide +kernel
theorem dX8_hanging_16 : decode cX8_hanging 16 = .ok (.iload_n 2, 1) := by decide +kernel
theorem dX8_hanging_17 : decode cX8_hanging 17 = .ok (.invokevirtual 137, 3) := by decide +kernel
theorem dX8_hanging_20 : decode cX8_hanging 20 = .ok (.ifCond .eq 7, 3) := by decide +kernel
theorem dX8_hanging_23 : decode cX8_hanging 23 = .ok (.iconst 1, 1) := by decide +kernel
theorem dX8_hanging_24 : decode cX8_hanging 24 = .ok (.goto 4, 3) := by decide +kernel
theorem dX8_hanging_27 : decode cX8_hanging 27 = .ok (.iconst 0, 1) := by decide +kernel
theorem dX8_hanging_28 : decode cX8_hanging 28 = .ok (.iadd, 1) := by decide +kernel
theorem dX8_hanging_29 : decode cX8_hanging 29 = .ok (.istore_n 1, 1) := by decide +kernel
theorem dX8_hanging_30 : decode cX8_hanging 30 = .ok (.iinc 2 1, 3) := by decide +kernel
theorem dX8_hanging_33 : decode cX8_hanging 33 = .ok (.goto (-29), 3) := by decide +kernel
theorem dX8_hanging_36 : decode cX8_hanging 36 = .ok (.iload_n 1, 1) := by decide +kernel
theorem dX8_hanging_37 : decode cX8_hanging 37 = .ok (.ireturn, 1) := by decide +kernel
theorem dX8_down__0 : decode cX8_down_ 0 = .ok (.aload_n 0, 1) := by decide +kernel
theorem dX8_down__1 : decode cX8_down_ 1 = .ok (.iconst 0, 1) := by decide +kernel
theorem dX8_down__2 : decode cX8_down_ 2 = .ok (.putfield 69, 3) := by decide +kernel
theorem dX8_down__5 : decode cX8_down_ 5 = .ok (.aload_n 0, 1) := by decide +kernel
theorem dX8_down__6 : decode cX8_down_ 6 = .ok (.iload_n 1, 1) := by decide +kernel
theorem dX8_down__7 : decode cX8_down_ 7 = .ok (.invokevirtual 190, 3) := by decide +kernel
theorem dX8_down__10 : decode cX8_down_ 10 = .ok (.ifCond .eq 12, 3) := by decide +kernel
theorem dX8_down__13 : decode cX8_down_ 13 = .ok (.iload_n 2, 1) := by decide +kernel
theorem dX8_down__14 : decode cX8_down_ 14 = .ok (.iconst 0, 1) := by decide +kernel
theorem dX8_down__15 : decode cX8_down_ 15 = .ok (.iconst 1, 1) := by decide +kernel
theorem dX8_down__16 : decode cX8_down_ 16 = .ok (.invokestatic 73, 3) := by decide +kernel
theorem dX8_down__19 : decode cX8_down_ 19 = .ok (.ifCond .ne 5, 3) := by decide +kernel
theorem dX8_down__22 : decode cX8_down_ 22 = .ok (.iconst (-1), 1) := by decide +kernel
theorem dX8_down__23 : decode cX8_down_ 23 = .ok (.ireturn, 1) := by decide +kernel
theorem dX8_down__24 : decode cX8_down_ 24 = .ok (.aload_n 0, 1) := by decide +kernel
theorem dX8_down__25 : decode cX8_down_ 25 = .ok (.bipush 54, 2) := by decide +kernel
theorem dX8_down__27 : decode cX8_down_ 27 = .ok (.iconst 5, 1) := by decide +kernel
theorem dX8_down__28 : decode cX8_down_ 28 = .ok (.iload_n 1, 1) := by decide +kernel
theorem dX8_down__29 : decode cX8_down_ 29 = .ok (.imul, 1) := by decide +kernel
theorem dX8_down__30 : decode cX8_down_ 30 = .ok (.iadd, 1) := by decide +kernel
theorem dX8_down__31 : decode cX8_down_ 31 = .ok (.iconst 4, 1) := by decide +kernel
theorem dX8_down__32 : decode cX8_down_ 32 = .ok (.iadd, 1) := by decide +kernel
theorem dX8_down__33 : decode cX8_down_ 33 = .ok (.iload_n 2, 1) := by decide +kernel
theorem dX8_down__34 : decode cX8_down_ 34 = .ok (.invokevirtual 193, 3) := by decide +kernel
theorem dX8_down__37 : decode cX8_down_ 37 = .ok (.bipush (-2), 2) := by decide +kernel
theorem dX8_down__39 : decode cX8_down_ 39 = .ok (.if_icmp .ne 8, 3) := by decide +kernel
theorem dX8_down__42 : decode cX8_down_ 42 = .ok (.bipush (-2), 2) := by decide +kernel
theorem dX8_down__44 : decode cX8_down_ 44 = .ok (.goto 7, 3) := by decide +kernel
theorem dX8_down__47 : decode cX8_down_ 47 = .ok (.aload_n 0, 1) := by decide +kernel
theorem dX8_down__48 : decode cX8_down_ 48 = .ok (.invokevirtual 199, 3) := by decide +kernel
theorem dX8_down__51 : decode cX8_down_ 51 = .ok (.ireturn, 1) := by decide +kernel
theorem dX8_goesRound_0 : decode cX8_goesRound 0 = .ok (.aload_n 0, 1) := by decide +kernel
theorem dX8_goesRound_1 : decode cX8_goesRound 1 = .ok (.invokevirtual 202, 3) := by decide +kernel
theorem dX8_goesRound_4 : decode cX8_goesRound 4 = .ok (.pop, 1) := by decide +kernel
theorem dX8_goesRound_5 : decode cX8_goesRound 5 = .ok (.iconst 0, 1) := by decide +kernel
theorem dX8_goesRound_6 : decode cX8_goesRound 6 = .ok (.istore_n 1, 1) := by decide +kernel
theorem dX8_goesRound_7 : decode cX8_goesRound 7 = .ok (.iconst 0, 1) := by decide +kernel
theorem dX8_goesRound_8 : decode cX8_goesRound 8 = .ok (.istore_n 2, 1) := by decide +kernel
theorem dX8_goesRound_9 : decode cX8_goesRound 9 = .ok (.iload_n 2, 1) := by decide +kernel
theorem dX8_goesRound_10 : decode cX8_goesRound 10 = .ok (.aload_n 0, 1) := by decide +kernel
theorem dX8_goesRound_11 : decode cX8_goesRound 11 = .ok (.getfield 13, 3) := by decide +kernel
theorem dX8_goesRound_14 : decode cX8_goesRound 14 = .ok (.iconst 1, 1) := by decide +kernel
theorem dX8_goesRound_15 : decode cX8_goesRound 15 = .ok (.iaload, 1) := by decide +kernel
theorem dX8_goesRound_16 : decode cX8_goesRound 16 = .ok (.if_icmp .ge 111, 3) := by decide +kernel
theorem dX8_goesRound_19 : decode cX8_goesRound 19 = .ok (.aload_n 0, 1) := by decide +kernel
theorem dX8_goesRound_20 : decode cX8_goesRound 20 = .ok (.iload_n 2, 1) := by decide +kernel
theorem dX8_goesRound_21 : decode cX8_goesRound 21 = .ok (.invokevirtual 178, 3) := by decide +kernel
theorem dX8_goesRound_24 : decode cX8_goesRound 24 = .ok (.ifCond .eq 97, 3) := by decide +kernel
theorem dX8_goesRound_27 : decode cX8_goesRound 27 = .ok (.aload_n 0, 1) := by decide +kernel
theorem dX8_goesRound_28 : decode cX8_goesRound 28 = .ok (.iload_n 2, 1) := by decide +kernel
theorem dX8_goesRound_29 : decode cX8_goesRound 29 = .ok (.invokevirtual 174, 3) := by decide +kernel
theorem dX8_goesRound_32 : decode cX8_goesRound 32 = .ok (.bipush 100, 2) := by decide +kernel
theorem dX8_goesRound_34 : decode cX8_goesRound 34 = .ok (.aload_n 0, 1) := by decide +kernel
theorem dX8_goesRound_35 : decode cX8_goesRound 35 = .ok (.iload_n 2, 1) := by decide +kernel
theorem dX8_goesRound_36 : decode cX8_goesRound 36 = .ok (.iconst 3, 1) := by decide +kernel
theorem dX8_goesRound_37 : decode cX8_goesRound 37 = .ok (.invokevirtual 131, 3) := by decide +kernel
theorem dX8_goesRound_40 : decode cX8_goesRound 40 = .ok (.imul, 1) := by decide +kernel
theorem dX8_goesRound_41 : decode cX8_goesRound 41 = .ok (.isub, 1) := by decide +kernel
theorem dX8_goesRound_42 : decode cX8_goesRound 42 = .ok (.istore_n 3, 1) := by decide +kernel
theorem dX8_goesRound_43 : decode cX8_goesRound 43 = .ok (.aload_n 0, 1) := by decide +kernel
theorem dX8_goesRound_44 : decode cX8_goesRound 44 = .ok (.iload_n 2, 1) := by decide +kernel
theorem dX8_goesRound_45 : decode cX8_goesRound 45 = .ok (.iconst 2, 1) := by decide +kernel
theorem dX8_goesRound_46 : decode cX8_goesRound 46 = .ok (.invokevirtual 131, 3) := by decide +kernel
theorem dX8_goesRound_49 : decode cX8_goesRound 49 = .ok (.istore 4, 2) := by decide +kernel
theorem dX8_goesRound_51 : decode cX8_goesRound 51 = .ok (.iload_n 3, 1) := by decide +kernel
theorem dX8_goesRound_52 : decode cX8_goesRound 52 = .ok (.ifCond .le 16, 3) := by decide +kernel
theorem dX8_goesRound_55 : decode cX8_goesRound 55 = .ok (.iload 4, 2) := by decide +kernel
theorem dX8_goesRound_57 : decode cX8_goesRound 57 = .ok (.iconst 5, 1) := by decide +kernel
theorem dX8_goesRound_58 : decode cX8_goesRound 58 = .ok (.if_icmp .ge 10, 3) := by decide +kernel
theorem dX8_goesRound_61 : decode cX8_goesRound 61 = .ok (.iload 4, 2) := by decide +kernel
theorem dX8_goesRound_63 : decode cX8_goesRound 63 = .ok (.iconst 1, 1) := by decide +kernel
theorem dX8_goesRound_64 : decode cX8_goesRound 64 = .ok (.iadd, 1) := by decide +kernel
theorem dX8_goesRound_65 : decode cX8_goesRound 65 = .ok (.goto 22, 3) := by decide +kernel
theorem dX8_goesRound_68 : decode cX8_goesRound 68 = .ok (.iload_n 3, 1) := by decide +kernel
theorem dX8_goesRound_69 : decode cX8_goesRound 69 = .ok (.ifCond .ge 16, 3) := by decide +kernel
theorem dX8_goesRound_72 : decode cX8_goesRound 72 = .ok (.iload 4, 2) := by decide +kernel
theorem dX8_goesRound_74 : decode cX8_goesRound 74 = .ok (.iconst 1, 1) := by decide +kernel
theorem dX8_goesRound_75 : decode cX8_goesRound 75 = .ok (.if_icmp .le 10, 3) := by decide +kernel
theorem dX8_goesRound_78 : decode cX8_goesRound 78 = .ok (.iload 4, 2) := by decide +kernel
theorem dX8_goesRound_80 : decode cX8_goesRound 80 = .ok (.iconst 1, 1) := by decide +kernel
theorem dX8_goesRound_81 : decode cX8_goesRound 81 = .ok (.isub, 1) := by decide +kernel
theorem dX8_goesRound_82 : decode cX8_goesRound 82 = .ok (.goto 5, 3) := by decide +kernel
theorem dX8_goesRound_85 : decode cX8_goesRound 85 = .ok (.iload 4, 2) := by decide +kernel
theorem dX8_goesRound_87 : decode cX8_goesRound 87 = .ok (.istore 5, 2) := by decide +kernel
theorem dX8_goesRound_89 : decode cX8_goesRound 89 = .ok (.iload_n 1, 1) := by decide +kernel
theorem dX8_goesRound_90 : decode cX8_goesRound 90 = .ok (.ifCond .ne 10, 3) := by decide +kernel
theorem dX8_goesRound_93 : decode cX8_goesRound 93 = .ok (.iload 5, 2) := by decide +kernel
theorem dX8_goesRound_95 : decode cX8_goesRound 95 = .ok (.iload 4, 2) := by decide +kernel
theorem dX8_goesRound_97 : decode cX8_goesRound 97 = .ok (.if_icmp .eq 7, 3) := by decide +kernel
theorem dX8_goesRound_100 : decode cX8_goesRound 100 = .ok (.iconst 1, 1) := by decide +kernel
theorem dX8_goesRound_101 : decode cX8_goesRound 101 = .ok (.goto 4, 3) := by decide +kernel
theorem dX8_goesRound_104 : decode cX8_goesRound 104 = .ok (.iconst 0, 1) := by decide +kernel
theorem dX8_goesRound_105 : decode cX8_goesRound 105 = .ok (.istore_n 1, 1) := by decide +kernel
theorem dX8_goesRound_106 : decode cX8_goesRound 106 = .ok (.aload_n 0, 1) := by decide +kernel
theorem dX8_goesRound_107 : decode cX8_goesRound 107 = .ok (.getfield 13, 3) := by decide +kernel
theorem dX8_goesRound_110 : decode cX8_goesRound 110 = .ok (.bipush 54, 2) := by decide +kernel
theorem dX8_goesRound_112 : decode cX8_goesRound 112 = .ok (.iconst 5, 1) := by decide +kernel
theorem dX8_goesRound_113 : decode cX8_goesRound 113 = .ok (.iload_n 2, 1) := by decide +kernel
theorem dX8_goesRound_114 : decode cX8_goesRound 114 = .ok (.imul, 1) := by decide +kernel
theorem dX8_goesRound_115 : decode cX8_goesRound 115 = .ok (.iadd, 1) := by decide +kernel
theorem dX8_goesRound_116 : decode cX8_goesRound 116 = .ok (.iconst 2, 1) := by decide +kernel
theorem dX8_goesRound_117 : decode cX8_goesRound 117 = .ok (.iadd, 1) := by decide +kernel
theorem dX8_goesRound_118 : decode cX8_goesRound 118 = .ok (.iload 5, 2) := by decide +kernel
theorem dX8_goesRound_120 : decode cX8_goesRound 120 = .ok (.iastore, 1) := by decide +kernel
theorem dX8_goesRound_121 : decode cX8_goesRound 121 = .ok (.iinc 2 1, 3) := by decide +kernel
theorem dX8_goesRound_124 : decode cX8_goesRound 124 = .ok (.goto (-115), 3) := by decide +kernel
theorem dX8_goesRound_127 : decode cX8_goesRound 127 = .ok (.iload_n 1, 1) := by decide +kernel
theorem dX8_goesRound_128 : decode cX8_goesRound 128 = .ok (.ireturn, 1) := by decide +kernel
theorem dX8_round_0 : decode cX8_round 0 = .ok (.aload_n 0, 1) := by decide +kernel
theorem dX8_round_1 : decode cX8_round 1 = .ok (.iconst 0, 1) := by decide +kernel
theorem dX8_round_2 : decode cX8_round 2 = .ok (.putfield 69, 3) := by decide +kernel
theorem dX8_round_5 : decode cX8_round 5 = .ok (.iload_n 1, 1) := by decide +kernel
theorem dX8_round_6 : decode cX8_round 6 = .ok (.iconst 1, 1) := by decide +kernel
theorem dX8_round_7 : decode cX8_round 7 = .ok (.bipush 20, 2) := by decide +kernel
theorem dX8_round_9 : decode cX8_round 9 = .ok (.invokestatic 73, 3) := by decide +kernel
theorem dX8_round_12 : decode cX8_round 12 = .ok (.ifCond .ne 5, 3) := by decide +kernel
theorem dX8_round_15 : decode cX8_round 15 = .ok (.iconst (-1), 1) := by decide +kernel
theorem dX8_round_16 : decode cX8_round 16 = .ok (.ireturn, 1) := by decide +kernel
theorem dX8_round_17 : decode cX8_round 17 = .ok (.aload_n 0, 1) := by decide +kernel
theorem dX8_round_18 : decode cX8_round 18 = .ok (.bipush (-4), 2) := by decide +kernel
theorem dX8_round_20 : decode cX8_round 20 = .ok (.invokevirtual 150, 3) := by decide +kernel
theorem dX8_round_23 : decode cX8_round 23 = .ok (.ifCond .ne 6, 3) := by decide +kernel
theorem dX8_round_26 : decode cX8_round 26 = .ok (.bipush (-2), 2) := by decide +kernel
theorem dX8_round_28 : decode cX8_round 28 = .ok (.ireturn, 1) := by decide +kernel
theorem dX8_round_29 : decode cX8_round 29 = .ok (.aload_n 0, 1) := by decide +kernel
theorem dX8_round_30 : decode cX8_round 30 = .ok (.invokevirtual 187, 3) := by decide +kernel
theorem dX8_round_33 : decode cX8_round 33 = .ok (.iconst 0, 1) := by decide +kernel
theorem dX8_round_34 : decode cX8_round 34 = .ok (.istore_n 2, 1) := by decide +kernel
theorem dX8_round_35 : decode cX8_round 35 = .ok (.iconst 0, 1) := by decide +kernel
theorem dX8_round_36 : decode cX8_round 36 = .ok (.istore_n 3, 1) := by decide +kernel
theorem dX8_round_37 : decode cX8_round 37 = .ok (.iload_n 3, 1) := by decide +kernel
theorem dX8_round_38 : decode cX8_round 38 = .ok (.iload_n 1, 1) := by decide +kernel
theorem dX8_round_39 : decode cX8_round 39 = .ok (.if_icmp .ge 24, 3) := by decide +kernel
theorem dX8_round_42 : decode cX8_round 42 = .ok (.iload_n 2, 1) := by decide +kernel
theorem dX8_round_43 : decode cX8_round 43 = .ok (.aload_n 0, 1) := by decide +kernel
theorem dX8_round_44 : decode cX8_round 44 = .ok (.invokevirtual 206, 3) := by decide +kernel
theorem dX8_round_47 : decode cX8_round 47 = .ok (.ifCond .eq 7, 3) := by decide +kernel
theorem dX8_round_50 : decode cX8_round 50 = .ok (.iconst 1, 1) := by decide +kernel
theorem dX8_round_51 : decode cX8_round 51 = .ok (.goto 4, 3) := by decide +kernel
theorem dX8_round_54 : decode cX8_round 54 = .ok (.iconst 0, 1) := by decide +kernel
theorem dX8_round_55 : decode cX8_round 55 = .ok (.iadd, 1) := by decide +kernel
theorem dX8_round_56 : decode cX8_round 56 = .ok (.istore_n 2, 1) := by decide +kernel
theorem dX8_round_57 : decode cX8_round 57 = .ok (.iinc 3 1, 3) := by decide +kernel
theorem dX8_round_60 : decode cX8_round 60 = .ok (.goto (-23), 3) := by decide +kernel
theorem dX8_round_63 : decode cX8_round 63 = .ok (.iload_n 2, 1) := by decide +kernel
theorem dX8_round_64 : decode cX8_round 64 = .ok (.ireturn, 1) := by decide +kernel
theorem dX8_undo_0 : decode cX8_undo 0 = .ok (.aload_n 0, 1) := by decide +kernel
theorem dX8_undo_1 : decode cX8_undo 1 = .ok (.iconst 0, 1) := by decide +kernel
theorem dX8_undo_2 : decode cX8_undo 2 = .ok (.putfield 69, 3) := by decide +kernel
theorem dX8_undo_5 : decode cX8_undo 5 = .ok (.aload_n 0, 1) := by decide +kernel
theorem dX8_undo_6 : decode cX8_undo 6 = .ok (.getfield 128, 3) := by decide +kernel
theorem dX8_undo_9 : decode cX8_undo 9 = .ok (.ifCond .ne 6, 3) := by decide +kernel
theorem dX8_undo_12 : decode cX8_undo 12 = .ok (.bipush (-2), 2) := by decide +kernel
theorem dX8_undo_14 : decode cX8_undo 14 = .ok (.ireturn, 1) := by decide +kernel
theorem dX8_undo_15 : decode cX8_undo 15 = .ok (.aload_n 0, 1) := by decide +kernel
theorem dX8_undo_16 : decode cX8_undo 16 = .ok (.dup, 1) := by decide +kernel
theorem dX8_undo_17 : decode cX8_undo 17 = .ok (.getfield 128, 3) := by decide +kernel
theorem dX8_undo_20 : decode cX8_undo 20 = .ok (.iconst 1, 1) := by decide +kernel
theorem dX8_undo_21 : decode cX8_undo 21 = .ok (.isub, 1) := by decide +kernel
theorem dX8_undo_22 : decode cX8_undo 22 = .ok (.putfield 128, 3) := by decide +kernel
theorem dX8_undo_25 : decode cX8_undo 25 = .ok (.iconst 0, 1) := by decide +kernel
theorem dX8_undo_26 : decode cX8_undo 26 = .ok (.istore_n 1, 1) := by decide +kernel
theorem dX8_undo_27 : decode cX8_undo 27 = .ok (.iload_n 1, 1) := by decide +kernel
theorem dX8_undo_28 : decode cX8_undo 28 = .ok (.bipush 124, 2) := by decide +kernel
theorem dX8_undo_30 : decode cX8_undo 30 = .ok (.if_icmp .ge 29, 3) := by decide +kernel
theorem dX8_undo_33 : decode cX8_undo 33 = .ok (.aload_n 0, 1) := by decide +kernel
theorem dX8_undo_34 : decode cX8_undo 34 = .ok (.getfield 13, 3) := by decide +kernel
theorem dX8_undo_37 : decode cX8_undo 37 = .ok (.iload_n 1, 1) := by decide +kernel
theorem dX8_undo_38 : decode cX8_undo 38 = .ok (.aload_n 0, 1) := by decide +kernel
theorem dX8_undo_39 : decode cX8_undo 39 = .ok (.getfield 20, 3) := by decide +kernel
theorem dX8_undo_42 : decode cX8_undo 42 = .ok (.bipush 124, 2) := by decide +kernel
theorem dX8_undo_44 : decode cX8_undo 44 = .ok (.aload_n 0, 1) := by decide +kernel
theorem dX8_undo_45 : decode cX8_undo 45 = .ok (.getfield 128, 3) := by decide +kernel
theorem dX8_undo_48 : decode cX8_undo 48 = .ok (.imul, 1) := by decide +kernel
theorem dX8_undo_49 : decode cX8_undo 49 = .ok (.iload_n 1, 1) := by decide +kernel
theorem dX8_undo_50 : decode cX8_undo 50 = .ok (.iadd, 1) := by decide +kernel
theorem dX8_undo_51 : decode cX8_undo 51 = .ok (.iaload, 1) := by decide +kernel
theorem dX8_undo_52 : decode cX8_undo 52 = .ok (.iastore, 1) := by decide +kernel
theorem dX8_undo_53 : decode cX8_undo 53 = .ok (.iinc 1 1, 3) := by decide +kernel
theorem dX8_undo_56 : decode cX8_undo 56 = .ok (.goto (-29), 3) := by decide +kernel
theorem dX8_undo_59 : decode cX8_undo 59 = .ok (.aload_n 0, 1) := by decide +kernel
theorem dX8_undo_60 : decode cX8_undo 60 = .ok (.getfield 128, 3) := by decide +kernel
theorem dX8_undo_63 : decode cX8_undo 63 = .ok (.ireturn, 1) := by decide +kernel
theorem dX8_bitsOf_0 : decode cX8_bitsOf 0 = .ok (.iconst 0, 1) := by decide +kernel
theorem dX8_bitsOf_1 : decode cX8_bitsOf 1 = .ok (.istore_n 2, 1) := by decide +kernel
theorem dX8_bitsOf_2 : decode cX8_bitsOf 2 = .ok (.iconst 0, 1) := by decide +kernel
theorem dX8_bitsOf_3 : decode cX8_bitsOf 3 = .ok (.istore_n 3, 1) := by decide +kernel
theorem dX8_bitsOf_4 : decode cX8_bitsOf 4 = .ok (.iload_n 3, 1) := by decide +kernel
theorem dX8_bitsOf_5 : decode cX8_bitsOf 5 = .ok (.aload_n 0, 1) := by decide +kernel
theorem dX8_bitsOf_6 : decode cX8_bitsOf 6 = .ok (.getfield 13, 3) := by decide +kernel
theorem dX8_bitsOf_9 : decode cX8_bitsOf 9 = .ok (.iconst 1, 1) := by decide +kernel
theorem dX8_bitsOf_10 : decode cX8_bitsOf 10 = .ok (.iaload, 1) := by decide +kernel
theorem dX8_bitsOf_11 : decode cX8_bitsOf 11 = .ok (.if_icmp .ge 36, 3) := by decide +kernel
theorem dX8_bitsOf_14 : decode cX8_bitsOf 14 = .ok (.iload_n 2, 1) := by decide +kernel
theorem dX8_bitsOf_15 : decode cX8_bitsOf 15 = .ok (.aload_n 0, 1) := by decide +kernel
theorem dX8_bitsOf_16 : decode cX8_bitsOf 16 = .ok (.iload_n 3, 1) := by decide +kernel
theorem dX8_bitsOf_17 : decode cX8_bitsOf 17 = .ok (.invokevirtual 137, 3) := by decide +kernel
theorem dX8_bitsOf_20 : decode cX8_bitsOf 20 = .ok (.ifCond .eq 18, 3) := by decide +kernel
theorem dX8_bitsOf_23 : decode cX8_bitsOf 23 = .ok (.aload_n 0, 1) := by decide +kernel
theorem dX8_bitsOf_24 : decode cX8_bitsOf 24 = .ok (.iload_n 3, 1) := by decide +kernel
theorem dX8_bitsOf_25 : decode cX8_bitsOf 25 = .ok (.iload_n 1, 1) := by decide +kernel
theorem dX8_bitsOf_26 : decode cX8_bitsOf 26 = .ok (.invokevirtual 184, 3) := by decide +kernel
theorem dX8_bitsOf_29 : decode cX8_bitsOf 29 = .ok (.ifCond .eq 9, 3) := by decide +kernel
theorem dX8_bitsOf_32 : decode cX8_bitsOf 32 = .ok (.iconst 1, 1) := by decide +kernel
theorem dX8_bitsOf_33 : decode cX8_bitsOf 33 = .ok (.iload_n 3, 1) := by decide +kernel
theorem dX8_bitsOf_34 : decode cX8_bitsOf 34 = .ok (.ishl, 1) := by decide +kernel
theorem dX8_bitsOf_35 : decode cX8_bitsOf 35 = .ok (.goto 4, 3) := by decide +kernel
theorem dX8_bitsOf_38 : decode cX8_bitsOf 38 = .ok (.iconst 0, 1) := by decide +kernel
theorem dX8_bitsOf_39 : decode cX8_bitsOf 39 = .ok (.ior, 1) := by decide +kernel
theorem dX8_bitsOf_40 : decode cX8_bitsOf 40 = .ok (.istore_n 2, 1) := by decide +kernel
theorem dX8_bitsOf_41 : decode cX8_bitsOf 41 = .ok (.iinc 3 1, 3) := by decide +kernel
theorem dX8_bitsOf_44 : decode cX8_bitsOf 44 = .ok (.goto (-40), 3) := by decide +kernel
theorem dX8_bitsOf_47 : decode cX8_bitsOf 47 = .ok (.iload_n 2, 1) := by decide +kernel
theorem dX8_bitsOf_48 : decode cX8_bitsOf 48 = .ok (.ireturn, 1) := by decide +kernel
theorem dX8_joint_0 : decode cX8_joint 0 = .ok (.aload_n 0, 1) := by decide +kernel
theorem dX8_joint_1 : decode cX8_joint 1 = .ok (.iconst 0, 1) := by decide +kernel
theorem dX8_joint_2 : decode cX8_joint 2 = .ok (.putfield 69, 3) := by decide +kernel
theorem dX8_joint_5 : decode cX8_joint 5 = .ok (.aload_n 0, 1) := by decide +kernel
theorem dX8_joint_6 : decode cX8_joint 6 = .ok (.iload_n 1, 1) := by decide +kernel
theorem dX8_joint_7 : decode cX8_joint 7 = .ok (.invokevirtual 196, 3) := by decide +kernel
theorem dX8_joint_10 : decode cX8_joint 10 = .ok (.ifCond .eq 13, 3) := by decide +kernel
theorem dX8_joint_13 : decode cX8_joint 13 = .ok (.iload_n 2, 1) := by decide +kernel
theorem dX8_joint_14 : decode cX8_joint 14 = .ok (.iconst 0, 1) := by decide +kernel
theorem dX8_joint_15 : decode cX8_joint 15 = .ok (.bipush 7, 2) := by decide +kernel
theorem dX8_joint_17 : decode cX8_joint 17 = .ok (.invokestatic 73, 3) := by decide +kernel
theorem dX8_joint_20 : decode cX8_joint 20 = .ok (.ifCond .ne 5, 3) := by decide +kernel
theorem dX8_joint_23 : decode cX8_joint 23 = .ok (.iconst (-1), 1) := by decide +kernel
theorem dX8_joint_24 : decode cX8_joint 24 = .ok (.ireturn, 1) := by decide +kernel
theorem dX8_joint_25 : decode cX8_joint 25 = .ok (.aload_n 0, 1) := by decide +kernel
theorem dX8_joint_26 : decode cX8_joint 26 = .ok (.invokevirtual 202, 3) := by decide +kernel
theorem dX8_joint_29 : decode cX8_joint 29 = .ok (.istore_n 3, 1) := by decide +kernel
theorem dX8_joint_30 : decode cX8_joint 30 = .ok (.iload_n 2, 1) := by decide +kernel
theorem dX8_joint_31 : decode cX8_joint 31 = .ok (.tableswitch 119 0 7 #[45, 119, 119, 119, 54, 60, 73, 88], 45) := by decide +kernel
theorem dX8_joint_76 : decode cX8_joint 76 = .ok (.aload_n 0, 1) := by decide +kernel
theorem dX8_joint_77 : decode cX8_joint 77 = .ok (.getfield 13, 3) := by decide +kernel
theorem dX8_joint_80 : decode cX8_joint 80 = .ok (.iconst 4, 1) := by decide +kernel
theorem dX8_joint_81 : decode cX8_joint 81 = .ok (.iload_n 1, 1) := by decide +kernel
theorem dX8_joint_82 : decode cX8_joint 82 = .ok (.iadd, 1) := by decide +kernel
theorem dX8_joint_83 : decode cX8_joint 83 = .ok (.iaload, 1) := by decide +kernel
theorem dX8_joint_84 : decode cX8_joint 84 = .ok (.ireturn, 1) := by decide +kernel
theorem dX8_joint_85 : decode cX8_joint 85 = .ok (.aload_n 0, 1) := by decide +kernel
theorem dX8_joint_86 : decode cX8_joint 86 = .ok (.iload_n 1, 1) := by decide +kernel
theorem dX8_joint_87 : decode cX8_joint 87 = .ok (.invokevirtual 209, 3) := by decide +kernel
theorem dX8_joint_90 : decode cX8_joint 90 = .ok (.ireturn, 1) := by decide +kernel
theorem dX8_joint_91 : decode cX8_joint 91 = .ok (.aload_n 0, 1) := by decide +kernel
theorem dX8_joint_92 : decode cX8_joint 92 = .ok (.getfield 13, 3) := by decide +kernel
theorem dX8_joint_95 : decode cX8_joint 95 = .ok (.bipush 44, 2) := by decide +kernel
theorem dX8_joint_97 : decode cX8_joint 97 = .ok (.iload_n 1, 1) := by decide +kernel
theorem dX8_joint_98 : decode cX8_joint 98 = .ok (.iadd, 1) := by decide +kernel
theorem dX8_joint_99 : decode cX8_joint 99 = .ok (.iaload, 1) := by decide +kernel
theorem dX8_joint_100 : decode cX8_joint 100 = .ok (.bipush 9, 2) := by decide +kernel
theorem dX8_joint_102 : decode cX8_joint 102 = .ok (.iadd, 1) := by decide +kernel
theorem dX8_joint_103 : decode cX8_joint 103 = .ok (.ireturn, 1) := by decide +kernel
theorem dX8_joint_104 : decode cX8_joint 104 = .ok (.aload_n 0, 1) := by decide +kernel
theorem dX8_joint_105 : decode cX8_joint 105 = .ok (.getfield 29, 3) := by decide +kernel
theorem dX8_joint_108 : decode cX8_joint 108 = .ok (.iload_n 1, 1) := by decide +kernel
theorem dX8_joint_109 : decode cX8_joint 109 = .ok (.baload, 1) := by decide +kernel
theorem dX8_joint_110 : decode cX8_joint 110 = .ok (.ifCond .eq 7, 3) := by decide +kernel
theorem dX8_joint_113 : decode cX8_joint 113 = .ok (.iconst 1, 1) := by decide +kernel
theorem dX8_joint_114 : decode cX8_joint 114 = .ok (.goto 4, 3) := by decide +kernel
theorem dX8_joint_117 : decode cX8_joint 117 = .ok (.iconst 0, 1) := by decide +kernel
theorem dX8_joint_118 : decode cX8_joint 118 = .ok (.ireturn, 1) := by decide +kernel
theorem dX8_joint_119 : decode cX8_joint 119 = .ok (.iload_n 3, 1) := by decide +kernel
theorem dX8_joint_120 : decode cX8_joint 120 = .ok (.ifCond .ne 8, 3) := by decide +kernel
theorem dX8_joint_123 : decode cX8_joint 123 = .ok (.bipush (-2), 2) := by decide +kernel
theorem dX8_joint_125 : decode cX8_joint 125 = .ok (.goto 24, 3) := by decide +kernel
theorem dX8_joint_128 : decode cX8_joint 128 = .ok (.aload_n 0, 1) := by decide +kernel
theorem dX8_joint_129 : decode cX8_joint 129 = .ok (.iload_n 1, 1) := by decide +kernel
theorem dX8_joint_130 : decode cX8_joint 130 = .ok (.invokevirtual 134, 3) := by decide +kernel
theorem dX8_joint_133 : decode cX8_joint 133 = .ok (.ifCond .eq 11, 3) := by decide +kernel
theorem dX8_joint_136 : decode cX8_joint 136 = .ok (.aload_n 0, 1) := by decide +kernel
theorem dX8_joint_137 : decode cX8_joint 137 = .ok (.iload_n 1, 1) := by decide +kernel
theorem dX8_joint_138 : decode cX8_joint 138 = .ok (.invokevirtual 212, 3) := by decide +kernel
theorem dX8_joint_141 : decode cX8_joint 141 = .ok (.ifCond .eq 7, 3) := by decide +kernel
theorem dX8_joint_144 : decode cX8_joint 144 = .ok (.iconst 1, 1) := by decide +kernel
theorem dX8_joint_145 : decode cX8_joint 145 = .ok (.goto 4, 3) := by decide +kernel
theorem dX8_joint_148 : decode cX8_joint 148 = .ok (.iconst 0, 1) := by decide +kernel
theorem dX8_joint_149 : decode cX8_joint 149 = .ok (.ireturn, 1) := by decide +kernel
theorem dX8_joint_150 : decode cX8_joint 150 = .ok (.iload_n 3, 1) := by decide +kernel
theorem dX8_joint_151 : decode cX8_joint 151 = .ok (.ifCond .eq 21, 3) := by decide +kernel
theorem dX8_joint_154 : decode cX8_joint 154 = .ok (.aload_n 0, 1) := by decide +kernel
theorem dX8_joint_155 : decode cX8_joint 155 = .ok (.getfield 43, 3) := by decide +kernel
theorem dX8_joint_158 : decode cX8_joint 158 = .ok (.iconst 3, 1) := by decide +kernel
theorem dX8_joint_159 : decode cX8_joint 159 = .ok (.iload_n 1, 1) := by decide +kernel
theorem dX8_joint_160 : decode cX8_joint 160 = .ok (.imul, 1) := by decide +kernel
theorem dX8_joint_161 : decode cX8_joint 161 = .ok (.iload_n 2, 1) := by decide +kernel
theorem dX8_joint_162 : decode cX8_joint 162 = .ok (.iadd, 1) := by decide +kernel
theorem dX8_joint_163 : decode cX8_joint 163 = .ok (.iconst 1, 1) := by decide +kernel
theorem dX8_joint_164 : decode cX8_joint 164 = .ok (.isub, 1) := by decide +kernel
theorem dX8_joint_165 : decode cX8_joint 165 = .ok (.iaload, 1) := by decide +kernel
theorem dX8_joint_166 : decode cX8_joint 166 = .ok (.ldc 215, 2) := by decide +kernel
theorem dX8_joint_168 : decode cX8_joint 168 = .ok (.iadd, 1) := by decide +kernel
theorem dX8_joint_169 : decode cX8_joint 169 = .ok (.goto 5, 3) := by decide +kernel
theorem dX8_joint_172 : decode cX8_joint 172 = .ok (.bipush (-2), 2) := by decide +kernel
theorem dX8_joint_174 : decode cX8_joint 174 = .ok (.ireturn, 1) := by decide +kernel
theorem dX8_common_0 : decode cX8_common 0 = .ok (.lload_n 0, 1) := by decide +kernel
theorem dX8_common_1 : decode cX8_common 1 = .ok (.lconst 0, 1) := by decide +kernel
theorem dX8_common_2 : decode cX8_common 2 = .ok (.lcmp, 1) := by decide +kernel
theorem dX8_common_3 : decode cX8_common 3 = .ok (.ifCond .ge 8, 3) := by decide +kernel
theorem dX8_common_6 : decode cX8_common 6 = .ok (.lload_n 0, 1) := by decide +kernel
theorem dX8_common_7 : decode cX8_common 7 = .ok (.lneg, 1) := by decide +kernel
theorem dX8_common_8 : decode cX8_common 8 = .ok (.goto 4, 3) := by decide +kernel
theorem dX8_common_11 : decode cX8_common 11 = .ok (.lload_n 0, 1) := by decide +kernel
theorem dX8_common_12 : decode cX8_common 12 = .ok (.lstore 4, 2) := by decide +kernel
theorem dX8_common_14 : decode cX8_common 14 = .ok (.lload_n 2, 1) := by decide +kernel
theorem dX8_common_15 : decode cX8_common 15 = .ok (.lstore 6, 2) := by decide +kernel
theorem dX8_common_17 : decode cX8_common 17 = .ok (.lload 6, 2) := by decide +kernel
theorem dX8_common_19 : decode cX8_common 19 = .ok (.lconst 0, 1) := by decide +kernel
theorem dX8_common_20 : decode cX8_common 20 = .ok (.lcmp, 1) := by decide +kernel
theorem dX8_common_21 : decode cX8_common 21 = .ok (.ifCond .eq 21, 3) := by decide +kernel
theorem dX8_common_24 : decode cX8_common 24 = .ok (.lload 4, 2) := by decide +kernel
theorem dX8_common_26 : decode cX8_common 26 = .ok (.lload 6, 2) := by decide +kernel
theorem dX8_common_28 : decode cX8_common 28 = .ok (.lrem, 1) := by decide +kernel
theorem dX8_common_29 : decode cX8_common 29 = .ok (.lstore 8, 2) := by decide +kernel
theorem dX8_common_31 : decode cX8_common 31 = .ok (.lload 6, 2) := by decide +kernel
theorem dX8_common_33 : decode cX8_common 33 = .ok (.lstore 4, 2) := by decide +kernel
theorem dX8_common_35 : decode cX8_common 35 = .ok (.lload 8, 2) := by decide +kernel
theorem dX8_common_37 : decode cX8_common 37 = .ok (.lstore 6, 2) := by decide +kernel
theorem dX8_common_39 : decode cX8_common 39 = .ok (.goto (-22), 3) := by decide +kernel
theorem dX8_common_42 : decode cX8_common 42 = .ok (.lload 4, 2) := by decide +kernel
theorem dX8_common_44 : decode cX8_common 44 = .ok (.lreturn, 1) := by decide +kernel
theorem dX8_exact_0 : decode cX8_exact 0 = .ok (.aload_n 0, 1) := by decide +kernel
theorem dX8_exact_1 : decode cX8_exact 1 = .ok (.iconst 0, 1) := by decide +kernel
theorem dX8_exact_2 : decode cX8_exact 2 = .ok (.putfield 69, 3) := by decide +kernel
theorem dX8_exact_5 : decode cX8_exact 5 = .ok (.aload_n 0, 1) := by decide +kernel
theorem dX8_exact_6 : decode cX8_exact 6 = .ok (.iload_n 1, 1) := by decide +kernel
theorem dX8_exact_7 : decode cX8_exact 7 = .ok (.invokevirtual 196, 3) := by decide +kernel
theorem dX8_exact_10 : decode cX8_exact 10 = .ok (.ifCond .eq 21, 3) := by decide +kernel
theorem dX8_exact_13 : decode cX8_exact 13 = .ok (.iload_n 2, 1) := by decide +kernel
theorem dX8_exact_14 : decode cX8_exact 14 = .ok (.iconst 0, 1) := by decide +kernel
theorem dX8_exact_15 : decode cX8_exact 15 = .ok (.iconst 2, 1) := by decide +kernel
theorem dX8_exact_16 : decode cX8_exact 16 = .ok (.invokestatic 73, 3) := by decide +kernel
theorem dX8_exact_19 : decode cX8_exact 19 = .ok (.ifCond .eq 12, 3) := by decide +kernel
theorem dX8_exact_22 : decode cX8_exact 22 = .ok (.iload_n 3, 1) := by decide +kernel
theorem dX8_exact_23 : decode cX8_exact 23 = .ok (.iconst 0, 1) := by decide +kernel
theorem dX8_exact_24 : decode cX8_exact 24 = .ok (.iconst 1, 1) := by decide +kernel
theorem dX8_exact_25 : decode cX8_exact 25 = .ok (.invokestatic 73, 3) := by decide +kernel
theorem dX8_exact_28 : decode cX8_exact 28 = .ok (.ifCond .ne 6, 3) := by decide +kernel
theorem dX8_exact_31 : decode cX8_exact 31 = .ok (.ldc 216, 2) := by decide +kernel
theorem dX8_exact_33 : decode cX8_exact 33 = .ok (.ireturn, 1) := by decide +kernel
theorem dX8_exact_34 : decode cX8_exact 34 = .ok (.aload_n 0, 1) := by decide +kernel
theorem dX8_exact_35 : decode cX8_exact 35 = .ok (.invokevirtual 202, 3) := by decide +kernel
theorem dX8_exact_38 : decode cX8_exact 38 = .ok (.ifCond .ne 6, 3) := by decide +kernel
theorem dX8_exact_41 : decode cX8_exact 41 = .ok (.ldc 217, 2) := by decide +kernel
theorem dX8_exact_43 : decode cX8_exact 43 = .ok (.ireturn, 1) := by decide +kernel
theorem dX8_exact_44 : decode cX8_exact 44 = .ok (.aload_n 0, 1) := by decide +kernel
theorem dX8_exact_45 : decode cX8_exact 45 = .ok (.getfield 40, 3) := by decide +kernel
theorem dX8_exact_48 : decode cX8_exact 48 = .ok (.iconst 3, 1) := by decide +kernel
theorem dX8_exact_49 : decode cX8_exact 49 = .ok (.iload_n 1, 1) := by decide +kernel
theorem dX8_exact_50 : decode cX8_exact 50 = .ok (.imul, 1) := by decide +kernel
theorem dX8_exact_51 : decode cX8_exact 51 = .ok (.iload_n 2, 1) := by decide +kernel
theorem dX8_exact_52 : decode cX8_exact 52 = .ok (.iadd, 1) := by decide +kernel
theorem dX8_exact_53 : decode cX8_exact 53 = .ok (.laload, 1) := by decide +kernel
theorem dX8_exact_54 : decode cX8_exact 54 = .ok (.lstore 4, 2) := by decide +kernel
theorem dX8_exact_56 : decode cX8_exact 56 = .ok (.lload 4, 2) := by decide +kernel
theorem dX8_exact_58 : decode cX8_exact 58 = .ok (.aload_n 0, 1) := by decide +kernel
theorem dX8_exact_59 : decode cX8_exact 59 = .ok (.getfield 156, 3) := by decide +kernel
theorem dX8_exact_62 : decode cX8_exact 62 = .ok (.invokestatic 218, 3) := by decide +kernel
theorem dX8_exact_65 : decode cX8_exact 65 = .ok (.lstore 6, 2) := by decide +kernel
theorem dX8_exact_67 : decode cX8_exact 67 = .ok (.iload_n 3, 1) := by decide +kernel
theorem dX8_exact_68 : decode cX8_exact 68 = .ok (.ifCond .ne 11, 3) := by decide +kernel
theorem dX8_exact_71 : decode cX8_exact 71 = .ok (.lload 4, 2) := by decide +kernel
theorem dX8_exact_73 : decode cX8_exact 73 = .ok (.lload 6, 2) := by decide +kernel
theorem dX8_exact_75 : decode cX8_exact 75 = .ok (.ldiv, 1) := by decide +kernel
theorem dX8_exact_76 : decode cX8_exact 76 = .ok (.goto 10, 3) := by decide +kernel
theorem dX8_exact_79 : decode cX8_exact 79 = .ok (.aload_n 0, 1) := by decide +kernel
theorem dX8_exact_80 : decode cX8_exact 80 = .ok (.getfield 156, 3) := by decide +kernel
theorem dX8_exact_83 : decode cX8_exact 83 = .ok (.lload 6, 2) := by decide +kernel
theorem dX8_exact_85 : decode cX8_exact 85 = .ok (.ldiv, 1) := by decide +kernel
theorem dX8_exact_86 : decode cX8_exact 86 = .ok (.l2i, 1) := by decide +kernel
theorem dX8_exact_87 : decode cX8_exact 87 = .ok (.ireturn, 1) := by decide +kernel
theorem dX8_bears_0 : decode cX8_bears 0 = .ok (.aload_n 0, 1) := by decide +kernel
theorem dX8_bears_1 : decode cX8_bears 1 = .ok (.iconst 0, 1) := by decide +kernel
theorem dX8_bears_2 : decode cX8_bears 2 = .ok (.putfield 69, 3) := by decide +kernel
theorem dX8_bears_5 : decode cX8_bears 5 = .ok (.aload_n 0, 1) := by decide +kernel
theorem dX8_bears_6 : decode cX8_bears 6 = .ok (.iload_n 1, 1) := by decide +kernel
theorem dX8_bears_7 : decode cX8_bears 7 = .ok (.invokevirtual 196, 3) := by decide +kernel
theorem dX8_bears_10 : decode cX8_bears 10 = .ok (.ifCond .eq 20, 3) := by decide +kernel
theorem dX8_bears_13 : decode cX8_bears 13 = .ok (.aload_n 0, 1) := by decide +kernel
theorem dX8_bears_14 : decode cX8_bears 14 = .ok (.iload_n 1, 1) := by decide +kernel
theorem dX8_bears_15 : decode cX8_bears 15 = .ok (.invokevirtual 134, 3) := by decide +kernel
theorem dX8_bears_18 : decode cX8_bears 18 = .ok (.ifCond .ne 12, 3) := by decide +kernel
theorem dX8_bears_21 : decode cX8_bears 21 = .ok (.iload_n 2, 1) := by decide +kernel
theorem dX8_bears_22 : decode cX8_bears 22 = .ok (.iconst 0, 1) := by decide +kernel
theorem dX8_bears_23 : decode cX8_bears 23 = .ok (.iconst 2, 1) := by decide +kernel
theorem dX8_bears_24 : decode cX8_bears 24 = .ok (.invokestatic 73, 3) := by decide +kernel
theorem dX8_bears_27 : decode cX8_bears 27 = .ok (.ifCond .ne 5, 3) := by decide +kernel
theorem dX8_bears_30 : decode cX8_bears 30 = .ok (.iconst (-1), 1) := by decide +kernel
theorem dX8_bears_31 : decode cX8_bears 31 = .ok (.ireturn, 1) := by decide +kernel
theorem dX8_bears_32 : decode cX8_bears 32 = .ok (.aload_n 0, 1) := by decide +kernel
theorem dX8_bears_33 : decode cX8_bears 33 = .ok (.invokevirtual 202, 3) := by decide +kernel
theorem dX8_bears_36 : decode cX8_bears 36 = .ok (.ifCond .ne 6, 3) := by decide +kernel
theorem dX8_bears_39 : decode cX8_bears 39 = .ok (.bipush (-2), 2) := by decide +kernel
theorem dX8_bears_41 : decode cX8_bears 41 = .ok (.ireturn, 1) := by decide +kernel
theorem dX8_bears_42 : decode cX8_bears 42 = .ok (.iconst 0, 1) := by decide +kernel
theorem dX8_bears_43 : decode cX8_bears 43 = .ok (.istore_n 3, 1) := by decide +kernel
theorem dX8_bears_44 : decode cX8_bears 44 = .ok (.iconst 0, 1) := by decide +kernel
theorem dX8_bears_45 : decode cX8_bears 45 = .ok (.istore 4, 2) := by decide +kernel
theorem dX8_bears_47 : decode cX8_bears 47 = .ok (.iload 4, 2) := by decide +kernel
theorem dX8_bears_49 : decode cX8_bears 49 = .ok (.aload_n 0, 1) := by decide +kernel
theorem dX8_bears_50 : decode cX8_bears 50 = .ok (.getfield 13, 3) := by decide +kernel
theorem dX8_bears_53 : decode cX8_bears 53 = .ok (.iconst 1, 1) := by decide +kernel
theorem dX8_bears_54 : decode cX8_bears 54 = .ok (.iaload, 1) := by decide +kernel
theorem dX8_bears_55 : decode cX8_bears 55 = .ok (.if_icmp .ge 66, 3) := by decide +kernel
theorem dX8_bears_58 : decode cX8_bears 58 = .ok (.aload_n 0, 1) := by decide +kernel
theorem dX8_bears_59 : decode cX8_bears 59 = .ok (.iload 4, 2) := by decide +kernel
theorem dX8_bears_61 : decode cX8_bears 61 = .ok (.invokevirtual 137, 3) := by decide +kernel
theorem dX8_bears_64 : decode cX8_bears 64 = .ok (.ifCond .eq 51, 3) := by decide +kernel
theorem dX8_bears_67 : decode cX8_bears 67 = .ok (.aload_n 0, 1) := by decide +kernel
theorem dX8_bears_68 : decode cX8_bears 68 = .ok (.iload 4, 2) := by decide +kernel
theorem dX8_bears_70 : decode cX8_bears 70 = .ok (.iload_n 1, 1) := by decide +kernel
theorem dX8_bears_71 : decode cX8_bears 71 = .ok (.invokevirtual 184, 3) := by decide +kernel
theorem dX8_bears_74 : decode cX8_bears 74 = .ok (.ifCond .eq 41, 3) := by decide +kernel
theorem dX8_bears_77 : decode cX8_bears 77 = .ok (.iload_n 3, 1) := by decide +kernel
theorem dX8_bears_78 : decode cX8_bears 78 = .ok (.aload_n 0, 1) := by decide +kernel
theorem dX8_bears_79 : decode cX8_bears 79 = .ok (.iload 4, 2) := by decide +kernel
theorem dX8_bears_81 : decode cX8_bears 81 = .ok (.iconst 2, 1) := by decide +kernel
theorem dX8_bears_82 : decode cX8_bears 82 = .ok (.invokevirtual 131, 3) := by decide +kernel
theorem dX8_bears_85 : decode cX8_bears 85 = .ok (.aload_n 0, 1) := by decide +kernel
theorem dX8_bears_86 : decode cX8_bears 86 = .ok (.getfield 43, 3) := by decide +kernel
theorem dX8_bears_89 : decode cX8_bears 89 = .ok (.iconst 3, 1) := by decide +kernel
theorem dX8_bears_90 : decode cX8_bears 90 = .ok (.aload_n 0, 1) := by decide +kernel
theorem dX8_bears_91 : decode cX8_bears 91 = .ok (.iload 4, 2) := by decide +kernel
theorem dX8_bears_93 : decode cX8_bears 93 = .ok (.iload_n 1, 1) := by decide +kernel
theorem dX8_bears_94 : decode cX8_bears 94 = .ok (.invokevirtual 147, 3) := by decide +kernel
theorem dX8_bears_97 : decode cX8_bears 97 = .ok (.imul, 1) := by decide +kernel
theorem dX8_bears_98 : decode cX8_bears 98 = .ok (.iload_n 2, 1) := by decide +kernel
theorem dX8_bears_99 : decode cX8_bears 99 = .ok (.iadd, 1) := by decide +kernel
theorem dX8_bears_100 : decode cX8_bears 100 = .ok (.iaload, 1) := by decide +kernel
theorem dX8_bears_101 : decode cX8_bears 101 = .ok (.aload_n 0, 1) := by decide +kernel
theorem dX8_bears_102 : decode cX8_bears 102 = .ok (.getfield 43, 3) := by decide +kernel
theorem dX8_bears_105 : decode cX8_bears 105 = .ok (.iconst 3, 1) := by decide +kernel
theorem dX8_bears_106 : decode cX8_bears 106 = .ok (.iload_n 1, 1) := by decide +kernel
theorem dX8_bears_107 : decode cX8_bears 107 = .ok (.imul, 1) := by decide +kernel
theorem dX8_bears_108 : decode cX8_bears 108 = .ok (.iload_n 2, 1) := by decide +kernel
theorem dX8_bears_109 : decode cX8_bears 109 = .ok (.iadd, 1) := by decide +kernel
theorem dX8_bears_110 : decode cX8_bears 110 = .ok (.iaload, 1) := by decide +kernel
theorem dX8_bears_111 : decode cX8_bears 111 = .ok (.isub, 1) := by decide +kernel
theorem dX8_bears_112 : decode cX8_bears 112 = .ok (.imul, 1) := by decide +kernel
theorem dX8_bears_113 : decode cX8_bears 113 = .ok (.iadd, 1) := by decide +kernel
theorem dX8_bears_114 : decode cX8_bears 114 = .ok (.istore_n 3, 1) := by decide +kernel
theorem dX8_bears_115 : decode cX8_bears 115 = .ok (.iinc 4 1, 3) := by decide +kernel
theorem dX8_bears_118 : decode cX8_bears 118 = .ok (.goto (-71), 3) := by decide +kernel
theorem dX8_bears_121 : decode cX8_bears 121 = .ok (.iload_n 3, 1) := by decide +kernel
theorem dX8_bears_122 : decode cX8_bears 122 = .ok (.ldc 215, 2) := by decide +kernel
theorem dX8_bears_124 : decode cX8_bears 124 = .ok (.iadd, 1) := by decide +kernel
theorem dX8_bears_125 : decode cX8_bears 125 = .ok (.ireturn, 1) := by decide +kernel
theorem dX8_strand_0 : decode cX8_strand 0 = .ok (.aload_n 0, 1) := by decide +kernel
theorem dX8_strand_1 : decode cX8_strand 1 = .ok (.iconst 0, 1) := by decide +kernel
theorem dX8_strand_2 : decode cX8_strand 2 = .ok (.putfield 69, 3) := by decide +kernel
theorem dX8_strand_5 : decode cX8_strand 5 = .ok (.aload_n 0, 1) := by decide +kernel
theorem dX8_strand_6 : decode cX8_strand 6 = .ok (.iload_n 1, 1) := by decide +kernel
theorem dX8_strand_7 : decode cX8_strand 7 = .ok (.invokevirtual 190, 3) := by decide +kernel
theorem dX8_strand_10 : decode cX8_strand 10 = .ok (.ifCond .eq 13, 3) := by decide +kernel
theorem dX8_strand_13 : decode cX8_strand 13 = .ok (.iload_n 2, 1) := by decide +kernel
theorem dX8_strand_14 : decode cX8_strand 14 = .ok (.iconst 0, 1) := by decide +kernel
theorem dX8_strand_15 : decode cX8_strand 15 = .ok (.bipush 8, 2) := by decide +kernel
theorem dX8_strand_17 : decode cX8_strand 17 = .ok (.invokestatic 73, 3) := by decide +kernel
theorem dX8_strand_20 : decode cX8_strand 20 = .ok (.ifCond .ne 5, 3) := by decide +kernel
theorem dX8_strand_23 : decode cX8_strand 23 = .ok (.iconst (-1), 1) := by decide +kernel
theorem dX8_strand_24 : decode cX8_strand 24 = .ok (.ireturn, 1) := by decide +kernel
theorem dX8_strand_25 : decode cX8_strand 25 = .ok (.iload_n 2, 1) := by decide +kernel
theorem dX8_strand_26 : decode cX8_strand 26 = .ok (.iconst 5, 1) := by decide +kernel
theorem dX8_strand_27 : decode cX8_strand 27 = .ok (.if_icmp .ge 10, 3) := by decide +kernel
theorem dX8_strand_30 : decode cX8_strand 30 = .ok (.aload_n 0, 1) := by decide +kernel
theorem dX8_strand_31 : decode cX8_strand 31 = .ok (.iload_n 1, 1) := by decide +kernel
theorem dX8_strand_32 : decode cX8_strand 32 = .ok (.iload_n 2, 1) := by decide +kernel
theorem dX8_strand_33 : decode cX8_strand 33 = .ok (.invokevirtual 131, 3) := by decide +kernel
theorem dX8_strand_36 : decode cX8_strand 36 = .ok (.ireturn, 1) := by decide +kernel
theorem dX8_strand_37 : decode cX8_strand 37 = .ok (.aload_n 0, 1) := by decide +kernel
theorem dX8_strand_38 : decode cX8_strand 38 = .ok (.invokevirtual 202, 3) := by decide +kernel
theorem dX8_strand_41 : decode cX8_strand 41 = .ok (.ifCond .ne 6, 3) := by decide +kernel
theorem dX8_strand_44 : decode cX8_strand 44 = .ok (.bipush (-2), 2) := by decide +kernel
theorem dX8_strand_46 : decode cX8_strand 46 = .ok (.ireturn, 1) := by decide +kernel
theorem dX8_strand_47 : decode cX8_strand 47 = .ok (.aload_n 0, 1) := by decide +kernel
theorem dX8_strand_48 : decode cX8_strand 48 = .ok (.iload_n 1, 1) := by decide +kernel
theorem dX8_strand_49 : decode cX8_strand 49 = .ok (.invokevirtual 137, 3) := by decide +kernel
theorem dX8_strand_52 : decode cX8_strand 52 = .ok (.ifCond .eq 18, 3) := by decide +kernel
theorem dX8_strand_55 : decode cX8_strand 55 = .ok (.iload_n 2, 1) := by decide +kernel
theorem dX8_strand_56 : decode cX8_strand 56 = .ok (.bipush 7, 2) := by decide +kernel
theorem dX8_strand_58 : decode cX8_strand 58 = .ok (.if_icmp .ne 15, 3) := by decide +kernel
theorem dX8_strand_61 : decode cX8_strand 61 = .ok (.aload_n 0, 1) := by decide +kernel
theorem dX8_strand_62 : decode cX8_strand 62 = .ok (.iload_n 1, 1) := by decide +kernel
theorem dX8_strand_63 : decode cX8_strand 63 = .ok (.iconst 3, 1) := by decide +kernel
theorem dX8_strand_64 : decode cX8_strand 64 = .ok (.invokevirtual 131, 3) := by decide +kernel
theorem dX8_strand_67 : decode cX8_strand 67 = .ok (.ifCond .ne 6, 3) := by decide +kernel
theorem dX8_strand_70 : decode cX8_strand 70 = .ok (.bipush (-4), 2) := by decide +kernel
theorem dX8_strand_72 : decode cX8_strand 72 = .ok (.ireturn, 1) := by decide +kernel
theorem dX8_strand_73 : decode cX8_strand 73 = .ok (.aload_n 0, 1) := by decide +kernel
theorem dX8_strand_74 : decode cX8_strand 74 = .ok (.iload_n 1, 1) := by decide +kernel
theorem dX8_strand_75 : decode cX8_strand 75 = .ok (.invokevirtual 174, 3) := by decide +kernel
theorem dX8_strand_78 : decode cX8_strand 78 = .ok (.istore_n 3, 1) := by decide +kernel
theorem dX8_strand_79 : decode cX8_strand 79 = .ok (.iload_n 2, 1) := by decide +kernel
theorem dX8_strand_80 : decode cX8_strand 80 = .ok (.iconst 5, 1) := by decide +kernel
theorem dX8_strand_81 : decode cX8_strand 81 = .ok (.if_icmp .ne 7, 3) := by decide +kernel
theorem dX8_strand_84 : decode cX8_strand 84 = .ok (.iload_n 3, 1) := by decide +kernel
theorem dX8_strand_85 : decode cX8_strand 85 = .ok (.goto 47, 3) := by decide +kernel
theorem dX8_strand_88 : decode cX8_strand 88 = .ok (.iload_n 2, 1) := by decide +kernel
theorem dX8_strand_89 : decode cX8_strand 89 = .ok (.bipush 6, 2) := by decide +kernel
theorem dX8_strand_91 : decode cX8_strand 91 = .ok (.if_icmp .ne 14, 3) := by decide +kernel
theorem dX8_strand_94 : decode cX8_strand 94 = .ok (.aload_n 0, 1) := by decide +kernel
theorem dX8_strand_95 : decode cX8_strand 95 = .ok (.iload_n 1, 1) := by decide +kernel
theorem dX8_strand_96 : decode cX8_strand 96 = .ok (.iconst 2, 1) := by decide +kernel
theorem dX8_strand_97 : decode cX8_strand 97 = .ok (.invokevirtual 131, 3) := by decide +kernel
theorem dX8_strand_100 : decode cX8_strand 100 = .ok (.iload_n 3, 1) := by decide +kernel
theorem dX8_strand_101 : decode cX8_strand 101 = .ok (.imul, 1) := by decide +kernel
theorem dX8_strand_102 : decode cX8_strand 102 = .ok (.goto 30, 3) := by decide +kernel
theorem dX8_strand_105 : decode cX8_strand 105 = .ok (.iload_n 2, 1) := by decide +kernel
theorem dX8_strand_106 : decode cX8_strand 106 = .ok (.bipush 7, 2) := by decide +kernel
theorem dX8_strand_108 : decode cX8_strand 108 = .ok (.if_icmp .ne 11, 3) := by decide +kernel
theorem dX8_strand_111 : decode cX8_strand 111 = .ok (.aload_n 0, 1) := by decide +kernel
theorem dX8_strand_112 : decode cX8_strand 112 = .ok (.iload_n 1, 1) := by decide +kernel
theorem dX8_strand_113 : decode cX8_strand 113 = .ok (.invokevirtual 181, 3) := by decide +kernel
theorem dX8_strand_116 : decode cX8_strand 116 = .ok (.goto 16, 3) := by decide +kernel
theorem dX8_strand_119 : decode cX8_strand 119 = .ok (.aload_n 0, 1) := by decide +kernel
theorem dX8_strand_120 : decode cX8_strand 120 = .ok (.iload_n 1, 1) := by decide +kernel
theorem dX8_strand_121 : decode cX8_strand 121 = .ok (.invokevirtual 150, 3) := by decide +kernel
theorem dX8_strand_124 : decode cX8_strand 124 = .ok (.ifCond .eq 7, 3) := by decide +kernel
theorem dX8_strand_127 : decode cX8_strand 127 = .ok (.iconst 0, 1) := by decide +kernel
theorem dX8_strand_128 : decode cX8_strand 128 = .ok (.goto 4, 3) := by decide +kernel
theorem dX8_strand_131 : decode cX8_strand 131 = .ok (.iconst 1, 1) := by decide +kernel
theorem dX8_strand_132 : decode cX8_strand 132 = .ok (.ireturn, 1) := by decide +kernel
theorem dX8_slack_0 : decode cX8_slack 0 = .ok (.aload_n 0, 1) := by decide +kernel
theorem dX8_slack_1 : decode cX8_slack 1 = .ok (.iconst 0, 1) := by decide +kernel
theorem dX8_slack_2 : decode cX8_slack 2 = .ok (.putfield 69, 3) := by decide +kernel
theorem dX8_slack_5 : decode cX8_slack 5 = .ok (.aload_n 0, 1) := by decide +kernel
theorem dX8_slack_6 : decode cX8_slack 6 = .ok (.invokevirtual 202, 3) := by decide +kernel
theorem dX8_slack_9 : decode cX8_slack 9 = .ok (.ifCond .ne 6, 3) := by decide +kernel
theorem dX8_slack_12 : decode cX8_slack 12 = .ok (.bipush (-2), 2) := by decide +kernel
theorem dX8_slack_14 : decode cX8_slack 14 = .ok (.ireturn, 1) := by decide +kernel
theorem dX8_slack_15 : decode cX8_slack 15 = .ok (.iconst 0, 1) := by decide +kernel
theorem dX8_slack_16 : decode cX8_slack 16 = .ok (.istore_n 1, 1) := by decide +kernel
theorem dX8_slack_17 : decode cX8_slack 17 = .ok (.iconst 0, 1) := by decide +kernel
theorem dX8_slack_18 : decode cX8_slack 18 = .ok (.istore_n 2, 1) := by decide +kernel
theorem dX8_slack_19 : decode cX8_slack 19 = .ok (.iload_n 2, 1) := by decide +kernel
theorem dX8_slack_20 : decode cX8_slack 20 = .ok (.aload_n 0, 1) := by decide +kernel
theorem dX8_slack_21 : decode cX8_slack 21 = .ok (.getfield 13, 3) := by decide +kernel
theorem dX8_slack_24 : decode cX8_slack 24 = .ok (.iconst 1, 1) := by decide +kernel
theorem dX8_slack_25 : decode cX8_slack 25 = .ok (.iaload, 1) := by decide +kernel
theorem dX8_slack_26 : decode cX8_slack 26 = .ok (.if_icmp .ge 44, 3) := by decide +kernel
theorem dX8_slack_29 : decode cX8_slack 29 = .ok (.iload_n 1, 1) := by decide +kernel
theorem dX8_slack_30 : decode cX8_slack 30 = .ok (.aload_n 0, 1) := by decide +kernel
theorem dX8_slack_31 : decode cX8_slack 31 = .ok (.iload_n 2, 1) := by decide +kernel
theorem dX8_slack_32 : decode cX8_slack 32 = .ok (.invokevirtual 178, 3) := by decide +kernel
theorem dX8_slack_35 : decode cX8_slack 35 = .ok (.ifCond .eq 26, 3) := by decide +kernel
theorem dX8_slack_38 : decode cX8_slack 38 = .ok (.aload_n 0, 1) := by decide +kernel
theorem dX8_slack_39 : decode cX8_slack 39 = .ok (.iload_n 2, 1) := by decide +kernel
theorem dX8_slack_40 : decode cX8_slack 40 = .ok (.invokevirtual 174, 3) := by decide +kernel
theorem dX8_slack_43 : decode cX8_slack 43 = .ok (.bipush 100, 2) := by decide +kernel
theorem dX8_slack_45 : decode cX8_slack 45 = .ok (.aload_n 0, 1) := by decide +kernel
theorem dX8_slack_46 : decode cX8_slack 46 = .ok (.iload_n 2, 1) := by decide +kernel
theorem dX8_slack_47 : decode cX8_slack 47 = .ok (.iconst 3, 1) := by decide +kernel
theorem dX8_slack_48 : decode cX8_slack 48 = .ok (.invokevirtual 131, 3) := by decide +kernel
theorem dX8_slack_51 : decode cX8_slack 51 = .ok (.imul, 1) := by decide +kernel
theorem dX8_slack_52 : decode cX8_slack 52 = .ok (.if_icmp .ge 9, 3) := by decide +kernel
theorem dX8_slack_55 : decode cX8_slack 55 = .ok (.iconst 1, 1) := by decide +kernel
theorem dX8_slack_56 : decode cX8_slack 56 = .ok (.iload_n 2, 1) := by decide +kernel
theorem dX8_slack_57 : decode cX8_slack 57 = .ok (.ishl, 1) := by decide +kernel
theorem dX8_slack_58 : decode cX8_slack 58 = .ok (.goto 4, 3) := by decide +kernel
theorem dX8_slack_61 : decode cX8_slack 61 = .ok (.iconst 0, 1) := by decide +kernel
theorem dX8_slack_62 : decode cX8_slack 62 = .ok (.ior, 1) := by decide +kernel
theorem dX8_slack_63 : decode cX8_slack 63 = .ok (.istore_n 1, 1) := by decide +kernel
theorem dX8_slack_64 : decode cX8_slack 64 = .ok (.iinc 2 1, 3) := by decide +kernel
theorem dX8_slack_67 : decode cX8_slack 67 = .ok (.goto (-48), 3) := by decide +kernel
theorem dX8_slack_70 : decode cX8_slack 70 = .ok (.iload_n 1, 1) := by decide +kernel
theorem dX8_slack_71 : decode cX8_slack 71 = .ok (.ireturn, 1) := by decide +kernel
theorem dX8_miss_0 : decode cX8_miss 0 = .ok (.aload_n 0, 1) := by decide +kernel
theorem dX8_miss_1 : decode cX8_miss 1 = .ok (.iconst 0, 1) := by decide +kernel
theorem dX8_miss_2 : decode cX8_miss 2 = .ok (.putfield 69, 3) := by decide +kernel
theorem dX8_miss_5 : decode cX8_miss 5 = .ok (.aload_n 0, 1) := by decide +kernel
theorem dX8_miss_6 : decode cX8_miss 6 = .ok (.invokevirtual 202, 3) := by decide +kernel
theorem dX8_miss_9 : decode cX8_miss 9 = .ok (.ifCond .eq 10, 3) := by decide +kernel
theorem dX8_miss_12 : decode cX8_miss 12 = .ok (.aload_n 0, 1) := by decide +kernel
theorem dX8_miss_13 : decode cX8_miss 13 = .ok (.invokevirtual 221, 3) := by decide +kernel
theorem dX8_miss_16 : decode cX8_miss 16 = .ok (.goto 5, 3) := by decide +kernel
theorem dX8_miss_19 : decode cX8_miss 19 = .ok (.bipush (-2), 2) := by decide +kernel
theorem dX8_miss_21 : decode cX8_miss 21 = .ok (.ireturn, 1) := by decide +kernel
theorem dX8_settle_0 : decode cX8_settle 0 = .ok (.aload_n 0, 1) := by decide +kernel
theorem dX8_settle_1 : decode cX8_settle 1 = .ok (.iconst 0, 1) := by decide +kernel
theorem dX8_settle_2 : decode cX8_settle 2 = .ok (.putfield 69, 3) := by decide +kernel
theorem dX8_settle_5 : decode cX8_settle 5 = .ok (.iload_n 1, 1) := by decide +kernel
theorem dX8_settle_6 : decode cX8_settle 6 = .ok (.iconst 0, 1) := by decide +kernel
theorem dX8_settle_7 : decode cX8_settle 7 = .ok (.iconst 1, 1) := by decide +kernel
theorem dX8_settle_8 : decode cX8_settle 8 = .ok (.invokestatic 73, 3) := by decide +kernel
theorem dX8_settle_11 : decode cX8_settle 11 = .ok (.ifCond .ne 5, 3) := by decide +kernel
theorem dX8_settle_14 : decode cX8_settle 14 = .ok (.iconst (-1), 1) := by decide +kernel
theorem dX8_settle_15 : decode cX8_settle 15 = .ok (.ireturn, 1) := by decide +kernel
theorem dX8_settle_16 : decode cX8_settle 16 = .ok (.aload_n 0, 1) := by decide +kernel
theorem dX8_settle_17 : decode cX8_settle 17 = .ok (.bipush (-4), 2) := by decide +kernel
theorem dX8_settle_19 : decode cX8_settle 19 = .ok (.invokevirtual 150, 3) := by decide +kernel
theorem dX8_settle_22 : decode cX8_settle 22 = .ok (.ifCond .ne 6, 3) := by decide +kernel
theorem dX8_settle_25 : decode cX8_settle 25 = .ok (.bipush (-2), 2) := by decide +kernel
theorem dX8_settle_27 : decode cX8_settle 27 = .ok (.ireturn, 1) := by decide +kernel
theorem dX8_settle_28 : decode cX8_settle 28 = .ok (.iconst 0, 1) := by decide +kernel
theorem dX8_settle_29 : decode cX8_settle 29 = .ok (.istore_n 2, 1) := by decide +kernel
theorem dX8_settle_30 : decode cX8_settle 30 = .ok (.iload_n 2, 1) := by decide +kernel
theorem dX8_settle_31 : decode cX8_settle 31 = .ok (.bipush 124, 2) := by decide +kernel
theorem dX8_settle_33 : decode cX8_settle 33 = .ok (.if_icmp .ge 21, 3) := by decide +kernel
theorem dX8_settle_36 : decode cX8_settle 36 = .ok (.aload_n 0, 1) := by decide +kernel
theorem dX8_settle_37 : decode cX8_settle 37 = .ok (.getfield 23, 3) := by decide +kernel
theorem dX8_settle_40 : decode cX8_settle 40 = .ok (.iload_n 2, 1) := by decide +kernel
theorem dX8_settle_41 : decode cX8_settle 41 = .ok (.aload_n 0, 1) := by decide +kernel
theorem dX8_settle_42 : decode cX8_settle 42 = .ok (.getfield 13, 3) := by decide +kernel
theorem dX8_settle_45 : decode cX8_settle 45 = .ok (.iload_n 2, 1) := by decide +kernel
theorem dX8_settle_46 : decode cX8_settle 46 = .ok (.iaload, 1) := by decide +kernel
theorem dX8_settle_47 : decode cX8_settle 47 = .ok (.iastore, 1) := by decide +kernel
theorem dX8_settle_48 : decode cX8_settle 48 = .ok (.iinc 2 1, 3) := by decide +kernel
theorem dX8_settle_51 : decode cX8_settle 51 = .ok (.goto (-21), 3) := by decide +kernel
theorem dX8_settle_54 : decode cX8_settle 54 = .ok (.iconst 0, 1) := by decide +kernel
theorem dX8_settle_55 : decode cX8_settle 55 = .ok (.istore_n 2, 1) := by decide +kernel
theorem dX8_settle_56 : decode cX8_settle 56 = .ok (.iload_n 2, 1) := by decide +kernel
theorem dX8_settle_57 : decode cX8_settle 57 = .ok (.bipush 60, 2) := by decide +kernel
theorem dX8_settle_59 : decode cX8_settle 59 = .ok (.if_icmp .gt 16, 3) := by decide +kernel
theorem dX8_settle_62 : decode cX8_settle 62 = .ok (.aload_n 0, 1) := by decide +kernel
theorem dX8_settle_63 : decode cX8_settle 63 = .ok (.invokevirtual 206, 3) := by decide +kernel
theorem dX8_settle_66 : decode cX8_settle 66 = .ok (.ifCond .eq 9, 3) := by decide +kernel
theorem dX8_settle_69 : decode cX8_settle 69 = .ok (.iinc 2 1, 3) := by decide +kernel
theorem dX8_settle_72 : decode cX8_settle 72 = .ok (.goto (-16), 3) := by decide +kernel
theorem dX8_settle_75 : decode cX8_settle 75 = .ok (.aload_n 0, 1) := by decide +kernel
theorem dX8_settle_76 : decode cX8_settle 76 = .ok (.invokevirtual 202, 3) := by decide +kernel
theorem dX8_settle_79 : decode cX8_settle 79 = .ok (.pop, 1) := by decide +kernel
theorem dX8_settle_80 : decode cX8_settle 80 = .ok (.aload_n 0, 1) := by decide +kernel
theorem dX8_settle_81 : decode cX8_settle 81 = .ok (.invokevirtual 221, 3) := by decide +kernel
theorem dX8_settle_84 : decode cX8_settle 84 = .ok (.istore_n 3, 1) := by decide +kernel
theorem dX8_settle_85 : decode cX8_settle 85 = .ok (.iconst 0, 1) := by decide +kernel
theorem dX8_settle_86 : decode cX8_settle 86 = .ok (.istore 4, 2) := by decide +kernel
theorem dX8_settle_88 : decode cX8_settle 88 = .ok (.iload 4, 2) := by decide +kernel
theorem dX8_settle_90 : decode cX8_settle 90 = .ok (.bipush 124, 2) := by decide +kernel
theorem dX8_settle_92 : decode cX8_settle 92 = .ok (.if_icmp .ge 23, 3) := by decide +kernel
theorem dX8_settle_95 : decode cX8_settle 95 = .ok (.aload_n 0, 1) := by decide +kernel
theorem dX8_settle_96 : decode cX8_settle 96 = .ok (.getfield 13, 3) := by decide +kernel
theorem dX8_settle_99 : decode cX8_settle 99 = .ok (.iload 4, 2) := by decide +kernel
theorem dX8_settle_101 : decode cX8_settle 101 = .ok (.aload_n 0, 1) := by decide +kernel
theorem dX8_settle_102 : decode cX8_settle 102 = .ok (.getfield 23, 3) := by decide +kernel
theorem dX8_settle_105 : decode cX8_settle 105 = .ok (.iload 4, 2) := by decide +kernel
theorem dX8_settle_107 : decode cX8_settle 107 = .ok (.iaload, 1) := by decide +kernel
theorem dX8_settle_108 : decode cX8_settle 108 = .ok (.iastore, 1) := by decide +kernel
theorem dX8_settle_109 : decode cX8_settle 109 = .ok (.iinc 4 1, 3) := by decide +kernel
theorem dX8_settle_112 : decode cX8_settle 112 = .ok (.goto (-24), 3) := by decide +kernel
theorem dX8_settle_115 : decode cX8_settle 115 = .ok (.iload_n 2, 1) := by decide +kernel
theorem dX8_settle_116 : decode cX8_settle 116 = .ok (.bipush 60, 2) := by decide +kernel
theorem dX8_settle_118 : decode cX8_settle 118 = .ok (.if_icmp .le 8, 3) := by decide +kernel
theorem dX8_settle_121 : decode cX8_settle 121 = .ok (.bipush (-4), 2) := by decide +kernel
theorem dX8_settle_123 : decode cX8_settle 123 = .ok (.goto 12, 3) := by decide +kernel
theorem dX8_settle_126 : decode cX8_settle 126 = .ok (.iload_n 1, 1) := by decide +kernel
theorem dX8_settle_127 : decode cX8_settle 127 = .ok (.ifCond .ne 7, 3) := by decide +kernel
theorem dX8_settle_130 : decode cX8_settle 130 = .ok (.iload_n 2, 1) := by decide +kernel
theorem dX8_settle_131 : decode cX8_settle 131 = .ok (.goto 4, 3) := by decide +kernel
theorem dX8_settle_134 : decode cX8_settle 134 = .ok (.iload_n 3, 1) := by decide +kernel
theorem dX8_settle_135 : decode cX8_settle 135 = .ok (.ireturn, 1) := by decide +kernel
theorem dX8_better_0 : decode cX8_better 0 = .ok (.aload_n 0, 1) := by decide +kernel
theorem dX8_better_1 : decode cX8_better 1 = .ok (.iconst 0, 1) := by decide +kernel
theorem dX8_better_2 : decode cX8_better 2 = .ok (.putfield 69, 3) := by decide +kernel
theorem dX8_better_5 : decode cX8_better 5 = .ok (.iload_n 1, 1) := by decide +kernel
theorem dX8_better_6 : decode cX8_better 6 = .ok (.iconst 0, 1) := by decide +kernel
theorem dX8_better_7 : decode cX8_better 7 = .ok (.iconst 1, 1) := by decide +kernel
theorem dX8_better_8 : decode cX8_better 8 = .ok (.invokestatic 73, 3) := by decide +kernel
theorem dX8_better_11 : decode cX8_better 11 = .ok (.ifCond .ne 5, 3) := by decide +kernel
theorem dX8_better_14 : decode cX8_better 14 = .ok (.iconst (-1), 1) := by decide +kernel
theorem dX8_better_15 : decode cX8_better 15 = .ok (.ireturn, 1) := by decide +kernel
theorem dX8_better_16 : decode cX8_better 16 = .ok (.aload_n 0, 1) := by decide +kernel
theorem dX8_better_17 : decode cX8_better 17 = .ok (.invokevirtual 202, 3) := by decide +kernel
theorem dX8_better_20 : decode cX8_better 20 = .ok (.ifCond .ne 6, 3) := by decide +kernel
theorem dX8_better_23 : decode cX8_better 23 = .ok (.bipush (-2), 2) := by decide +kernel
theorem dX8_better_25 : decode cX8_better 25 = .ok (.ireturn, 1) := by decide +kernel
theorem dX8_better_26 : decode cX8_better 26 = .ok (.aload_n 0, 1) := by decide +kernel
theorem dX8_better_27 : decode cX8_better 27 = .ok (.invokevirtual 221, 3) := by decide +kernel
theorem dX8_better_30 : decode cX8_better 30 = .ok (.istore_n 2, 1) := by decide +kernel
theorem dX8_better_31 : decode cX8_better 31 = .ok (.bipush (-4), 2) := by decide +kernel
theorem dX8_better_33 : decode cX8_better 33 = .ok (.istore_n 3, 1) := by decide +kernel
theorem dX8_better_34 : decode cX8_better 34 = .ok (.iconst 0, 1) := by decide +kernel
theorem dX8_better_35 : decode cX8_better 35 = .ok (.istore 4, 2) := by decide +kernel
theorem dX8_better_37 : decode cX8_better 37 = .ok (.iload 4, 2) := by decide +kernel
theorem dX8_better_39 : decode cX8_better 39 = .ok (.aload_n 0, 1) := by decide +kernel
theorem dX8_better_40 : decode cX8_better 40 = .ok (.getfield 13, 3) := by decide +kernel
theorem dX8_better_43 : decode cX8_better 43 = .ok (.iconst 1, 1) := by decide +kernel
theorem dX8_better_44 : decode cX8_better 44 = .ok (.iaload, 1) := by decide +kernel
theorem dX8_better_45 : decode cX8_better 45 = .ok (.if_icmp .ge 118, 3) := by decide +kernel
theorem dX8_better_48 : decode cX8_better 48 = .ok (.aload_n 0, 1) := by decide +kernel
theorem dX8_better_49 : decode cX8_better 49 = .ok (.iload 4, 2) := by decide +kernel
theorem dX8_better_51 : decode cX8_better 51 = .ok (.iconst 2, 1) := by decide +kernel
theorem dX8_better_52 : decode cX8_better 52 = .ok (.invokevirtual 131, 3) := by decide +kernel
theorem dX8_better_55 : decode cX8_better 55 = .ok (.istore 5, 2) := by decide +kernel
theorem dX8_better_57 : decode cX8_better 57 = .ok (.iconst 1, 1) := by decide +kernel
theorem dX8_better_58 : decode cX8_better 58 = .ok (.istore 6, 2) := by decide +kernel
theorem dX8_better_60 : decode cX8_better 60 = .ok (.iload 6, 2) := by decide +kernel
theorem dX8_better_62 : decode cX8_better 62 = .ok (.bipush 6, 2) := by decide +kernel
theorem dX8_better_64 : decode cX8_better 64 = .ok (.if_icmp .ge 77, 3) := by decide +kernel
theorem dX8_better_67 : decode cX8_better 67 = .ok (.aload_n 0, 1) := by decide +kernel
theorem dX8_better_68 : decode cX8_better 68 = .ok (.iload 4, 2) := by decide +kernel
theorem dX8_better_70 : decode cX8_better 70 = .ok (.invokevirtual 137, 3) := by decide +kernel
theorem dX8_better_73 : decode cX8_better 73 = .ok (.ifCond .eq 68, 3) := by decide +kernel
theorem dX8_better_76 : decode cX8_better 76 = .ok (.aload_n 0, 1) := by decide +kernel
theorem dX8_better_77 : decode cX8_better 77 = .ok (.getfield 13, 3) := by decide +kernel
theorem dX8_better_80 : decode cX8_better 80 = .ok (.bipush 54, 2) := by decide +kernel
theorem dX8_better_82 : decode cX8_better 82 = .ok (.iconst 5, 1) := by decide +kernel
theorem dX8_better_83 : decode cX8_better 83 = .ok (.iload 4, 2) := by decide +kernel
theorem dX8_better_85 : decode cX8_better 85 = .ok (.imul, 1) := by decide +kernel
theorem dX8_better_86 : decode cX8_better 86 = .ok (.iadd, 1) := by decide +kernel
theorem dX8_better_87 : decode cX8_better 87 = .ok (.iconst 2, 1) := by decide +kernel
theorem dX8_better_88 : decode cX8_better 88 = .ok (.iadd, 1) := by decide +kernel
theorem dX8_better_89 : decode cX8_better 89 = .ok (.iload 6, 2) := by decide +kernel
theorem dX8_better_91 : decode cX8_better 91 = .ok (.iastore, 1) := by decide +kernel
theorem dX8_better_92 : decode cX8_better 92 = .ok (.aload_n 0, 1) := by decide +kernel
theorem dX8_better_93 : decode cX8_better 93 = .ok (.invokevirtual 202, 3) := by decide +kernel
theorem dX8_better_96 : decode cX8_better 96 = .ok (.pop, 1) := by decide +kernel
theorem dX8_better_97 : decode cX8_better 97 = .ok (.aload_n 0, 1) := by decide +kernel
theorem dX8_better_98 : decode cX8_better 98 = .ok (.invokevirtual 221, 3) := by decide +kernel
theorem dX8_better_101 : decode cX8_better 101 = .ok (.istore 7, 2) := by decide +kernel
theorem dX8_better_103 : decode cX8_better 103 = .ok (.iload 7, 2) := by decide +kernel
theorem dX8_better_105 : decode cX8_better 105 = .ok (.iload_n 2, 1) := by decide +kernel
theorem dX8_better_106 : decode cX8_better 106 = .ok (.if_icmp .ge 14, 3) := by decide +kernel
theorem dX8_better_109 : decode cX8_better 109 = .ok (.bipush 10, 2) := by decide +kernel
theorem dX8_better_111 : decode cX8_better 111 = .ok (.iload 4, 2) := by decide +kernel
theorem dX8_better_113 : decode cX8_better 113 = .ok (.imul, 1) := by decide +kernel
theorem dX8_better_114 : decode cX8_better 114 = .ok (.iload 6, 2) := by decide +kernel
theorem dX8_better_116 : decode cX8_better 116 = .ok (.iadd, 1) := by decide +kernel
theorem dX8_better_117 : decode cX8_better 117 = .ok (.goto 4, 3) := by decide +kernel
theorem dX8_better_120 : decode cX8_better 120 = .ok (.iload_n 3, 1) := by decide +kernel
theorem dX8_better_121 : decode cX8_better 121 = .ok (.istore_n 3, 1) := by decide +kernel
theorem dX8_better_122 : decode cX8_better 122 = .ok (.iload 7, 2) := by decide +kernel
theorem dX8_better_124 : decode cX8_better 124 = .ok (.iload_n 2, 1) := by decide +kernel
theorem dX8_better_125 : decode cX8_better 125 = .ok (.if_icmp .ge 8, 3) := by decide +kernel
theorem dX8_better_128 : decode cX8_better 128 = .ok (.iload 7, 2) := by decide +kernel
theorem dX8_better_130 : decode cX8_better 130 = .ok (.goto 4, 3) := by decide +kernel
theorem dX8_better_133 : decode cX8_better 133 = .ok (.iload_n 2, 1) := by decide +kernel
theorem dX8_better_134 : decode cX8_better 134 = .ok (.istore_n 2, 1) := by decide +kernel
theorem dX8_better_135 : decode cX8_better 135 = .ok (.iinc 6 1, 3) := by decide +kernel
theorem dX8_better_138 : decode cX8_better 138 = .ok (.goto (-78), 3) := by decide +kernel
theorem dX8_better_141 : decode cX8_better 141 = .ok (.aload_n 0, 1) := by decide +kernel
theorem dX8_better_142 : decode cX8_better 142 = .ok (.getfield 13, 3) := by decide +kernel
theorem dX8_better_145 : decode cX8_better 145 = .ok (.bipush 54, 2) := by decide +kernel
theorem dX8_better_147 : decode cX8_better 147 = .ok (.iconst 5, 1) := by decide +kernel
theorem dX8_better_148 : decode cX8_better 148 = .ok (.iload 4, 2) := by decide +kernel
theorem dX8_better_150 : decode cX8_better 150 = .ok (.imul, 1) := by decide +kernel
theorem dX8_better_151 : decode cX8_better 151 = .ok (.iadd, 1) := by decide +kernel
theorem dX8_better_152 : decode cX8_better 152 = .ok (.iconst 2, 1) := by decide +kernel
theorem dX8_better_153 : decode cX8_better 153 = .ok (.iadd, 1) := by decide +kernel
theorem dX8_better_154 : decode cX8_better 154 = .ok (.iload 5, 2) := by decide +kernel
theorem dX8_better_156 : decode cX8_better 156 = .ok (.iastore, 1) := by decide +kernel
theorem dX8_better_157 : decode cX8_better 157 = .ok (.iinc 4 1, 3) := by decide +kernel
theorem dX8_better_160 : decode cX8_better 160 = .ok (.goto (-123), 3) := by decide +kernel
theorem dX8_better_163 : decode cX8_better 163 = .ok (.iload_n 3, 1) := by decide +kernel
theorem dX8_better_164 : decode cX8_better 164 = .ok (.bipush (-4), 2) := by decide +kernel
theorem dX8_better_166 : decode cX8_better 166 = .ok (.if_icmp .eq 7, 3) := by decide +kernel
theorem dX8_better_169 : decode cX8_better 169 = .ok (.iload_n 1, 1) := by decide +kernel
theorem dX8_better_170 : decode cX8_better 170 = .ok (.ifCond .ne 7, 3) := by decide +kernel
theorem dX8_better_173 : decode cX8_better 173 = .ok (.iload_n 3, 1) := by decide +kernel
theorem dX8_better_174 : decode cX8_better 174 = .ok (.goto 4, 3) := by decide +kernel
theorem dX8_better_177 : decode cX8_better 177 = .ok (.iload_n 2, 1) := by decide +kernel
theorem dX8_better_178 : decode cX8_better 178 = .ok (.ireturn, 1) := by decide +kernel
theorem dX8_greatest_0 : decode cX8_greatest 0 = .ok (.aload_n 0, 1) := by decide +kernel
theorem dX8_greatest_1 : decode cX8_greatest 1 = .ok (.iconst 0, 1) := by decide +kernel
theorem dX8_greatest_2 : decode cX8_greatest 2 = .ok (.putfield 69, 3) := by decide +kernel
theorem dX8_greatest_5 : decode cX8_greatest 5 = .ok (.iload_n 1, 1) := by decide +kernel
theorem dX8_greatest_6 : decode cX8_greatest 6 = .ok (.iconst 0, 1) := by decide +kernel
theorem dX8_greatest_7 : decode cX8_greatest 7 = .ok (.iconst 1, 1) := by decide +kernel
theorem dX8_greatest_8 : decode cX8_greatest 8 = .ok (.invokestatic 73, 3) := by decide +kernel
theorem dX8_greatest_11 : decode cX8_greatest 11 = .ok (.ifCond .ne 5, 3) := by decide +kernel
theorem dX8_greatest_14 : decode cX8_greatest 14 = .ok (.iconst (-1), 1) := by decide +kernel
theorem dX8_greatest_15 : decode cX8_greatest 15 = .ok (.ireturn, 1) := by decide +kernel
theorem dX8_greatest_16 : decode cX8_greatest 16 = .ok (.aload_n 0, 1) := by decide +kernel
theorem dX8_greatest_17 : decode cX8_greatest 17 = .ok (.invokevirtual 202, 3) := by decide +kernel
theorem dX8_greatest_20 : decode cX8_greatest 20 = .ok (.ifCond .ne 6, 3) := by decide +kernel
theorem dX8_greatest_23 : decode cX8_greatest 23 = .ok (.bipush (-2), 2) := by decide +kernel
theorem dX8_greatest_25 : decode cX8_greatest 25 = .ok (.ireturn, 1) := by decide +kernel
theorem dX8_greatest_26 : decode cX8_greatest 26 = .ok (.bipush (-4), 2) := by decide +kernel
theorem dX8_greatest_28 : decode cX8_greatest 28 = .ok (.istore_n 2, 1) := by decide +kernel
theorem dX8_greatest_29 : decode cX8_greatest 29 = .ok (.iconst (-1), 1) := by decide +kernel
theorem dX8_greatest_30 : decode cX8_greatest 30 = .ok (.istore_n 3, 1) := by decide +kernel
theorem dX8_greatest_31 : decode cX8_greatest 31 = .ok (.iconst 0, 1) := by decide +kernel
theorem dX8_greatest_32 : decode cX8_greatest 32 = .ok (.istore 4, 2) := by decide +kernel
theorem dX8_greatest_34 : decode cX8_greatest 34 = .ok (.iload 4, 2) := by decide +kernel
theorem dX8_greatest_36 : decode cX8_greatest 36 = .ok (.aload_n 0, 1) := by decide +kernel
theorem dX8_greatest_37 : decode cX8_greatest 37 = .ok (.getfield 13, 3) := by decide +kernel
theorem dX8_greatest_40 : decode cX8_greatest 40 = .ok (.iconst 1, 1) := by decide +kernel
theorem dX8_greatest_41 : decode cX8_greatest 41 = .ok (.iaload, 1) := by decide +kernel
theorem dX8_greatest_42 : decode cX8_greatest 42 = .ok (.if_icmp .ge 72, 3) := by decide +kernel
theorem dX8_greatest_45 : decode cX8_greatest 45 = .ok (.aload_n 0, 1) := by decide +kernel
theorem dX8_greatest_46 : decode cX8_greatest 46 = .ok (.iload 4, 2) := by decide +kernel
theorem dX8_greatest_48 : decode cX8_greatest 48 = .ok (.invokevirtual 137, 3) := by decide +kernel
theorem dX8_greatest_51 : decode cX8_greatest 51 = .ok (.ifCond .eq 28, 3) := by decide +kernel
theorem dX8_greatest_54 : decode cX8_greatest 54 = .ok (.iload_n 1, 1) := by decide +kernel
theorem dX8_greatest_55 : decode cX8_greatest 55 = .ok (.ifCond .ne 7, 3) := by decide +kernel
theorem dX8_greatest_58 : decode cX8_greatest 58 = .ok (.iconst 1, 1) := by decide +kernel
theorem dX8_greatest_59 : decode cX8_greatest 59 = .ok (.goto 10, 3) := by decide +kernel
theorem dX8_greatest_62 : decode cX8_greatest 62 = .ok (.aload_n 0, 1) := by decide +kernel
theorem dX8_greatest_63 : decode cX8_greatest 63 = .ok (.iload 4, 2) := by decide +kernel
theorem dX8_greatest_65 : decode cX8_greatest 65 = .ok (.iconst 2, 1) := by decide +kernel
theorem dX8_greatest_66 : decode cX8_greatest 66 = .ok (.invokevirtual 131, 3) := by decide +kernel
theorem dX8_greatest_69 : decode cX8_greatest 69 = .ok (.aload_n 0, 1) := by decide +kernel
theorem dX8_greatest_70 : decode cX8_greatest 70 = .ok (.iload 4, 2) := by decide +kernel
theorem dX8_greatest_72 : decode cX8_greatest 72 = .ok (.invokevirtual 174, 3) := by decide +kernel
theorem dX8_greatest_75 : decode cX8_greatest 75 = .ok (.imul, 1) := by decide +kernel
theorem dX8_greatest_76 : decode cX8_greatest 76 = .ok (.goto 4, 3) := by decide +kernel
theorem dX8_greatest_79 : decode cX8_greatest 79 = .ok (.iconst (-1), 1) := by decide +kernel
theorem dX8_greatest_80 : decode cX8_greatest 80 = .ok (.istore 5, 2) := by decide +kernel
theorem dX8_greatest_82 : decode cX8_greatest 82 = .ok (.iload 5, 2) := by decide +kernel
theorem dX8_greatest_84 : decode cX8_greatest 84 = .ok (.iload_n 3, 1) := by decide +kernel
theorem dX8_greatest_85 : decode cX8_greatest 85 = .ok (.if_icmp .le 8, 3) := by decide +kernel
theorem dX8_greatest_88 : decode cX8_greatest 88 = .ok (.iload 4, 2) := by decide +kernel
theorem dX8_greatest_90 : decode cX8_greatest 90 = .ok (.goto 4, 3) := by decide +kernel
theorem dX8_greatest_93 : decode cX8_greatest 93 = .ok (.iload_n 2, 1) := by decide +kernel
theorem dX8_greatest_94 : decode cX8_greatest 94 = .ok (.istore_n 2, 1) := by decide +kernel
theorem dX8_greatest_95 : decode cX8_greatest 95 = .ok (.iload 5, 2) := by decide +kernel
theorem dX8_greatest_97 : decode cX8_greatest 97 = .ok (.iload_n 3, 1) := by decide +kernel
theorem dX8_greatest_98 : decode cX8_greatest 98 = .ok (.if_icmp .le 8, 3) := by decide +kernel
theorem dX8_greatest_101 : decode cX8_greatest 101 = .ok (.iload 5, 2) := by decide +kernel
theorem dX8_greatest_103 : decode cX8_greatest 103 = .ok (.goto 4, 3) := by decide +kernel
theorem dX8_greatest_106 : decode cX8_greatest 106 = .ok (.iload_n 3, 1) := by decide +kernel
theorem dX8_greatest_107 : decode cX8_greatest 107 = .ok (.istore_n 3, 1) := by decide +kernel
theorem dX8_greatest_108 : decode cX8_greatest 108 = .ok (.iinc 4 1, 3) := by decide +kernel
theorem dX8_greatest_111 : decode cX8_greatest 111 = .ok (.goto (-77), 3) := by decide +kernel
theorem dX8_greatest_114 : decode cX8_greatest 114 = .ok (.iload_n 2, 1) := by decide +kernel
theorem dX8_greatest_115 : decode cX8_greatest 115 = .ok (.ireturn, 1) := by decide +kernel
theorem dX8_laysPieces_0 : decode cX8_laysPieces 0 = .ok (.iconst 1, 1) := by decide +kernel
theorem dX8_laysPieces_1 : decode cX8_laysPieces 1 = .ok (.istore_n 1, 1) := by decide +kernel
theorem dX8_laysPieces_2 : decode cX8_laysPieces 2 = .ok (.iconst 0, 1) := by decide +kernel
theorem dX8_laysPieces_3 : decode cX8_laysPieces 3 = .ok (.istore_n 2, 1) := by decide +kernel
theorem dX8_laysPieces_4 : decode cX8_laysPieces 4 = .ok (.iload_n 2, 1) := by decide +kernel
theorem dX8_laysPieces_5 : decode cX8_laysPieces 5 = .ok (.aload_n 0, 1) := by decide +kernel
theorem dX8_laysPieces_6 : decode cX8_laysPieces 6 = .ok (.getfield 13, 3) := by decide +kernel
theorem dX8_laysPieces_9 : decode cX8_laysPieces 9 = .ok (.iconst 1, 1) := by decide +kernel
theorem dX8_laysPieces_10 : decode cX8_laysPieces 10 = .ok (.iaload, 1) := by decide +kernel
theorem dX8_laysPieces_11 : decode cX8_laysPieces 11 = .ok (.if_icmp .ge 68, 3) := by decide +kernel
theorem dX8_laysPieces_14 : decode cX8_laysPieces 14 = .ok (.aload_n 0, 1) := by decide +kernel
theorem dX8_laysPieces_15 : decode cX8_laysPieces 15 = .ok (.getfield 46, 3) := by decide +kernel
theorem dX8_laysPieces_18 : decode cX8_laysPieces 18 = .ok (.iload_n 2, 1) := by decide +kernel
theorem dX8_laysPieces_19 : decode cX8_laysPieces 19 = .ok (.aload_n 0, 1) := by decide +kernel
theorem dX8_laysPieces_20 : decode cX8_laysPieces 20 = .ok (.iload_n 2, 1) := by decide +kernel
theorem dX8_laysPieces_21 : decode cX8_laysPieces 21 = .ok (.invokevirtual 137, 3) := by decide +kernel
theorem dX8_laysPieces_24 : decode cX8_laysPieces 24 = .ok (.ifCond .eq 18, 3) := by decide +kernel
theorem dX8_laysPieces_27 : decode cX8_laysPieces 27 = .ok (.aload_n 0, 1) := by decide +kernel
theorem dX8_laysPieces_28 : decode cX8_laysPieces 28 = .ok (.iload_n 2, 1) := by decide +kernel
theorem dX8_laysPieces_29 : decode cX8_laysPieces 29 = .ok (.invokevirtual 174, 3) := by decide +kernel
theorem dX8_laysPieces_32 : decode cX8_laysPieces 32 = .ok (.aload_n 0, 1) := by decide +kernel
theorem dX8_laysPieces_33 : decode cX8_laysPieces 33 = .ok (.getfield 13, 3) := by decide +kernel
theorem dX8_laysPieces_36 : decode cX8_laysPieces 36 = .ok (.iconst 3, 1) := by decide +kernel
theorem dX8_laysPieces_37 : decode cX8_laysPieces 37 = .ok (.iaload, 1) := by decide +kernel
theorem dX8_laysPieces_38 : decode cX8_laysPieces 38 = .ok (.iadd, 1) := by decide +kernel
theorem dX8_laysPieces_39 : decode cX8_laysPieces 39 = .ok (.goto 5, 3) := by decide +kernel
theorem dX8_laysPieces_42 : decode cX8_laysPieces 42 = .ok (.bipush (-4), 2) := by decide +kernel
theorem dX8_laysPieces_44 : decode cX8_laysPieces 44 = .ok (.iastore, 1) := by decide +kernel
theorem dX8_laysPieces_45 : decode cX8_laysPieces 45 = .ok (.iload_n 1, 1) := by decide +kernel
theorem dX8_laysPieces_46 : decode cX8_laysPieces 46 = .ok (.ifCond .eq 25, 3) := by decide +kernel
theorem dX8_laysPieces_49 : decode cX8_laysPieces 49 = .ok (.aload_n 0, 1) := by decide +kernel
theorem dX8_laysPieces_50 : decode cX8_laysPieces 50 = .ok (.getfield 46, 3) := by decide +kernel
theorem dX8_laysPieces_53 : decode cX8_laysPieces 53 = .ok (.iload_n 2, 1) := by decide +kernel
theorem dX8_laysPieces_54 : decode cX8_laysPieces 54 = .ok (.iaload, 1) := by decide +kernel
theorem dX8_laysPieces_55 : decode cX8_laysPieces 55 = .ok (.bipush 100, 2) := by decide +kernel
theorem dX8_laysPieces_57 : decode cX8_laysPieces 57 = .ok (.aload_n 0, 1) := by decide +kernel
theorem dX8_laysPieces_58 : decode cX8_laysPieces 58 = .ok (.getfield 13, 3) := by decide +kernel
theorem dX8_laysPieces_61 : decode cX8_laysPieces 61 = .ok (.iconst 2, 1) := by decide +kernel
theorem dX8_laysPieces_62 : decode cX8_laysPieces 62 = .ok (.iaload, 1) := by decide +kernel
theorem dX8_laysPieces_63 : decode cX8_laysPieces 63 = .ok (.imul, 1) := by decide +kernel
theorem dX8_laysPieces_64 : decode cX8_laysPieces 64 = .ok (.if_icmp .gt 7, 3) := by decide +kernel
theorem dX8_laysPieces_67 : decode cX8_laysPieces 67 = .ok (.iconst 1, 1) := by decide +kernel
theorem dX8_laysPieces_68 : decode cX8_laysPieces 68 = .ok (.goto 4, 3) := by decide +kernel
theorem dX8_laysPieces_71 : decode cX8_laysPieces 71 = .ok (.iconst 0, 1) := by decide +kernel
theorem dX8_laysPieces_72 : decode cX8_laysPieces 72 = .ok (.istore_n 1, 1) := by decide +kernel
theorem dX8_laysPieces_73 : decode cX8_laysPieces 73 = .ok (.iinc 2 1, 3) := by decide +kernel
theorem dX8_laysPieces_76 : decode cX8_laysPieces 76 = .ok (.goto (-72), 3) := by decide +kernel
theorem dX8_laysPieces_79 : decode cX8_laysPieces 79 = .ok (.iload_n 1, 1) := by decide +kernel
theorem dX8_laysPieces_80 : decode cX8_laysPieces 80 = .ok (.ireturn, 1) := by decide +kernel
theorem dX8_longest_0 : decode cX8_longest 0 = .ok (.bipush (-4), 2) := by decide +kernel
theorem dX8_longest_2 : decode cX8_longest 2 = .ok (.istore_n 1, 1) := by decide +kernel
theorem dX8_longest_3 : decode cX8_longest 3 = .ok (.iconst 0, 1) := by decide +kernel
theorem dX8_longest_4 : decode cX8_longest 4 = .ok (.istore_n 2, 1) := by decide +kernel
theorem dX8_longest_5 : decode cX8_longest 5 = .ok (.iload_n 2, 1) := by decide +kernel
theorem dX8_longest_6 : decode cX8_longest 6 = .ok (.aload_n 0, 1) := by decide +kernel
theorem dX8_longest_7 : decode cX8_longest 7 = .ok (.getfield 13, 3) := by decide +kernel
theorem dX8_longest_10 : decode cX8_longest 10 = .ok (.iconst 1, 1) := by decide +kernel
theorem dX8_longest_11 : decode cX8_longest 11 = .ok (.iaload, 1) := by decide +kernel
theorem dX8_longest_12 : decode cX8_longest 12 = .ok (.if_icmp .ge 66, 3) := by decide +kernel
theorem dX8_longest_15 : decode cX8_longest 15 = .ok (.aload_n 0, 1) := by decide +kernel
theorem dX8_longest_16 : decode cX8_longest 16 = .ok (.getfield 46, 3) := by decide +kernel
theorem dX8_longest_19 : decode cX8_longest 19 = .ok (.iload_n 2, 1) := by decide +kernel
theorem dX8_longest_20 : decode cX8_longest 20 = .ok (.iaload, 1) := by decide +kernel
theorem dX8_longest_21 : decode cX8_longest 21 = .ok (.ifCond .lt 18, 3) := by decide +kernel
theorem dX8_longest_24 : decode cX8_longest 24 = .ok (.aload_n 0, 1) := by decide +kernel
theorem dX8_longest_25 : decode cX8_longest 25 = .ok (.getfield 49, 3) := by decide +kernel
theorem dX8_longest_28 : decode cX8_longest 28 = .ok (.iload_n 2, 1) := by decide +kernel
theorem dX8_longest_29 : decode cX8_longest 29 = .ok (.iaload, 1) := by decide +kernel
theorem dX8_longest_30 : decode cX8_longest 30 = .ok (.bipush (-4), 2) := by decide +kernel
theorem dX8_longest_32 : decode cX8_longest 32 = .ok (.if_icmp .ne 7, 3) := by decide +kernel
theorem dX8_longest_35 : decode cX8_longest 35 = .ok (.iconst 1, 1) := by decide +kernel
theorem dX8_longest_36 : decode cX8_longest 36 = .ok (.goto 4, 3) := by decide +kernel
theorem dX8_longest_39 : decode cX8_longest 39 = .ok (.iconst 0, 1) := by decide +kernel
theorem dX8_longest_40 : decode cX8_longest 40 = .ok (.istore_n 3, 1) := by decide +kernel
theorem dX8_longest_41 : decode cX8_longest 41 = .ok (.iload_n 3, 1) := by decide +kernel
theorem dX8_longest_42 : decode cX8_longest 42 = .ok (.ifCond .eq 28, 3) := by decide +kernel
theorem dX8_longest_45 : decode cX8_longest 45 = .ok (.iload_n 1, 1) := by decide +kernel
theorem dX8_longest_46 : decode cX8_longest 46 = .ok (.bipush (-4), 2) := by decide +kernel
theorem dX8_longest_48 : decode cX8_longest 48 = .ok (.if_icmp .eq 18, 3) := by decide +kernel
theorem dX8_longest_51 : decode cX8_longest 51 = .ok (.aload_n 0, 1) := by decide +kernel
theorem dX8_longest_52 : decode cX8_longest 52 = .ok (.getfield 46, 3) := by decide +kernel
theorem dX8_longest_55 : decode cX8_longest 55 = .ok (.iload_n 2, 1) := by decide +kernel
theorem dX8_longest_56 : decode cX8_longest 56 = .ok (.iaload, 1) := by decide +kernel
theorem dX8_longest_57 : decode cX8_longest 57 = .ok (.aload_n 0, 1) := by decide +kernel
theorem dX8_longest_58 : decode cX8_longest 58 = .ok (.getfield 46, 3) := by decide +kernel
theorem dX8_longest_61 : decode cX8_longest 61 = .ok (.iload_n 1, 1) := by decide +kernel
theorem dX8_longest_62 : decode cX8_longest 62 = .ok (.iaload, 1) := by decide +kernel
theorem dX8_longest_63 : decode cX8_longest 63 = .ok (.if_icmp .le 7, 3) := by decide +kernel
theorem dX8_longest_66 : decode cX8_longest 66 = .ok (.iload_n 2, 1) := by decide +kernel
theorem dX8_longest_67 : decode cX8_longest 67 = .ok (.goto 4, 3) := by decide +kernel
theorem dX8_longest_70 : decode cX8_longest 70 = .ok (.iload_n 1, 1) := by decide +kernel
theorem dX8_longest_71 : decode cX8_longest 71 = .ok (.istore_n 1, 1) := by decide +kernel
theorem dX8_longest_72 : decode cX8_longest 72 = .ok (.iinc 2 1, 3) := by decide +kernel
theorem dX8_longest_75 : decode cX8_longest 75 = .ok (.goto (-70), 3) := by decide +kernel
theorem dX8_longest_78 : decode cX8_longest 78 = .ok (.iload_n 1, 1) := by decide +kernel
theorem dX8_longest_79 : decode cX8_longest 79 = .ok (.ireturn, 1) := by decide +kernel
theorem dX8_firstFit_0 : decode cX8_firstFit 0 = .ok (.aload_n 0, 1) := by decide +kernel
theorem dX8_firstFit_1 : decode cX8_firstFit 1 = .ok (.iconst 0, 1) := by decide +kernel
theorem dX8_firstFit_2 : decode cX8_firstFit 2 = .ok (.putfield 224, 3) := by decide +kernel
theorem dX8_firstFit_5 : decode cX8_firstFit 5 = .ok (.iconst 0, 1) := by decide +kernel
theorem dX8_firstFit_6 : decode cX8_firstFit 6 = .ok (.istore_n 1, 1) := by decide +kernel
theorem dX8_firstFit_7 : decode cX8_firstFit 7 = .ok (.iload_n 1, 1) := by decide +kernel
theorem dX8_firstFit_8 : decode cX8_firstFit 8 = .ok (.bipush 14, 2) := by decide +kernel
theorem dX8_firstFit_10 : decode cX8_firstFit 10 = .ok (.if_icmp .ge 32, 3) := by decide +kernel
theorem dX8_firstFit_13 : decode cX8_firstFit 13 = .ok (.aload_n 0, 1) := by decide +kernel
theorem dX8_firstFit_14 : decode cX8_firstFit 14 = .ok (.getfield 49, 3) := by decide +kernel
theorem dX8_firstFit_17 : decode cX8_firstFit 17 = .ok (.iload_n 1, 1) := by decide +kernel
theorem dX8_firstFit_18 : decode cX8_firstFit 18 = .ok (.bipush (-4), 2) := by decide +kernel
theorem dX8_firstFit_20 : decode cX8_firstFit 20 = .ok (.iastore, 1) := by decide +kernel
theorem dX8_firstFit_21 : decode cX8_firstFit 21 = .ok (.aload_n 0, 1) := by decide +kernel
theorem dX8_firstFit_22 : decode cX8_firstFit 22 = .ok (.getfield 52, 3) := by decide +kernel
theorem dX8_firstFit_25 : decode cX8_firstFit 25 = .ok (.iload_n 1, 1) := by decide +kernel
theorem dX8_firstFit_26 : decode cX8_firstFit 26 = .ok (.bipush 100, 2) := by decide +kernel
theorem dX8_firstFit_28 : decode cX8_firstFit 28 = .ok (.aload_n 0, 1) := by decide +kernel
theorem dX8_firstFit_29 : decode cX8_firstFit 29 = .ok (.getfield 13, 3) := by decide +kernel
theorem dX8_firstFit_32 : decode cX8_firstFit 32 = .ok (.iconst 2, 1) := by decide +kernel
theorem dX8_firstFit_33 : decode cX8_firstFit 33 = .ok (.iaload, 1) := by decide +kernel
theorem dX8_firstFit_34 : decode cX8_firstFit 34 = .ok (.imul, 1) := by decide +kernel
theorem dX8_firstFit_35 : decode cX8_firstFit 35 = .ok (.iastore, 1) := by decide +kernel
theorem dX8_firstFit_36 : decode cX8_firstFit 36 = .ok (.iinc 1 1, 3) := by decide +kernel
theorem dX8_firstFit_39 : decode cX8_firstFit 39 = .ok (.goto (-32), 3) := by decide +kernel
theorem dX8_firstFit_42 : decode cX8_firstFit 42 = .ok (.aload_n 0, 1) := by decide +kernel
theorem dX8_firstFit_43 : decode cX8_firstFit 43 = .ok (.invokevirtual 227, 3) := by decide +kernel
theorem dX8_firstFit_46 : decode cX8_firstFit 46 = .ok (.istore_n 1, 1) := by decide +kernel
theorem dX8_firstFit_47 : decode cX8_firstFit 47 = .ok (.iload_n 1, 1) := by decide +kernel
theorem dX8_firstFit_48 : decode cX8_firstFit 48 = .ok (.bipush (-4), 2) := by decide +kernel
theorem dX8_firstFit_50 : decode cX8_firstFit 50 = .ok (.if_icmp .eq 80, 3) := by decide +kernel
theorem dX8_firstFit_53 : decode cX8_firstFit 53 = .ok (.iconst 0, 1) := by decide +kernel
theorem dX8_firstFit_54 : decode cX8_firstFit 54 = .ok (.istore_n 2, 1) := by decide +kernel
theorem dX8_firstFit_55 : decode cX8_firstFit 55 = .ok (.aload_n 0, 1) := by decide +kernel
theorem dX8_firstFit_56 : decode cX8_firstFit 56 = .ok (.getfield 52, 3) := by decide +kernel
theorem dX8_firstFit_59 : decode cX8_firstFit 59 = .ok (.iload_n 2, 1) := by decide +kernel
theorem dX8_firstFit_60 : decode cX8_firstFit 60 = .ok (.iaload, 1) := by decide +kernel
theorem dX8_firstFit_61 : decode cX8_firstFit 61 = .ok (.aload_n 0, 1) := by decide +kernel
theorem dX8_firstFit_62 : decode cX8_firstFit 62 = .ok (.getfield 46, 3) := by decide +kernel
theorem dX8_firstFit_65 : decode cX8_firstFit 65 = .ok (.iload_n 1, 1) := by decide +kernel
theorem dX8_firstFit_66 : decode cX8_firstFit 66 = .ok (.iaload, 1) := by decide +kernel
theorem dX8_firstFit_67 : decode cX8_firstFit 67 = .ok (.if_icmp .ge 9, 3) := by decide +kernel
theorem dX8_firstFit_70 : decode cX8_firstFit 70 = .ok (.iinc 2 1, 3) := by decide +kernel
theorem dX8_firstFit_73 : decode cX8_firstFit 73 = .ok (.goto (-18), 3) := by decide +kernel
theorem dX8_firstFit_76 : decode cX8_firstFit 76 = .ok (.aload_n 0, 1) := by decide +kernel
theorem dX8_firstFit_77 : decode cX8_firstFit 77 = .ok (.getfield 52, 3) := by decide +kernel
theorem dX8_firstFit_80 : decode cX8_firstFit 80 = .ok (.iload_n 2, 1) := by decide +kernel
theorem dX8_firstFit_81 : decode cX8_firstFit 81 = .ok (.dup2, 1) := by decide +kernel
theorem dX8_firstFit_82 : decode cX8_firstFit 82 = .ok (.iaload, 1) := by decide +kernel
theorem dX8_firstFit_83 : decode cX8_firstFit 83 = .ok (.aload_n 0, 1) := by decide +kernel
theorem dX8_firstFit_84 : decode cX8_firstFit 84 = .ok (.getfield 46, 3) := by decide +kernel
theorem dX8_firstFit_87 : decode cX8_firstFit 87 = .ok (.iload_n 1, 1) := by decide +kernel
theorem dX8_firstFit_88 : decode cX8_firstFit 88 = .ok (.iaload, 1) := by decide +kernel
theorem dX8_firstFit_89 : decode cX8_firstFit 89 = .ok (.isub, 1) := by decide +kernel
theorem dX8_firstFit_90 : decode cX8_firstFit 90 = .ok (.iastore, 1) := by decide +kernel
theorem dX8_firstFit_91 : decode cX8_firstFit 91 = .ok (.aload_n 0, 1) := by decide +kernel
theorem dX8_firstFit_92 : decode cX8_firstFit 92 = .ok (.getfield 49, 3) := by decide +kernel
theorem dX8_firstFit_95 : decode cX8_firstFit 95 = .ok (.iload_n 1, 1) := by decide +kernel
theorem dX8_firstFit_96 : decode cX8_firstFit 96 = .ok (.iload_n 2, 1) := by decide +kernel
theorem dX8_firstFit_97 : decode cX8_firstFit 97 = .ok (.iastore, 1) := by decide +kernel
theorem dX8_firstFit_98 : decode cX8_firstFit 98 = .ok (.aload_n 0, 1) := by decide +kernel
theorem dX8_firstFit_99 : decode cX8_firstFit 99 = .ok (.iload_n 2, 1) := by decide +kernel
theorem dX8_firstFit_100 : decode cX8_firstFit 100 = .ok (.iconst 1, 1) := by decide +kernel
theorem dX8_firstFit_101 : decode cX8_firstFit 101 = .ok (.iadd, 1) := by decide +kernel
theorem dX8_firstFit_102 : decode cX8_firstFit 102 = .ok (.aload_n 0, 1) := by decide +kernel
theorem dX8_firstFit_103 : decode cX8_firstFit 103 = .ok (.getfield 224, 3) := by decide +kernel
theorem dX8_firstFit_106 : decode cX8_firstFit 106 = .ok (.if_icmp .le 9, 3) := by decide +kernel
theorem dX8_firstFit_109 : decode cX8_firstFit 109 = .ok (.iload_n 2, 1) := by decide +kernel
theorem dX8_firstFit_110 : decode cX8_firstFit 110 = .ok (.iconst 1, 1) := by decide +kernel
theorem dX8_firstFit_111 : decode cX8_firstFit 111 = .ok (.iadd, 1) := by decide +kernel
theorem dX8_firstFit_112 : decode cX8_firstFit 112 = .ok (.goto 7, 3) := by decide +kernel
theorem dX8_firstFit_115 : decode cX8_firstFit 115 = .ok (.aload_n 0, 1) := by decide +kernel
theorem dX8_firstFit_116 : decode cX8_firstFit 116 = .ok (.getfield 224, 3) := by decide +kernel
theorem dX8_firstFit_119 : decode cX8_firstFit 119 = .ok (.putfield 224, 3) := by decide +kernel
theorem dX8_firstFit_122 : decode cX8_firstFit 122 = .ok (.aload_n 0, 1) := by decide +kernel
theorem dX8_firstFit_123 : decode cX8_firstFit 123 = .ok (.invokevirtual 227, 3) := by decide +kernel
theorem dX8_firstFit_126 : decode cX8_firstFit 126 = .ok (.istore_n 1, 1) := by decide +kernel
theorem dX8_firstFit_127 : decode cX8_firstFit 127 = .ok (.goto (-80), 3) := by decide +kernel
theorem dX8_firstFit_130 : decode cX8_firstFit 130 = .ok (.return_, 1) := by decide +kernel
theorem dX8_fewestRolls_0 : decode cX8_fewestRolls 0 = .ok (.iconst 0, 1) := by decide +kernel
theorem dX8_fewestRolls_1 : decode cX8_fewestRolls 1 = .ok (.istore_n 1, 1) := by decide +kernel
theorem dX8_fewestRolls_2 : decode cX8_fewestRolls 2 = .ok (.iconst 0, 1) := by decide +kernel
theorem dX8_fewestRolls_3 : decode cX8_fewestRolls 3 = .ok (.istore_n 2, 1) := by decide +kernel
theorem dX8_fewestRolls_4 : decode cX8_fewestRolls 4 = .ok (.iload_n 2, 1) := by decide +kernel
theorem dX8_fewestRolls_5 : decode cX8_fewestRolls 5 = .ok (.aload_n 0, 1) := by decide +kernel
theorem dX8_fewestRolls_6 : decode cX8_fewestRolls 6 = .ok (.getfield 13, 3) := by decide +kernel
theorem dX8_fewestRolls_9 : decode cX8_fewestRolls 9 = .ok (.iconst 1, 1) := by decide +kernel
theorem dX8_fewestRolls_10 : decode cX8_fewestRolls 10 = .ok (.iaload, 1) := by decide +kernel
theorem dX8_fewestRolls_11 : decode cX8_fewestRolls 11 = .ok (.if_icmp .ge 28, 3) := by decide +kernel
theorem dX8_fewestRolls_14 : decode cX8_fewestRolls 14 = .ok (.iload_n 1, 1) := by decide +kernel
theorem dX8_fewestRolls_15 : decode cX8_fewestRolls 15 = .ok (.aload_n 0, 1) := by decide +kernel
theorem dX8_fewestRolls_16 : decode cX8_fewestRolls 16 = .ok (.getfield 46, 3) := by decide +kernel
theorem dX8_fewestRolls_19 : decode cX8_fewestRolls 19 = .ok (.iload_n 2, 1) := by decide +kernel
theorem dX8_fewestRolls_20 : decode cX8_fewestRolls 20 = .ok (.iaload, 1) := by decide +kernel
theorem dX8_fewestRolls_21 : decode cX8_fewestRolls 21 = .ok (.ifCond .lt 9, 3) := by decide +kernel
theorem dX8_fewestRolls_24 : decode cX8_fewestRolls 24 = .ok (.iconst 1, 1) := by decide +kernel
theorem dX8_fewestRolls_25 : decode cX8_fewestRolls 25 = .ok (.iload_n 2, 1) := by decide +kernel
theorem dX8_fewestRolls_26 : decode cX8_fewestRolls 26 = .ok (.ishl, 1) := by decide +kernel
theorem dX8_fewestRolls_27 : decode cX8_fewestRolls 27 = .ok (.goto 4, 3) := by decide +kernel
theorem dX8_fewestRolls_30 : decode cX8_fewestRolls 30 = .ok (.iconst 0, 1) := by decide +kernel
theorem dX8_fewestRolls_31 : decode cX8_fewestRolls 31 = .ok (.ior, 1) := by decide +kernel
theorem dX8_fewestRolls_32 : decode cX8_fewestRolls 32 = .ok (.istore_n 1, 1) := by decide +kernel
theorem dX8_fewestRolls_33 : decode cX8_fewestRolls 33 = .ok (.iinc 2 1, 3) := by decide +kernel
theorem dX8_fewestRolls_36 : decode cX8_fewestRolls 36 = .ok (.goto (-32), 3) := by decide +kernel
theorem dX8_fewestRolls_39 : decode cX8_fewestRolls 39 = .ok (.aload_n 0, 1) := by decide +kernel
theorem dX8_fewestRolls_40 : decode cX8_fewestRolls 40 = .ok (.getfield 55, 3) := by decide +kernel
theorem dX8_fewestRolls_43 : decode cX8_fewestRolls 43 = .ok (.iconst 0, 1) := by decide +kernel
theorem dX8_fewestRolls_44 : decode cX8_fewestRolls 44 = .ok (.iconst 0, 1) := by decide +kernel
theorem dX8_fewestRolls_45 : decode cX8_fewestRolls 45 = .ok (.iastore, 1) := by decide +kernel
theorem dX8_fewestRolls_46 : decode cX8_fewestRolls 46 = .ok (.aload_n 0, 1) := by decide +kernel
theorem dX8_fewestRolls_47 : decode cX8_fewestRolls 47 = .ok (.getfield 58, 3) := by decide +kernel
theorem dX8_fewestRolls_50 : decode cX8_fewestRolls 50 = .ok (.iconst 0, 1) := by decide +kernel
theorem dX8_fewestRolls_51 : decode cX8_fewestRolls 51 = .ok (.bipush 100, 2) := by decide +kernel
theorem dX8_fewestRolls_53 : decode cX8_fewestRolls 53 = .ok (.aload_n 0, 1) := by decide +kernel
theorem dX8_fewestRolls_54 : decode cX8_fewestRolls 54 = .ok (.getfield 13, 3) := by decide +kernel
theorem dX8_fewestRolls_57 : decode cX8_fewestRolls 57 = .ok (.iconst 2, 1) := by decide +kernel
theorem dX8_fewestRolls_58 : decode cX8_fewestRolls 58 = .ok (.iaload, 1) := by decide +kernel
theorem dX8_fewestRolls_59 : decode cX8_fewestRolls 59 = .ok (.imul, 1) := by decide +kernel
theorem dX8_fewestRolls_60 : decode cX8_fewestRolls 60 = .ok (.iastore, 1) := by decide +kernel
theorem dX8_fewestRolls_61 : decode cX8_fewestRolls 61 = .ok (.iconst 1, 1) := by decide +kernel
theorem dX8_fewestRolls_62 : decode cX8_fewestRolls 62 = .ok (.istore_n 2, 1) := by decide +kernel
theorem dX8_fewestRolls_63 : decode cX8_fewestRolls 63 = .ok (.iload_n 2, 1) := by decide +kernel
theorem dX8_fewestRolls_64 : decode cX8_fewestRolls 64 = .ok (.iload_n 1, 1) := by decide +kernel
theorem dX8_fewestRolls_65 : decode cX8_fewestRolls 65 = .ok (.if_icmp .gt 77, 3) := by decide +kernel
theorem dX8_fewestRolls_68 : decode cX8_fewestRolls 68 = .ok (.iload_n 2, 1) := by decide +kernel
theorem dX8_fewestRolls_69 : decode cX8_fewestRolls 69 = .ok (.iload_n 1, 1) := by decide +kernel
theorem dX8_fewestRolls_70 : decode cX8_fewestRolls 70 = .ok (.iconst (-1), 1) := by decide +kernel
theorem dX8_fewestRolls_71 : decode cX8_fewestRolls 71 = .ok (.ixor, 1) := by decide +kernel
theorem dX8_fewestRolls_72 : decode cX8_fewestRolls 72 = .ok (.iand, 1) := by decide +kernel
theorem dX8_fewestRolls_73 : decode cX8_fewestRolls 73 = .ok (.ifCond .ne 63, 3) := by decide +kernel
theorem dX8_fewestRolls_76 : decode cX8_fewestRolls 76 = .ok (.aload_n 0, 1) := by decide +kernel
theorem dX8_fewestRolls_77 : decode cX8_fewestRolls 77 = .ok (.getfield 55, 3) := by decide +kernel
theorem dX8_fewestRolls_80 : decode cX8_fewestRolls 80 = .ok (.iload_n 2, 1) := by decide +kernel
theorem dX8_fewestRolls_81 : decode cX8_fewestRolls 81 = .ok (.bipush 99, 2) := by decide +kernel
theorem dX8_fewestRolls_83 : decode cX8_fewestRolls 83 = .ok (.iastore, 1) := by decide +kernel
theorem dX8_fewestRolls_84 : decode cX8_fewestRolls 84 = .ok (.aload_n 0, 1) := by decide +kernel
theorem dX8_fewestRolls_85 : decode cX8_fewestRolls 85 = .ok (.getfield 58, 3) := by decide +kernel
theorem dX8_fewestRolls_88 : decode cX8_fewestRolls 88 = .ok (.iload_n 2, 1) := by decide +kernel
theorem dX8_fewestRolls_89 : decode cX8_fewestRolls 89 = .ok (.iconst 0, 1) := by decide +kernel
theorem dX8_fewestRolls_90 : decode cX8_fewestRolls 90 = .ok (.iastore, 1) := by decide +kernel
theorem dX8_fewestRolls_91 : decode cX8_fewestRolls 91 = .ok (.iconst 0, 1) := by decide +kernel
theorem dX8_fewestRolls_92 : decode cX8_fewestRolls 92 = .ok (.istore_n 3, 1) := by decide +kernel
theorem dX8_fewestRolls_93 : decode cX8_fewestRolls 93 = .ok (.iload_n 3, 1) := by decide +kernel
theorem dX8_fewestRolls_94 : decode cX8_fewestRolls 94 = .ok (.aload_n 0, 1) := by decide +kernel
theorem dX8_fewestRolls_95 : decode cX8_fewestRolls 95 = .ok (.getfield 13, 3) := by decide +kernel
theorem dX8_fewestRolls_98 : decode cX8_fewestRolls 98 = .ok (.iconst 1, 1) := by decide +kernel
theorem dX8_fewestRolls_99 : decode cX8_fewestRolls 99 = .ok (.iaload, 1) := by decide +kernel
theorem dX8_fewestRolls_100 : decode cX8_fewestRolls 100 = .ok (.if_icmp .ge 36, 3) := by decide +kernel
theorem dX8_fewestRolls_103 : decode cX8_fewestRolls 103 = .ok (.iload_n 2, 1) := by decide +kernel
theorem dX8_fewestRolls_104 : decode cX8_fewestRolls 104 = .ok (.iload_n 3, 1) := by decide +kernel
theorem dX8_fewestRolls_105 : decode cX8_fewestRolls 105 = .ok (.ishr, 1) := by decide +kernel
theorem dX8_fewestRolls_106 : decode cX8_fewestRolls 106 = .ok (.iconst 1, 1) := by decide +kernel
theorem dX8_fewestRolls_107 : decode cX8_fewestRolls 107 = .ok (.iand, 1) := by decide +kernel
theorem dX8_fewestRolls_108 : decode cX8_fewestRolls 108 = .ok (.iconst 1, 1) := by decide +kernel
theorem dX8_fewestRolls_109 : decode cX8_fewestRolls 109 = .ok (.if_icmp .ne 21, 3) := by decide +kernel
theorem dX8_fewestRolls_112 : decode cX8_fewestRolls 112 = .ok (.aload_n 0, 1) := by decide +kernel
theorem dX8_fewestRolls_113 : decode cX8_fewestRolls 113 = .ok (.iload_n 2, 1) := by decide +kernel
theorem dX8_fewestRolls_114 : decode cX8_fewestRolls 114 = .ok (.iload_n 2, 1) := by decide +kernel
theorem dX8_fewestRolls_115 : decode cX8_fewestRolls 115 = .ok (.iconst 1, 1) := by decide +kernel
theorem dX8_fewestRolls_116 : decode cX8_fewestRolls 116 = .ok (.iload_n 3, 1) := by decide +kernel
theorem dX8_fewestRolls_117 : decode cX8_fewestRolls 117 = .ok (.ishl, 1) := by decide +kernel
theorem dX8_fewestRolls_118 : decode cX8_fewestRolls 118 = .ok (.iconst (-1), 1) := by decide +kernel
theorem dX8_fewestRolls_119 : decode cX8_fewestRolls 119 = .ok (.ixor, 1) := by decide +kernel
theorem dX8_fewestRolls_120 : decode cX8_fewestRolls 120 = .ok (.iand, 1) := by decide +kernel
theorem dX8_fewestRolls_121 : decode cX8_fewestRolls 121 = .ok (.aload_n 0, 1) := by decide +kernel
theorem dX8_fewestRolls_122 : decode cX8_fewestRolls 122 = .ok (.getfield 46, 3) := by decide +kernel
theorem dX8_fewestRolls_125 : decode cX8_fewestRolls 125 = .ok (.iload_n 3, 1) := by decide +kernel
theorem dX8_fewestRolls_126 : decode cX8_fewestRolls 126 = .ok (.iaload, 1) := by decide +kernel
theorem dX8_fewestRolls_127 : decode cX8_fewestRolls 127 = .ok (.invokevirtual 230, 3) := by decide +kernel
theorem dX8_fewestRolls_130 : decode cX8_fewestRolls 130 = .ok (.iinc 3 1, 3) := by decide +kernel
theorem dX8_fewestRolls_133 : decode cX8_fewestRolls 133 = .ok (.goto (-40), 3) := by decide +kernel
theorem dX8_fewestRolls_136 : decode cX8_fewestRolls 136 = .ok (.iinc 2 1, 3) := by decide +kernel
theorem dX8_fewestRolls_139 : decode cX8_fewestRolls 139 = .ok (.goto (-76), 3) := by decide +kernel
theorem dX8_fewestRolls_142 : decode cX8_fewestRolls 142 = .ok (.aload_n 0, 1) := by decide +kernel
theorem dX8_fewestRolls_143 : decode cX8_fewestRolls 143 = .ok (.getfield 55, 3) := by decide +kernel
theorem dX8_fewestRolls_146 : decode cX8_fewestRolls 146 = .ok (.iload_n 1, 1) := by decide +kernel
theorem dX8_fewestRolls_147 : decode cX8_fewestRolls 147 = .ok (.iaload, 1) := by decide +kernel
theorem dX8_fewestRolls_148 : decode cX8_fewestRolls 148 = .ok (.ireturn, 1) := by decide +kernel
theorem dX8_joins_0 : decode cX8_joins 0 = .ok (.iload_n 2, 1) := by decide +kernel
theorem dX8_joins_1 : decode cX8_joins 1 = .ok (.ifCond .eq 27, 3) := by decide +kernel
theorem dX8_joins_4 : decode cX8_joins 4 = .ok (.aload_n 0, 1) := by decide +kernel
theorem dX8_joins_5 : decode cX8_joins 5 = .ok (.getfield 58, 3) := by decide +kernel
theorem dX8_joins_8 : decode cX8_joins 8 = .ok (.iload_n 2, 1) := by decide +kernel
theorem dX8_joins_9 : decode cX8_joins 9 = .ok (.iaload, 1) := by decide +kernel
theorem dX8_joins_10 : decode cX8_joins 10 = .ok (.iload_n 3, 1) := by decide +kernel
theorem dX8_joins_11 : decode cX8_joins 11 = .ok (.iadd, 1) := by decide +kernel
theorem dX8_joins_12 : decode cX8_joins 12 = .ok (.bipush 100, 2) := by decide +kernel
theorem dX8_joins_14 : decode cX8_joins 14 = .ok (.aload_n 0, 1) := by decide +kernel
theorem dX8_joins_15 : decode cX8_joins 15 = .ok (.getfield 13, 3) := by decide +kernel
theorem dX8_joins_18 : decode cX8_joins 18 = .ok (.iconst 2, 1) := by decide +kernel
theorem dX8_joins_19 : decode cX8_joins 19 = .ok (.iaload, 1) := by decide +kernel
theorem dX8_joins_20 : decode cX8_joins 20 = .ok (.imul, 1) := by decide +kernel
theorem dX8_joins_21 : decode cX8_joins 21 = .ok (.if_icmp .gt 7, 3) := by decide +kernel
theorem dX8_joins_24 : decode cX8_joins 24 = .ok (.iconst 1, 1) := by decide +kernel
theorem dX8_joins_25 : decode cX8_joins 25 = .ok (.goto 4, 3) := by decide +kernel
theorem dX8_joins_28 : decode cX8_joins 28 = .ok (.iconst 0, 1) := by decide +kernel
theorem dX8_joins_29 : decode cX8_joins 29 = .ok (.istore 4, 2) := by decide +kernel
theorem dX8_joins_31 : decode cX8_joins 31 = .ok (.iload 4, 2) := by decide +kernel
theorem dX8_joins_33 : decode cX8_joins 33 = .ok (.ifCond .eq 12, 3) := by decide +kernel
theorem dX8_joins_36 : decode cX8_joins 36 = .ok (.aload_n 0, 1) := by decide +kernel
theorem dX8_joins_37 : decode cX8_joins 37 = .ok (.getfield 55, 3) := by decide +kernel
theorem dX8_joins_40 : decode cX8_joins 40 = .ok (.iload_n 2, 1) := by decide +kernel
theorem dX8_joins_41 : decode cX8_joins 41 = .ok (.iaload, 1) := by decide +kernel
theorem dX8_joins_42 : decode cX8_joins 42 = .ok (.goto 11, 3) := by decide +kernel
theorem dX8_joins_45 : decode cX8_joins 45 = .ok (.aload_n 0, 1) := by decide +kernel
theorem dX8_joins_46 : decode cX8_joins 46 = .ok (.getfield 55, 3) := by decide +kernel
theorem dX8_joins_49 : decode cX8_joins 49 = .ok (.iload_n 2, 1) := by decide +kernel
theorem dX8_joins_50 : decode cX8_joins 50 = .ok (.iaload, 1) := by decide +kernel
theorem dX8_joins_51 : decode cX8_joins 51 = .ok (.iconst 1, 1) := by decide +kernel
theorem dX8_joins_52 : decode cX8_joins 52 = .ok (.iadd, 1) := by decide +kernel
theorem dX8_joins_53 : decode cX8_joins 53 = .ok (.istore 5, 2) := by decide +kernel
theorem dX8_joins_55 : decode cX8_joins 55 = .ok (.iload 4, 2) := by decide +kernel
theorem dX8_joins_57 : decode cX8_joins 57 = .ok (.ifCond .eq 14, 3) := by decide +kernel
theorem dX8_joins_60 : decode cX8_joins 60 = .ok (.aload_n 0, 1) := by decide +kernel
theorem dX8_joins_61 : decode cX8_joins 61 = .ok (.getfield 58, 3) := by decide +kernel
theorem dX8_joins_64 : decode cX8_joins 64 = .ok (.iload_n 2, 1) := by decide +kernel
theorem dX8_joins_65 : decode cX8_joins 65 = .ok (.iaload, 1) := by decide +kernel
theorem dX8_joins_66 : decode cX8_joins 66 = .ok (.iload_n 3, 1) := by decide +kernel
theorem dX8_joins_67 : decode cX8_joins 67 = .ok (.iadd, 1) := by decide +kernel
theorem dX8_joins_68 : decode cX8_joins 68 = .ok (.goto 4, 3) := by decide +kernel
theorem dX8_joins_71 : decode cX8_joins 71 = .ok (.iload_n 3, 1) := by decide +kernel
theorem dX8_joins_72 : decode cX8_joins 72 = .ok (.istore 6, 2) := by decide +kernel
theorem dX8_joins_74 : decode cX8_joins 74 = .ok (.iload 5, 2) := by decide +kernel
theorem dX8_joins_76 : decode cX8_joins 76 = .ok (.aload_n 0, 1) := by decide +kernel
theorem dX8_joins_77 : decode cX8_joins 77 = .ok (.getfield 55, 3) := by decide +kernel
theorem dX8_joins_80 : decode cX8_joins 80 = .ok (.iload_n 1, 1) := by decide +kernel
theorem dX8_joins_81 : decode cX8_joins 81 = .ok (.iaload, 1) := by decide +kernel
theorem dX8_joins_82 : decode cX8_joins 82 = .ok (.if_icmp .lt 25, 3) := by decide +kernel
theorem dX8_joins_85 : decode cX8_joins 85 = .ok (.iload 5, 2) := by decide +kernel
theorem dX8_joins_87 : decode cX8_joins 87 = .ok (.aload_n 0, 1) := by decide +kernel
theorem dX8_joins_88 : decode cX8_joins 88 = .ok (.getfield 55, 3) := by decide +kernel
theorem dX8_joins_91 : decode cX8_joins 91 = .ok (.iload_n 1, 1) := by decide +kernel
theorem dX8_joins_92 : decode cX8_joins 92 = .ok (.iaload, 1) := by decide +kernel
theorem dX8_joins_93 : decode cX8_joins 93 = .ok (.if_icmp .ne 30, 3) := by decide +kernel
theorem dX8_joins_96 : decode cX8_joins 96 = .ok (.iload 6, 2) := by decide +kernel
theorem dX8_joins_98 : decode cX8_joins 98 = .ok (.aload_n 0, 1) := by decide +kernel
theorem dX8_joins_99 : decode cX8_joins 99 = .ok (.getfield 58, 3) := by decide +kernel
theorem dX8_joins_102 : decode cX8_joins 102 = .ok (.iload_n 1, 1) := by decide +kernel
theorem dX8_joins_103 : decode cX8_joins 103 = .ok (.iaload, 1) := by decide +kernel
theorem dX8_joins_104 : decode cX8_joins 104 = .ok (.if_icmp .ge 19, 3) := by decide +kernel
theorem dX8_joins_107 : decode cX8_joins 107 = .ok (.aload_n 0, 1) := by decide +kernel
theorem dX8_joins_108 : decode cX8_joins 108 = .ok (.getfield 55, 3) := by decide +kernel
theorem dX8_joins_111 : decode cX8_joins 111 = .ok (.iload_n 1, 1) := by decide +kernel
theorem dX8_joins_112 : decode cX8_joins 112 = .ok (.iload 5, 2) := by decide +kernel
theorem dX8_joins_114 : decode cX8_joins 114 = .ok (.iastore, 1) := by decide +kernel
theorem dX8_joins_115 : decode cX8_joins 115 = .ok (.aload_n 0, 1) := by decide +kernel
theorem dX8_joins_116 : decode cX8_joins 116 = .ok (.getfield 58, 3) := by decide +kernel
theorem dX8_joins_119 : decode cX8_joins 119 = .ok (.iload_n 1, 1) := by decide +kernel
theorem dX8_joins_120 : decode cX8_joins 120 = .ok (.iload 6, 2) := by decide +kernel
theorem dX8_joins_122 : decode cX8_joins 122 = .ok (.iastore, 1) := by decide +kernel
theorem dX8_joins_123 : decode cX8_joins 123 = .ok (.return_, 1) := by decide +kernel
theorem dX8_rolls_0 : decode cX8_rolls 0 = .ok (.aload_n 0, 1) := by decide +kernel
theorem dX8_rolls_1 : decode cX8_rolls 1 = .ok (.iconst 0, 1) := by decide +kernel
theorem dX8_rolls_2 : decode cX8_rolls 2 = .ok (.putfield 69, 3) := by decide +kernel
theorem dX8_rolls_5 : decode cX8_rolls 5 = .ok (.iload_n 1, 1) := by decide +kernel
theorem dX8_rolls_6 : decode cX8_rolls 6 = .ok (.iconst 0, 1) := by decide +kernel
theorem dX8_rolls_7 : decode cX8_rolls 7 = .ok (.iconst 2, 1) := by decide +kernel
theorem dX8_rolls_8 : decode cX8_rolls 8 = .ok (.invokestatic 73, 3) := by decide +kernel
theorem dX8_rolls_11 : decode cX8_rolls 11 = .ok (.ifCond .ne 5, 3) := by decide +kernel
theorem dX8_rolls_14 : decode cX8_rolls 14 = .ok (.iconst (-1), 1) := by decide +kernel
theorem dX8_rolls_15 : decode cX8_rolls 15 = .ok (.ireturn, 1) := by decide +kernel
theorem dX8_rolls_16 : decode cX8_rolls 16 = .ok (.aload_n 0, 1) := by decide +kernel
theorem dX8_rolls_17 : decode cX8_rolls 17 = .ok (.invokevirtual 202, 3) := by decide +kernel
theorem dX8_rolls_20 : decode cX8_rolls 20 = .ok (.ifCond .ne 6, 3) := by decide +kernel
theorem dX8_rolls_23 : decode cX8_rolls 23 = .ok (.bipush (-2), 2) := by decide +kernel
theorem dX8_rolls_25 : decode cX8_rolls 25 = .ok (.ireturn, 1) := by decide +kernel
theorem dX8_rolls_26 : decode cX8_rolls 26 = .ok (.aload_n 0, 1) := by decide +kernel
theorem dX8_rolls_27 : decode cX8_rolls 27 = .ok (.invokevirtual 234, 3) := by decide +kernel
theorem dX8_rolls_30 : decode cX8_rolls 30 = .ok (.ifCond .ne 6, 3) := by decide +kernel
theorem dX8_rolls_33 : decode cX8_rolls 33 = .ok (.bipush (-4), 2) := by decide +kernel
theorem dX8_rolls_35 : decode cX8_rolls 35 = .ok (.ireturn, 1) := by decide +kernel
theorem dX8_rolls_36 : decode cX8_rolls 36 = .ok (.iload_n 1, 1) := by decide +kernel
theorem dX8_rolls_37 : decode cX8_rolls 37 = .ok (.iconst 1, 1) := by decide +kernel
theorem dX8_rolls_38 : decode cX8_rolls 38 = .ok (.if_icmp .ne 8, 3) := by decide +kernel
theorem dX8_rolls_41 : decode cX8_rolls 41 = .ok (.aload_n 0, 1) := by decide +kernel
theorem dX8_rolls_42 : decode cX8_rolls 42 = .ok (.invokevirtual 237, 3) := by decide +kernel
theorem dX8_rolls_45 : decode cX8_rolls 45 = .ok (.ireturn, 1) := by decide +kernel
theorem dX8_rolls_46 : decode cX8_rolls 46 = .ok (.aload_n 0, 1) := by decide +kernel
theorem dX8_rolls_47 : decode cX8_rolls 47 = .ok (.invokevirtual 240, 3) := by decide +kernel
theorem dX8_rolls_50 : decode cX8_rolls 50 = .ok (.iconst 0, 1) := by decide +kernel
theorem dX8_rolls_51 : decode cX8_rolls 51 = .ok (.istore_n 2, 1) := by decide +kernel
theorem dX8_rolls_52 : decode cX8_rolls 52 = .ok (.iconst 0, 1) := by decide +kernel
theorem dX8_rolls_53 : decode cX8_rolls 53 = .ok (.istore_n 3, 1) := by decide +kernel
theorem dX8_rolls_54 : decode cX8_rolls 54 = .ok (.iload_n 3, 1) := by decide +kernel
theorem dX8_rolls_55 : decode cX8_rolls 55 = .ok (.aload_n 0, 1) := by decide +kernel
theorem dX8_rolls_56 : decode cX8_rolls 56 = .ok (.getfield 224, 3) := by decide +kernel
theorem dX8_rolls_59 : decode cX8_rolls 59 = .ok (.if_icmp .ge 18, 3) := by decide +kernel
theorem dX8_rolls_62 : decode cX8_rolls 62 = .ok (.iload_n 2, 1) := by decide +kernel
theorem dX8_rolls_63 : decode cX8_rolls 63 = .ok (.aload_n 0, 1) := by decide +kernel
theorem dX8_rolls_64 : decode cX8_rolls 64 = .ok (.getfield 52, 3) := by decide +kernel
theorem dX8_rolls_67 : decode cX8_rolls 67 = .ok (.iload_n 3, 1) := by decide +kernel
theorem dX8_rolls_68 : decode cX8_rolls 68 = .ok (.iaload, 1) := by decide +kernel
theorem dX8_rolls_69 : decode cX8_rolls 69 = .ok (.iadd, 1) := by decide +kernel
theorem dX8_rolls_70 : decode cX8_rolls 70 = .ok (.istore_n 2, 1) := by decide +kernel
theorem dX8_rolls_71 : decode cX8_rolls 71 = .ok (.iinc 3 1, 3) := by decide +kernel
theorem dX8_rolls_74 : decode cX8_rolls 74 = .ok (.goto (-20), 3) := by decide +kernel
theorem dX8_rolls_77 : decode cX8_rolls 77 = .ok (.iload_n 1, 1) := by decide +kernel
theorem dX8_rolls_78 : decode cX8_rolls 78 = .ok (.ifCond .ne 10, 3) := by decide +kernel
theorem dX8_rolls_81 : decode cX8_rolls 81 = .ok (.aload_n 0, 1) := by decide +kernel
theorem dX8_rolls_82 : decode cX8_rolls 82 = .ok (.getfield 224, 3) := by decide +kernel
theorem dX8_rolls_85 : decode cX8_rolls 85 = .ok (.goto 4, 3) := by decide +kernel
theorem dX8_rolls_88 : decode cX8_rolls 88 = .ok (.iload_n 2, 1) := by decide +kernel
theorem dX8_rolls_89 : decode cX8_rolls 89 = .ok (.ireturn, 1) := by decide +kernel
theorem dX8_rollOf_0 : decode cX8_rollOf 0 = .ok (.aload_n 0, 1) := by decide +kernel
theorem dX8_rollOf_1 : decode cX8_rollOf 1 = .ok (.iconst 0, 1) := by decide +kernel
theorem dX8_rollOf_2 : decode cX8_rollOf 2 = .ok (.putfield 69, 3) := by decide +kernel
theorem dX8_rollOf_5 : decode cX8_rollOf 5 = .ok (.aload_n 0, 1) := by decide +kernel
theorem dX8_rollOf_6 : decode cX8_rollOf 6 = .ok (.iload_n 1, 1) := by decide +kernel
theorem dX8_rollOf_7 : decode cX8_rollOf 7 = .ok (.invokevirtual 190, 3) := by decide +kernel
theorem dX8_rollOf_10 : decode cX8_rollOf 10 = .ok (.ifCond .ne 5, 3) := by decide +kernel
theorem dX8_rollOf_13 : decode cX8_rollOf 13 = .ok (.iconst (-1), 1) := by decide +kernel
theorem dX8_rollOf_14 : decode cX8_rollOf 14 = .ok (.ireturn, 1) := by decide +kernel
theorem dX8_rollOf_15 : decode cX8_rollOf 15 = .ok (.aload_n 0, 1) := by decide +kernel
theorem dX8_rollOf_16 : decode cX8_rollOf 16 = .ok (.invokevirtual 202, 3) := by decide +kernel
theorem dX8_rollOf_19 : decode cX8_rollOf 19 = .ok (.ifCond .ne 6, 3) := by decide +kernel
theorem dX8_rollOf_22 : decode cX8_rollOf 22 = .ok (.bipush (-2), 2) := by decide +kernel
theorem dX8_rollOf_24 : decode cX8_rollOf 24 = .ok (.ireturn, 1) := by decide +kernel
theorem dX8_rollOf_25 : decode cX8_rollOf 25 = .ok (.aload_n 0, 1) := by decide +kernel
theorem dX8_rollOf_26 : decode cX8_rollOf 26 = .ok (.iload_n 1, 1) := by decide +kernel
theorem dX8_rollOf_27 : decode cX8_rollOf 27 = .ok (.invokevirtual 137, 3) := by decide +kernel
theorem dX8_rollOf_30 : decode cX8_rollOf 30 = .ok (.ifCond .eq 10, 3) := by decide +kernel
theorem dX8_rollOf_33 : decode cX8_rollOf 33 = .ok (.aload_n 0, 1) := by decide +kernel
theorem dX8_rollOf_34 : decode cX8_rollOf 34 = .ok (.invokevirtual 234, 3) := by decide +kernel
theorem dX8_rollOf_37 : decode cX8_rollOf 37 = .ok (.ifCond .ne 6, 3) := by decide +kernel
theorem dX8_rollOf_40 : decode cX8_rollOf 40 = .ok (.bipush (-4), 2) := by decide +kernel
theorem dX8_rollOf_42 : decode cX8_rollOf 42 = .ok (.ireturn, 1) := by decide +kernel
theorem dX8_rollOf_43 : decode cX8_rollOf 43 = .ok (.aload_n 0, 1) := by decide +kernel
theorem dX8_rollOf_44 : decode cX8_rollOf 44 = .ok (.invokevirtual 240, 3) := by decide +kernel
theorem dX8_rollOf_47 : decode cX8_rollOf 47 = .ok (.aload_n 0, 1) := by decide +kernel
theorem dX8_rollOf_48 : decode cX8_rollOf 48 = .ok (.getfield 49, 3) := by decide +kernel
theorem dX8_rollOf_51 : decode cX8_rollOf 51 = .ok (.iload_n 1, 1) := by decide +kernel
theorem dX8_rollOf_52 : decode cX8_rollOf 52 = .ok (.iaload, 1) := by decide +kernel
theorem dX8_rollOf_53 : decode cX8_rollOf 53 = .ok (.ireturn, 1) := by decide +kernel
theorem dX8_count_0 : decode cX8_count 0 = .ok (.aload_n 0, 1) := by decide +kernel
theorem dX8_count_1 : decode cX8_count 1 = .ok (.iconst 0, 1) := by decide +kernel
theorem dX8_count_2 : decode cX8_count 2 = .ok (.putfield 69, 3) := by decide +kernel
theorem dX8_count_5 : decode cX8_count 5 = .ok (.iload_n 1, 1) := by decide +kernel
theorem dX8_count_6 : decode cX8_count 6 = .ok (.iconst 0, 1) := by decide +kernel
theorem dX8_count_7 : decode cX8_count 7 = .ok (.bipush 8, 2) := by decide +kernel
theorem dX8_count_9 : decode cX8_count 9 = .ok (.invokestatic 73, 3) := by decide +kernel
theorem dX8_count_12 : decode cX8_count 12 = .ok (.ifCond .ne 5, 3) := by decide +kernel
theorem dX8_count_15 : decode cX8_count 15 = .ok (.iconst (-1), 1) := by decide +kernel
theorem dX8_count_16 : decode cX8_count 16 = .ok (.ireturn, 1) := by decide +kernel
theorem dX8_count_17 : decode cX8_count 17 = .ok (.aload_n 0, 1) := by decide +kernel
theorem dX8_count_18 : decode cX8_count 18 = .ok (.bipush (-4), 2) := by decide +kernel
theorem dX8_count_20 : decode cX8_count 20 = .ok (.invokevirtual 150, 3) := by decide +kernel
theorem dX8_count_23 : decode cX8_count 23 = .ok (.pop, 1) := by decide +kernel
theorem dX8_count_24 : decode cX8_count 24 = .ok (.iconst 0, 1) := by decide +kernel
theorem dX8_count_25 : decode cX8_count 25 = .ok (.istore_n 2, 1) := by decide +kernel
theorem dX8_count_26 : decode cX8_count 26 = .ok (.iconst 0, 1) := by decide +kernel
theorem dX8_count_27 : decode cX8_count 27 = .ok (.istore_n 3, 1) := by decide +kernel
theorem dX8_count_28 : decode cX8_count 28 = .ok (.iconst 0, 1) := by decide +kernel
theorem dX8_count_29 : decode cX8_count 29 = .ok (.istore 4, 2) := by decide +kernel
theorem dX8_count_31 : decode cX8_count 31 = .ok (.iload 4, 2) := by decide +kernel
theorem dX8_count_33 : decode cX8_count 33 = .ok (.aload_n 0, 1) := by decide +kernel
theorem dX8_count_34 : decode cX8_count 34 = .ok (.getfield 13, 3) := by decide +kernel
theorem dX8_count_37 : decode cX8_count 37 = .ok (.iconst 0, 1) := by decide +kernel
theorem dX8_count_38 : decode cX8_count 38 = .ok (.iaload, 1) := by decide +kernel
theorem dX8_count_39 : decode cX8_count 39 = .ok (.if_icmp .ge 53, 3) := by decide +kernel
theorem dX8_count_42 : decode cX8_count 42 = .ok (.iload_n 2, 1) := by decide +kernel
theorem dX8_count_43 : decode cX8_count 43 = .ok (.aload_n 0, 1) := by decide +kernel
theorem dX8_count_44 : decode cX8_count 44 = .ok (.iload 4, 2) := by decide +kernel
theorem dX8_count_46 : decode cX8_count 46 = .ok (.invokevirtual 134, 3) := by decide +kernel
theorem dX8_count_49 : decode cX8_count 49 = .ok (.ifCond .eq 7, 3) := by decide +kernel
theorem dX8_count_52 : decode cX8_count 52 = .ok (.iconst 1, 1) := by decide +kernel
theorem dX8_count_53 : decode cX8_count 53 = .ok (.goto 4, 3) := by decide +kernel
theorem dX8_count_56 : decode cX8_count 56 = .ok (.iconst 0, 1) := by decide +kernel
theorem dX8_count_57 : decode cX8_count 57 = .ok (.iadd, 1) := by decide +kernel
theorem dX8_count_58 : decode cX8_count 58 = .ok (.istore_n 2, 1) := by decide +kernel
theorem dX8_count_59 : decode cX8_count 59 = .ok (.iload_n 3, 1) := by decide +kernel
theorem dX8_count_60 : decode cX8_count 60 = .ok (.aload_n 0, 1) := by decide +kernel
theorem dX8_count_61 : decode cX8_count 61 = .ok (.iload 4, 2) := by decide +kernel
theorem dX8_count_63 : decode cX8_count 63 = .ok (.invokevirtual 134, 3) := by decide +kernel
theorem dX8_count_66 : decode cX8_count 66 = .ok (.ifCond .eq 17, 3) := by decide +kernel
theorem dX8_count_69 : decode cX8_count 69 = .ok (.aload_n 0, 1) := by decide +kernel
theorem dX8_count_70 : decode cX8_count 70 = .ok (.getfield 29, 3) := by decide +kernel
theorem dX8_count_73 : decode cX8_count 73 = .ok (.iload 4, 2) := by decide +kernel
theorem dX8_count_75 : decode cX8_count 75 = .ok (.baload, 1) := by decide +kernel
theorem dX8_count_76 : decode cX8_count 76 = .ok (.ifCond .eq 7, 3) := by decide +kernel
theorem dX8_count_79 : decode cX8_count 79 = .ok (.iconst 1, 1) := by decide +kernel
theorem dX8_count_80 : decode cX8_count 80 = .ok (.goto 4, 3) := by decide +kernel
theorem dX8_count_83 : decode cX8_count 83 = .ok (.iconst 0, 1) := by decide +kernel
theorem dX8_count_84 : decode cX8_count 84 = .ok (.iadd, 1) := by decide +kernel
theorem dX8_count_85 : decode cX8_count 85 = .ok (.istore_n 3, 1) := by decide +kernel
theorem dX8_count_86 : decode cX8_count 86 = .ok (.iinc 4 1, 3) := by decide +kernel
theorem dX8_count_89 : decode cX8_count 89 = .ok (.goto (-58), 3) := by decide +kernel
theorem dX8_count_92 : decode cX8_count 92 = .ok (.iload_n 1, 1) := by decide +kernel
theorem dX8_count_93 : decode cX8_count 93 = .ok (.tableswitch 87 0 7 #[47, 54, 56, 63, 68, 70, 75, 80], 47) := by decide +kernel
theorem dX8_count_140 : decode cX8_count 140 = .ok (.aload_n 0, 1) := by decide +kernel
theorem dX8_count_141 : decode cX8_count 141 = .ok (.getfield 13, 3) := by decide +kernel
theorem dX8_count_144 : decode cX8_count 144 = .ok (.iconst 0, 1) := by decide +kernel
theorem dX8_count_145 : decode cX8_count 145 = .ok (.iaload, 1) := by decide +kernel
theorem dX8_count_146 : decode cX8_count 146 = .ok (.ireturn, 1) := by decide +kernel
theorem dX8_count_147 : decode cX8_count 147 = .ok (.iload_n 2, 1) := by decide +kernel
theorem dX8_count_148 : decode cX8_count 148 = .ok (.ireturn, 1) := by decide +kernel
theorem dX8_count_149 : decode cX8_count 149 = .ok (.aload_n 0, 1) := by decide +kernel
theorem dX8_count_150 : decode cX8_count 150 = .ok (.getfield 13, 3) := by decide +kernel
theorem dX8_count_153 : decode cX8_count 153 = .ok (.iconst 1, 1) := by decide +kernel
theorem dX8_count_154 : decode cX8_count 154 = .ok (.iaload, 1) := by decide +kernel
theorem dX8_count_155 : decode cX8_count 155 = .ok (.ireturn, 1) := by decide +kernel
theorem dX8_count_156 : decode cX8_count 156 = .ok (.aload_n 0, 1) := by decide +kernel
theorem dX8_count_157 : decode cX8_count 157 = .ok (.invokevirtual 199, 3) := by decide +kernel
theorem dX8_count_160 : decode cX8_count 160 = .ok (.ireturn, 1) := by decide +kernel
theorem dX8_count_161 : decode cX8_count 161 = .ok (.iload_n 3, 1) := by decide +kernel
theorem dX8_count_162 : decode cX8_count 162 = .ok (.ireturn, 1) := by decide +kernel
theorem dX8_count_163 : decode cX8_count 163 = .ok (.aload_n 0, 1) := by decide +kernel
theorem dX8_count_164 : decode cX8_count 164 = .ok (.getfield 128, 3) := by decide +kernel
theorem dX8_count_167 : decode cX8_count 167 = .ok (.ireturn, 1) := by decide +kernel
theorem dX8_count_168 : decode cX8_count 168 = .ok (.aload_n 0, 1) := by decide +kernel
theorem dX8_count_169 : decode cX8_count 169 = .ok (.getfield 77, 3) := by decide +kernel
theorem dX8_count_172 : decode cX8_count 172 = .ok (.ireturn, 1) := by decide +kernel
theorem dX8_count_173 : decode cX8_count 173 = .ok (.aload_n 0, 1) := by decide +kernel
theorem dX8_count_174 : decode cX8_count 174 = .ok (.getfield 13, 3) := by decide +kernel
theorem dX8_count_177 : decode cX8_count 177 = .ok (.iconst 2, 1) := by decide +kernel
theorem dX8_count_178 : decode cX8_count 178 = .ok (.iaload, 1) := by decide +kernel
theorem dX8_count_179 : decode cX8_count 179 = .ok (.ireturn, 1) := by decide +kernel
theorem dX8_count_180 : decode cX8_count 180 = .ok (.aload_n 0, 1) := by decide +kernel
theorem dX8_count_181 : decode cX8_count 181 = .ok (.getfield 13, 3) := by decide +kernel
theorem dX8_count_184 : decode cX8_count 184 = .ok (.iconst 3, 1) := by decide +kernel
theorem dX8_count_185 : decode cX8_count 185 = .ok (.iaload, 1) := by decide +kernel
theorem dX8_count_186 : decode cX8_count 186 = .ok (.ireturn, 1) := by decide +kernel
end
section
theorem dJ0_length_8abf5_0 : decode cJ0_length_8abf5 0 = .ok (.aload_n 0, 1) := by decide +kernel
theorem dJ0_length_8abf5_1 : decode cJ0_length_8abf5 1 = .ok (.getfield 9, 3) := by decide +kernel
theorem dJ0_length_8abf5_4 : decode cJ0_length_8abf5 4 = .ok (.arraylength, 1) := by decide +kernel
theorem dJ0_length_8abf5_5 : decode cJ0_length_8abf5 5 = .ok (.aload_n 0, 1) := by decide +kernel
theorem dJ0_length_8abf5_6 : decode cJ0_length_8abf5 6 = .ok (.invokevirtual 335, 3) := by decide +kernel
theorem dJ0_length_8abf5_9 : decode cJ0_length_8abf5 9 = .ok (.ishr, 1) := by decide +kernel
theorem dJ0_length_8abf5_10 : decode cJ0_length_8abf5 10 = .ok (.ireturn, 1) := by decide +kernel
theorem dJ0_charAt_5068e_0 : decode cJ0_charAt_5068e 0 = .ok (.aload_n 0, 1) := by decide +kernel
theorem dJ0_charAt_5068e_1 : decode cJ0_charAt_5068e 1 = .ok (.invokevirtual 492, 3) := by decide +kernel
theorem dJ0_charAt_5068e_4 : decode cJ0_charAt_5068e 4 = .ok (.ifCond .eq 12, 3) := by decide +kernel
theorem dJ0_charAt_5068e_7 : decode cJ0_charAt_5068e 7 = .ok (.aload_n 0, 1) := by decide +kernel
theorem dJ0_charAt_5068e_8 : decode cJ0_charAt_5068e 8 = .ok (.getfield 9, 3) := by decide +kernel
theorem dJ0_charAt_5068e_11 : decode cJ0_charAt_5068e 11 = .ok (.iload_n 1, 1) := by decide +kernel
theorem dJ0_charAt_5068e_12 : decode cJ0_charAt_5068e 12 = .ok (.invokestatic 495, 3) := by decide +kernel
theorem dJ0_charAt_5068e_15 : decode cJ0_charAt_5068e 15 = .ok (.ireturn, 1) := by decide +kernel
theorem dJ0_charAt_5068e_16 : decode cJ0_charAt_5068e 16 = .ok (.aload_n 0, 1) := by decide +kernel
theorem dJ0_charAt_5068e_17 : decode cJ0_charAt_5068e 17 = .ok (.getfield 9, 3) := by decide +kernel
theorem dJ0_charAt_5068e_20 : decode cJ0_charAt_5068e 20 = .ok (.iload_n 1, 1) := by decide +kernel
theorem dJ0_charAt_5068e_21 : decode cJ0_charAt_5068e 21 = .ok (.invokestatic 498, 3) := by decide +kernel
theorem dJ0_charAt_5068e_24 : decode cJ0_charAt_5068e 24 = .ok (.ireturn, 1) := by decide +kernel
theorem dJ0_coder_7d493_0 : decode cJ0_coder_7d493 0 = .ok (.getstatic 38, 3) := by decide +kernel
theorem dJ0_coder_7d493_3 : decode cJ0_coder_7d493 3 = .ok (.ifCond .eq 10, 3) := by decide +kernel
theorem dJ0_coder_7d493_6 : decode cJ0_coder_7d493 6 = .ok (.aload_n 0, 1) := by decide +kernel
theorem dJ0_coder_7d493_7 : decode cJ0_coder_7d493 7 = .ok (.getfield 15, 3) := by decide +kernel
theorem dJ0_coder_7d493_10 : decode cJ0_coder_7d493 10 = .ok (.goto 4, 3) := by decide +kernel
theorem dJ0_coder_7d493_13 : decode cJ0_coder_7d493 13 = .ok (.iconst 1, 1) := by decide +kernel
theorem dJ0_coder_7d493_14 : decode cJ0_coder_7d493 14 = .ok (.ireturn, 1) := by decide +kernel
theorem dJ0_isLatin1_aae02_0 : decode cJ0_isLatin1_aae02 0 = .ok (.getstatic 38, 3) := by decide +kernel
theorem dJ0_isLatin1_aae02_3 : decode cJ0_isLatin1_aae02 3 = .ok (.ifCond .eq 14, 3) := by decide +kernel
theorem dJ0_isLatin1_aae02_6 : decode cJ0_isLatin1_aae02 6 = .ok (.aload_n 0, 1) := by decide +kernel
theorem dJ0_isLatin1_aae02_7 : decode cJ0_isLatin1_aae02 7 = .ok (.getfield 15, 3) := by decide +kernel
theorem dJ0_isLatin1_aae02_10 : decode cJ0_isLatin1_aae02 10 = .ok (.ifCond .ne 7, 3) := by decide +kernel
theorem dJ0_isLatin1_aae02_13 : decode cJ0_isLatin1_aae02 13 = .ok (.iconst 1, 1) := by decide +kernel
theorem dJ0_isLatin1_aae02_14 : decode cJ0_isLatin1_aae02 14 = .ok (.goto 4, 3) := by decide +kernel
theorem dJ0_isLatin1_aae02_17 : decode cJ0_isLatin1_aae02 17 = .ok (.iconst 0, 1) := by decide +kernel
theorem dJ0_isLatin1_aae02_18 : decode cJ0_isLatin1_aae02 18 = .ok (.ireturn, 1) := by decide +kernel
theorem dJ0_checkIndex_df160_0 : decode cJ0_checkIndex_df160 0 = .ok (.iload_n 0, 1) := by decide +kernel
theorem dJ0_checkIndex_df160_1 : decode cJ0_checkIndex_df160 1 = .ok (.iload_n 1, 1) := by decide +kernel
theorem dJ0_checkIndex_df160_2 : decode cJ0_checkIndex_df160 2 = .ok (.getstatic 1053, 3) := by decide +kernel
theorem dJ0_checkIndex_df160_5 : decode cJ0_checkIndex_df160 5 = .ok (.invokestatic 1059, 3) := by decide +kernel
theorem dJ0_checkIndex_df160_8 : decode cJ0_checkIndex_df160 8 = .ok (.pop, 1) := by decide +kernel
theorem dJ0_checkIndex_df160_9 : decode cJ0_checkIndex_df160 9 = .ok (.return_, 1) := by decide +kernel
theorem dJ1_charAt_3b067_0 : decode cJ1_charAt_3b067 0 = .ok (.iload_n 1, 1) := by decide +kernel
theorem dJ1_charAt_3b067_1 : decode cJ1_charAt_3b067 1 = .ok (.aload_n 0, 1) := by decide +kernel
theorem dJ1_charAt_3b067_2 : decode cJ1_charAt_3b067 2 = .ok (.arraylength, 1) := by decide +kernel
theorem dJ1_charAt_3b067_3 : decode cJ1_charAt_3b067 3 = .ok (.invokestatic 9, 3) := by decide +kernel
theorem dJ1_charAt_3b067_6 : decode cJ1_charAt_3b067 6 = .ok (.aload_n 0, 1) := by decide +kernel
theorem dJ1_charAt_3b067_7 : decode cJ1_charAt_3b067 7 = .ok (.iload_n 1, 1) := by decide +kernel
theorem dJ1_charAt_3b067_8 : decode cJ1_charAt_3b067 8 = .ok (.baload, 1) := by decide +kernel
theorem dJ1_charAt_3b067_9 : decode cJ1_charAt_3b067 9 = .ok (.sipush 255, 3) := by decide +kernel
theorem dJ1_charAt_3b067_12 : decode cJ1_charAt_3b067 12 = .ok (.iand, 1) := by decide +kernel
theorem dJ1_charAt_3b067_13 : decode cJ1_charAt_3b067 13 = .ok (.i2c, 1) := by decide +kernel
theorem dJ1_charAt_3b067_14 : decode cJ1_charAt_3b067 14 = .ok (.ireturn, 1) := by decide +kernel
theorem dJ2_getChar_3b067_0 : decode cJ2_getChar_3b067 0 = .ok (.getstatic 44, 3) := by decide +kernel
theorem dJ2_getChar_3b067_3 : decode cJ2_getChar_3b067 3 = .ok (.ifCond .ne 25, 3) := by decide +kernel
theorem dJ2_getChar_3b067_6 : decode cJ2_getChar_3b067 6 = .ok (.iload_n 1, 1) := by decide +kernel
theorem dJ2_getChar_3b067_7 : decode cJ2_getChar_3b067 7 = .ok (.ifCond .lt 11, 3) := by decide +kernel
theorem dJ2_getChar_3b067_10 : decode cJ2_getChar_3b067 10 = .ok (.iload_n 1, 1) := by decide +kernel
theorem dJ2_getChar_3b067_11 : decode cJ2_getChar_3b067 11 = .ok (.aload_n 0, 1) := by decide +kernel
theorem dJ2_getChar_3b067_12 : decode cJ2_getChar_3b067 12 = .ok (.invokestatic 48, 3) := by decide +kernel
theorem dJ2_getChar_3b067_15 : decode cJ2_getChar_3b067 15 = .ok (.if_icmp .lt 13, 3) := by decide +kernel
theorem dJ2_getChar_3b067_18 : decode cJ2_getChar_3b067 18 = .ok (.new 52, 3) := by decide +kernel
theorem dJ2_getChar_3b067_21 : decode cJ2_getChar_3b067 21 = .ok (.dup, 1) := by decide +kernel
theorem dJ2_getChar_3b067_22 : decode cJ2_getChar_3b067 22 = .ok (.ldc 54, 2) := by decide +kernel
theorem dJ2_getChar_3b067_24 : decode cJ2_getChar_3b067 24 = .ok (.invokespecial 56, 3) := by decide +kernel
theorem dJ2_getChar_3b067_27 : decode cJ2_getChar_3b067 27 = .ok (.athrow, 1) := by decide +kernel
theorem dJ2_getChar_3b067_28 : decode cJ2_getChar_3b067 28 = .ok (.iload_n 1, 1) := by decide +kernel
theorem dJ2_getChar_3b067_29 : decode cJ2_getChar_3b067 29 = .ok (.iconst 1, 1) := by decide +kernel
theorem dJ2_getChar_3b067_30 : decode cJ2_getChar_3b067 30 = .ok (.ishl, 1) := by decide +kernel
theorem dJ2_getChar_3b067_31 : decode cJ2_getChar_3b067 31 = .ok (.istore_n 1, 1) := by decide +kernel
theorem dJ2_getChar_3b067_32 : decode cJ2_getChar_3b067 32 = .ok (.aload_n 0, 1) := by decide +kernel
theorem dJ2_getChar_3b067_33 : decode cJ2_getChar_3b067 33 = .ok (.iload_n 1, 1) := by decide +kernel
theorem dJ2_getChar_3b067_34 : decode cJ2_getChar_3b067 34 = .ok (.iinc 1 1, 3) := by decide +kernel
theorem dJ2_getChar_3b067_37 : decode cJ2_getChar_3b067 37 = .ok (.baload, 1) := by decide +kernel
theorem dJ2_getChar_3b067_38 : decode cJ2_getChar_3b067 38 = .ok (.sipush 255, 3) := by decide +kernel
theorem dJ2_getChar_3b067_41 : decode cJ2_getChar_3b067 41 = .ok (.iand, 1) := by decide +kernel
theorem dJ2_getChar_3b067_42 : decode cJ2_getChar_3b067 42 = .ok (.getstatic 59, 3) := by decide +kernel
theorem dJ2_getChar_3b067_45 : decode cJ2_getChar_3b067 45 = .ok (.ishl, 1) := by decide +kernel
theorem dJ2_getChar_3b067_46 : decode cJ2_getChar_3b067 46 = .ok (.aload_n 0, 1) := by decide +kernel
theorem dJ2_getChar_3b067_47 : decode cJ2_getChar_3b067 47 = .ok (.iload_n 1, 1) := by decide +kernel
theorem dJ2_getChar_3b067_48 : decode cJ2_getChar_3b067 48 = .ok (.baload, 1) := by decide +kernel
theorem dJ2_getChar_3b067_49 : decode cJ2_getChar_3b067 49 = .ok (.sipush 255, 3) := by decide +kernel
theorem dJ2_getChar_3b067_52 : decode cJ2_getChar_3b067 52 = .ok (.iand, 1) := by decide +kernel
theorem dJ2_getChar_3b067_53 : decode cJ2_getChar_3b067 53 = .ok (.getstatic 63, 3) := by decide +kernel
theorem dJ2_getChar_3b067_56 : decode cJ2_getChar_3b067 56 = .ok (.ishl, 1) := by decide +kernel
theorem dJ2_getChar_3b067_57 : decode cJ2_getChar_3b067 57 = .ok (.ior, 1) := by decide +kernel
theorem dJ2_getChar_3b067_58 : decode cJ2_getChar_3b067 58 = .ok (.i2c, 1) := by decide +kernel
theorem dJ2_getChar_3b067_59 : decode cJ2_getChar_3b067 59 = .ok (.ireturn, 1) := by decide +kernel
theorem dJ2_length_9d52b_0 : decode cJ2_length_9d52b 0 = .ok (.aload_n 0, 1) := by decide +kernel
theorem dJ2_length_9d52b_1 : decode cJ2_length_9d52b 1 = .ok (.arraylength, 1) := by decide +kernel
theorem dJ2_length_9d52b_2 : decode cJ2_length_9d52b 2 = .ok (.iconst 1, 1) := by decide +kernel
theorem dJ2_length_9d52b_3 : decode cJ2_length_9d52b 3 = .ok (.ishr, 1) := by decide +kernel
theorem dJ2_length_9d52b_4 : decode cJ2_length_9d52b 4 = .ok (.ireturn, 1) := by decide +kernel
theorem dJ2_charAt_3b067_0 : decode cJ2_charAt_3b067 0 = .ok (.iload_n 1, 1) := by decide +kernel
theorem dJ2_charAt_3b067_1 : decode cJ2_charAt_3b067 1 = .ok (.aload_n 0, 1) := by decide +kernel
theorem dJ2_charAt_3b067_2 : decode cJ2_charAt_3b067 2 = .ok (.invokestatic 67, 3) := by decide +kernel
theorem dJ2_charAt_3b067_5 : decode cJ2_charAt_3b067 5 = .ok (.aload_n 0, 1) := by decide +kernel
theorem dJ2_charAt_3b067_6 : decode cJ2_charAt_3b067 6 = .ok (.iload_n 1, 1) := by decide +kernel
theorem dJ2_charAt_3b067_7 : decode cJ2_charAt_3b067 7 = .ok (.invokestatic 71, 3) := by decide +kernel
theorem dJ2_charAt_3b067_10 : decode cJ2_charAt_3b067 10 = .ok (.ireturn, 1) := by decide +kernel
theorem dJ2_checkIndex_2214a_0 : decode cJ2_checkIndex_2214a 0 = .ok (.iload_n 0, 1) := by decide +kernel
theorem dJ2_checkIndex_2214a_1 : decode cJ2_checkIndex_2214a 1 = .ok (.aload_n 1, 1) := by decide +kernel
theorem dJ2_checkIndex_2214a_2 : decode cJ2_checkIndex_2214a 2 = .ok (.invokestatic 48, 3) := by decide +kernel
theorem dJ2_checkIndex_2214a_5 : decode cJ2_checkIndex_2214a 5 = .ok (.invokestatic 414, 3) := by decide +kernel
theorem dJ2_checkIndex_2214a_8 : decode cJ2_checkIndex_2214a 8 = .ok (.return_, 1) := by decide +kernel
theorem dJ3_checkIndex_8e157_0 : decode cJ3_checkIndex_8e157 0 = .ok (.iload_n 0, 1) := by decide +kernel
theorem dJ3_checkIndex_8e157_1 : decode cJ3_checkIndex_8e157 1 = .ok (.ifCond .lt 8, 3) := by decide +kernel
theorem dJ3_checkIndex_8e157_4 : decode cJ3_checkIndex_8e157 4 = .ok (.iload_n 0, 1) := by decide +kernel
theorem dJ3_checkIndex_8e157_5 : decode cJ3_checkIndex_8e157 5 = .ok (.iload_n 1, 1) := by decide +kernel
theorem dJ3_checkIndex_8e157_6 : decode cJ3_checkIndex_8e157 6 = .ok (.if_icmp .lt 10, 3) := by decide +kernel
theorem dJ3_checkIndex_8e157_9 : decode cJ3_checkIndex_8e157 9 = .ok (.aload_n 2, 1) := by decide +kernel
theorem dJ3_checkIndex_8e157_10 : decode cJ3_checkIndex_8e157 10 = .ok (.iload_n 0, 1) := by decide +kernel
theorem dJ3_checkIndex_8e157_11 : decode cJ3_checkIndex_8e157 11 = .ok (.iload_n 1, 1) := by decide +kernel
theorem dJ3_checkIndex_8e157_12 : decode cJ3_checkIndex_8e157 12 = .ok (.invokestatic 95, 3) := by decide +kernel
theorem dJ3_checkIndex_8e157_15 : decode cJ3_checkIndex_8e157 15 = .ok (.athrow, 1) := by decide +kernel
theorem dJ3_checkIndex_8e157_16 : decode cJ3_checkIndex_8e157 16 = .ok (.iload_n 0, 1) := by decide +kernel
theorem dJ3_checkIndex_8e157_17 : decode cJ3_checkIndex_8e157 17 = .ok (.ireturn, 1) := by decide +kernel
theorem dJ6_compare_7cf53_0 : decode cJ6_compare_7cf53 0 = .ok (.iload_n 0, 1) := by decide +kernel
theorem dJ6_compare_7cf53_1 : decode cJ6_compare_7cf53 1 = .ok (.iload_n 1, 1) := by decide +kernel
theorem dJ6_compare_7cf53_2 : decode cJ6_compare_7cf53 2 = .ok (.if_icmp .ge 7, 3) := by decide +kernel
theorem dJ6_compare_7cf53_5 : decode cJ6_compare_7cf53 5 = .ok (.iconst (-1), 1) := by decide +kernel
theorem dJ6_compare_7cf53_6 : decode cJ6_compare_7cf53 6 = .ok (.goto 13, 3) := by decide +kernel
theorem dJ6_compare_7cf53_9 : decode cJ6_compare_7cf53 9 = .ok (.iload_n 0, 1) := by decide +kernel
theorem dJ6_compare_7cf53_10 : decode cJ6_compare_7cf53 10 = .ok (.iload_n 1, 1) := by decide +kernel
theorem dJ6_compare_7cf53_11 : decode cJ6_compare_7cf53 11 = .ok (.if_icmp .ne 7, 3) := by decide +kernel
theorem dJ6_compare_7cf53_14 : decode cJ6_compare_7cf53 14 = .ok (.iconst 0, 1) := by decide +kernel
theorem dJ6_compare_7cf53_15 : decode cJ6_compare_7cf53 15 = .ok (.goto 4, 3) := by decide +kernel
theorem dJ6_compare_7cf53_18 : decode cJ6_compare_7cf53 18 = .ok (.iconst 1, 1) := by decide +kernel
theorem dJ6_compare_7cf53_19 : decode cJ6_compare_7cf53 19 = .ok (.ireturn, 1) := by decide +kernel
theorem dJ6_bitCount_0f7a4_0 : decode cJ6_bitCount_0f7a4 0 = .ok (.iload_n 0, 1) := by decide +kernel
theorem dJ6_bitCount_0f7a4_1 : decode cJ6_bitCount_0f7a4 1 = .ok (.iload_n 0, 1) := by decide +kernel
theorem dJ6_bitCount_0f7a4_2 : decode cJ6_bitCount_0f7a4 2 = .ok (.iconst 1, 1) := by decide +kernel
theorem dJ6_bitCount_0f7a4_3 : decode cJ6_bitCount_0f7a4 3 = .ok (.iushr, 1) := by decide +kernel
theorem dJ6_bitCount_0f7a4_4 : decode cJ6_bitCount_0f7a4 4 = .ok (.ldc_w 265, 3) := by decide +kernel
theorem dJ6_bitCount_0f7a4_7 : decode cJ6_bitCount_0f7a4 7 = .ok (.iand, 1) := by decide +kernel
theorem dJ6_bitCount_0f7a4_8 : decode cJ6_bitCount_0f7a4 8 = .ok (.isub, 1) := by decide +kernel
theorem dJ6_bitCount_0f7a4_9 : decode cJ6_bitCount_0f7a4 9 = .ok (.istore_n 0, 1) := by decide +kernel
theorem dJ6_bitCount_0f7a4_10 : decode cJ6_bitCount_0f7a4 10 = .ok (.iload_n 0, 1) := by decide +kernel
theorem dJ6_bitCount_0f7a4_11 : decode cJ6_bitCount_0f7a4 11 = .ok (.ldc_w 266, 3) := by decide +kernel
theorem dJ6_bitCount_0f7a4_14 : decode cJ6_bitCount_0f7a4 14 = .ok (.iand, 1) := by decide +kernel
theorem dJ6_bitCount_0f7a4_15 : decode cJ6_bitCount_0f7a4 15 = .ok (.iload_n 0, 1) := by decide +kernel
theorem dJ6_bitCount_0f7a4_16 : decode cJ6_bitCount_0f7a4 16 = .ok (.iconst 2, 1) := by decide +kernel
theorem dJ6_bitCount_0f7a4_17 : decode cJ6_bitCount_0f7a4 17 = .ok (.iushr, 1) := by decide +kernel
theorem dJ6_bitCount_0f7a4_18 : decode cJ6_bitCount_0f7a4 18 = .ok (.ldc_w 266, 3) := by decide +kernel
theorem dJ6_bitCount_0f7a4_21 : decode cJ6_bitCount_0f7a4 21 = .ok (.iand, 1) := by decide +kernel
theorem dJ6_bitCount_0f7a4_22 : decode cJ6_bitCount_0f7a4 22 = .ok (.iadd, 1) := by decide +kernel
theorem dJ6_bitCount_0f7a4_23 : decode cJ6_bitCount_0f7a4 23 = .ok (.istore_n 0, 1) := by decide +kernel
theorem dJ6_bitCount_0f7a4_24 : decode cJ6_bitCount_0f7a4 24 = .ok (.iload_n 0, 1) := by decide +kernel
theorem dJ6_bitCount_0f7a4_25 : decode cJ6_bitCount_0f7a4 25 = .ok (.iload_n 0, 1) := by decide +kernel
theorem dJ6_bitCount_0f7a4_26 : decode cJ6_bitCount_0f7a4 26 = .ok (.iconst 4, 1) := by decide +kernel
theorem dJ6_bitCount_0f7a4_27 : decode cJ6_bitCount_0f7a4 27 = .ok (.iushr, 1) := by decide +kernel
theorem dJ6_bitCount_0f7a4_28 : decode cJ6_bitCount_0f7a4 28 = .ok (.iadd, 1) := by decide +kernel
theorem dJ6_bitCount_0f7a4_29 : decode cJ6_bitCount_0f7a4 29 = .ok (.ldc_w 267, 3) := by decide +kernel
theorem dJ6_bitCount_0f7a4_32 : decode cJ6_bitCount_0f7a4 32 = .ok (.iand, 1) := by decide +kernel
theorem dJ6_bitCount_0f7a4_33 : decode cJ6_bitCount_0f7a4 33 = .ok (.istore_n 0, 1) := by decide +kernel
theorem dJ6_bitCount_0f7a4_34 : decode cJ6_bitCount_0f7a4 34 = .ok (.iload_n 0, 1) := by decide +kernel
theorem dJ6_bitCount_0f7a4_35 : decode cJ6_bitCount_0f7a4 35 = .ok (.iload_n 0, 1) := by decide +kernel
theorem dJ6_bitCount_0f7a4_36 : decode cJ6_bitCount_0f7a4 36 = .ok (.bipush 8, 2) := by decide +kernel
theorem dJ6_bitCount_0f7a4_38 : decode cJ6_bitCount_0f7a4 38 = .ok (.iushr, 1) := by decide +kernel
theorem dJ6_bitCount_0f7a4_39 : decode cJ6_bitCount_0f7a4 39 = .ok (.iadd, 1) := by decide +kernel
theorem dJ6_bitCount_0f7a4_40 : decode cJ6_bitCount_0f7a4 40 = .ok (.istore_n 0, 1) := by decide +kernel
theorem dJ6_bitCount_0f7a4_41 : decode cJ6_bitCount_0f7a4 41 = .ok (.iload_n 0, 1) := by decide +kernel
theorem dJ6_bitCount_0f7a4_42 : decode cJ6_bitCount_0f7a4 42 = .ok (.iload_n 0, 1) := by decide +kernel
theorem dJ6_bitCount_0f7a4_43 : decode cJ6_bitCount_0f7a4 43 = .ok (.bipush 16, 2) := by decide +kernel
theorem dJ6_bitCount_0f7a4_45 : decode cJ6_bitCount_0f7a4 45 = .ok (.iushr, 1) := by decide +kernel
theorem dJ6_bitCount_0f7a4_46 : decode cJ6_bitCount_0f7a4 46 = .ok (.iadd, 1) := by decide +kernel
theorem dJ6_bitCount_0f7a4_47 : decode cJ6_bitCount_0f7a4 47 = .ok (.istore_n 0, 1) := by decide +kernel
theorem dJ6_bitCount_0f7a4_48 : decode cJ6_bitCount_0f7a4 48 = .ok (.iload_n 0, 1) := by decide +kernel
theorem dJ6_bitCount_0f7a4_49 : decode cJ6_bitCount_0f7a4 49 = .ok (.bipush 63, 2) := by decide +kernel
theorem dJ6_bitCount_0f7a4_51 : decode cJ6_bitCount_0f7a4 51 = .ok (.iand, 1) := by decide +kernel
theorem dJ6_bitCount_0f7a4_52 : decode cJ6_bitCount_0f7a4 52 = .ok (.ireturn, 1) := by decide +kernel
theorem dJ9_floorDiv_f86c9_0 : decode cJ9_floorDiv_f86c9 0 = .ok (.lload_n 0, 1) := by decide +kernel
theorem dJ9_floorDiv_f86c9_1 : decode cJ9_floorDiv_f86c9 1 = .ok (.lload_n 2, 1) := by decide +kernel
theorem dJ9_floorDiv_f86c9_2 : decode cJ9_floorDiv_f86c9 2 = .ok (.ldiv, 1) := by decide +kernel
theorem dJ9_floorDiv_f86c9_3 : decode cJ9_floorDiv_f86c9 3 = .ok (.lstore 4, 2) := by decide +kernel
theorem dJ9_floorDiv_f86c9_5 : decode cJ9_floorDiv_f86c9 5 = .ok (.lload_n 0, 1) := by decide +kernel
theorem dJ9_floorDiv_f86c9_6 : decode cJ9_floorDiv_f86c9 6 = .ok (.lload_n 2, 1) := by decide +kernel
theorem dJ9_floorDiv_f86c9_7 : decode cJ9_floorDiv_f86c9 7 = .ok (.lxor, 1) := by decide +kernel
theorem dJ9_floorDiv_f86c9_8 : decode cJ9_floorDiv_f86c9 8 = .ok (.lconst 0, 1) := by decide +kernel
theorem dJ9_floorDiv_f86c9_9 : decode cJ9_floorDiv_f86c9 9 = .ok (.lcmp, 1) := by decide +kernel
theorem dJ9_floorDiv_f86c9_10 : decode cJ9_floorDiv_f86c9 10 = .ok (.ifCond .ge 17, 3) := by decide +kernel
theorem dJ9_floorDiv_f86c9_13 : decode cJ9_floorDiv_f86c9 13 = .ok (.lload 4, 2) := by decide +kernel
theorem dJ9_floorDiv_f86c9_15 : decode cJ9_floorDiv_f86c9 15 = .ok (.lload_n 2, 1) := by decide +kernel
theorem dJ9_floorDiv_f86c9_16 : decode cJ9_floorDiv_f86c9 16 = .ok (.lmul, 1) := by decide +kernel
theorem dJ9_floorDiv_f86c9_17 : decode cJ9_floorDiv_f86c9 17 = .ok (.lload_n 0, 1) := by decide +kernel
theorem dJ9_floorDiv_f86c9_18 : decode cJ9_floorDiv_f86c9 18 = .ok (.lcmp, 1) := by decide +kernel
theorem dJ9_floorDiv_f86c9_19 : decode cJ9_floorDiv_f86c9 19 = .ok (.ifCond .eq 8, 3) := by decide +kernel
theorem dJ9_floorDiv_f86c9_22 : decode cJ9_floorDiv_f86c9 22 = .ok (.lload 4, 2) := by decide +kernel
theorem dJ9_floorDiv_f86c9_24 : decode cJ9_floorDiv_f86c9 24 = .ok (.lconst 1, 1) := by decide +kernel
theorem dJ9_floorDiv_f86c9_25 : decode cJ9_floorDiv_f86c9 25 = .ok (.lsub, 1) := by decide +kernel
theorem dJ9_floorDiv_f86c9_26 : decode cJ9_floorDiv_f86c9 26 = .ok (.lreturn, 1) := by decide +kernel
theorem dJ9_floorDiv_f86c9_27 : decode cJ9_floorDiv_f86c9 27 = .ok (.lload 4, 2) := by decide +kernel
theorem dJ9_floorDiv_f86c9_29 : decode cJ9_floorDiv_f86c9 29 = .ok (.lreturn, 1) := by decide +kernel
theorem dJ9_abs_0f7a4_0 : decode cJ9_abs_0f7a4 0 = .ok (.iload_n 0, 1) := by decide +kernel
theorem dJ9_abs_0f7a4_1 : decode cJ9_abs_0f7a4 1 = .ok (.ifCond .ge 8, 3) := by decide +kernel
theorem dJ9_abs_0f7a4_4 : decode cJ9_abs_0f7a4 4 = .ok (.iload_n 0, 1) := by decide +kernel
theorem dJ9_abs_0f7a4_5 : decode cJ9_abs_0f7a4 5 = .ok (.ineg, 1) := by decide +kernel
theorem dJ9_abs_0f7a4_6 : decode cJ9_abs_0f7a4 6 = .ok (.goto 4, 3) := by decide +kernel
theorem dJ9_abs_0f7a4_9 : decode cJ9_abs_0f7a4 9 = .ok (.iload_n 0, 1) := by decide +kernel
theorem dJ9_abs_0f7a4_10 : decode cJ9_abs_0f7a4 10 = .ok (.ireturn, 1) := by decide +kernel
theorem dJ9_abs_067f4_0 : decode cJ9_abs_067f4 0 = .ok (.lload_n 0, 1) := by decide +kernel
theorem dJ9_abs_067f4_1 : decode cJ9_abs_067f4 1 = .ok (.lconst 0, 1) := by decide +kernel
theorem dJ9_abs_067f4_2 : decode cJ9_abs_067f4 2 = .ok (.lcmp, 1) := by decide +kernel
theorem dJ9_abs_067f4_3 : decode cJ9_abs_067f4 3 = .ok (.ifCond .ge 8, 3) := by decide +kernel
theorem dJ9_abs_067f4_6 : decode cJ9_abs_067f4 6 = .ok (.lload_n 0, 1) := by decide +kernel
theorem dJ9_abs_067f4_7 : decode cJ9_abs_067f4 7 = .ok (.lneg, 1) := by decide +kernel
theorem dJ9_abs_067f4_8 : decode cJ9_abs_067f4 8 = .ok (.goto 4, 3) := by decide +kernel
theorem dJ9_abs_067f4_11 : decode cJ9_abs_067f4 11 = .ok (.lload_n 0, 1) := by decide +kernel
theorem dJ9_abs_067f4_12 : decode cJ9_abs_067f4 12 = .ok (.lreturn, 1) := by decide +kernel
theorem dJ9_max_7cf53_0 : decode cJ9_max_7cf53 0 = .ok (.iload_n 0, 1) := by decide +kernel
theorem dJ9_max_7cf53_1 : decode cJ9_max_7cf53 1 = .ok (.iload_n 1, 1) := by decide +kernel
theorem dJ9_max_7cf53_2 : decode cJ9_max_7cf53 2 = .ok (.if_icmp .lt 7, 3) := by decide +kernel
theorem dJ9_max_7cf53_5 : decode cJ9_max_7cf53 5 = .ok (.iload_n 0, 1) := by decide +kernel
theorem dJ9_max_7cf53_6 : decode cJ9_max_7cf53 6 = .ok (.goto 4, 3) := by decide +kernel
theorem dJ9_max_7cf53_9 : decode cJ9_max_7cf53 9 = .ok (.iload_n 1, 1) := by decide +kernel
theorem dJ9_max_7cf53_10 : decode cJ9_max_7cf53 10 = .ok (.ireturn, 1) := by decide +kernel
theorem dJ9_max_f86c9_0 : decode cJ9_max_f86c9 0 = .ok (.lload_n 0, 1) := by decide +kernel
theorem dJ9_max_f86c9_1 : decode cJ9_max_f86c9 1 = .ok (.lload_n 2, 1) := by decide +kernel
theorem dJ9_max_f86c9_2 : decode cJ9_max_f86c9 2 = .ok (.lcmp, 1) := by decide +kernel
theorem dJ9_max_f86c9_3 : decode cJ9_max_f86c9 3 = .ok (.ifCond .lt 7, 3) := by decide +kernel
theorem dJ9_max_f86c9_6 : decode cJ9_max_f86c9 6 = .ok (.lload_n 0, 1) := by decide +kernel
theorem dJ9_max_f86c9_7 : decode cJ9_max_f86c9 7 = .ok (.goto 4, 3) := by decide +kernel
theorem dJ9_max_f86c9_10 : decode cJ9_max_f86c9 10 = .ok (.lload_n 2, 1) := by decide +kernel
theorem dJ9_max_f86c9_11 : decode cJ9_max_f86c9 11 = .ok (.lreturn, 1) := by decide +kernel
theorem dJ9_min_7cf53_0 : decode cJ9_min_7cf53 0 = .ok (.iload_n 0, 1) := by decide +kernel
theorem dJ9_min_7cf53_1 : decode cJ9_min_7cf53 1 = .ok (.iload_n 1, 1) := by decide +kernel
theorem dJ9_min_7cf53_2 : decode cJ9_min_7cf53 2 = .ok (.if_icmp .gt 7, 3) := by decide +kernel
theorem dJ9_min_7cf53_5 : decode cJ9_min_7cf53 5 = .ok (.iload_n 0, 1) := by decide +kernel
theorem dJ9_min_7cf53_6 : decode cJ9_min_7cf53 6 = .ok (.goto 4, 3) := by decide +kernel
theorem dJ9_min_7cf53_9 : decode cJ9_min_7cf53 9 = .ok (.iload_n 1, 1) := by decide +kernel
theorem dJ9_min_7cf53_10 : decode cJ9_min_7cf53 10 = .ok (.ireturn, 1) := by decide +kernel
theorem dL_law_0 : decode cL_law 0 = .ok (.new 7, 3) := by decide +kernel
theorem dL_law_3 : decode cL_law 3 = .ok (.dup, 1) := by decide +kernel
theorem dL_law_4 : decode cL_law 4 = .ok (.invokespecial 9, 3) := by decide +kernel
theorem dL_law_7 : decode cL_law 7 = .ok (.astore_n 1, 1) := by decide +kernel
theorem dL_law_8 : decode cL_law 8 = .ok (.new 10, 3) := by decide +kernel
theorem dL_law_11 : decode cL_law 11 = .ok (.dup, 1) := by decide +kernel
theorem dL_law_12 : decode cL_law 12 = .ok (.invokespecial 12, 3) := by decide +kernel
theorem dL_law_15 : decode cL_law 15 = .ok (.astore_n 2, 1) := by decide +kernel
theorem dL_law_16 : decode cL_law 16 = .ok (.iconst 0, 1) := by decide +kernel
theorem dL_law_17 : decode cL_law 17 = .ok (.istore_n 3, 1) := by decide +kernel
theorem dL_law_18 : decode cL_law 18 = .ok (.iload_n 3, 1) := by decide +kernel
theorem dL_law_19 : decode cL_law 19 = .ok (.aload_n 0, 1) := by decide +kernel
theorem dL_law_20 : decode cL_law 20 = .ok (.arraylength, 1) := by decide +kernel
theorem dL_law_21 : decode cL_law 21 = .ok (.iconst 4, 1) := by decide +kernel
theorem dL_law_22 : decode cL_law 22 = .ok (.isub, 1) := by decide +kernel
theorem dL_law_23 : decode cL_law 23 = .ok (.if_icmp .gt 702, 3) := by decide +kernel
theorem dL_law_26 : decode cL_law 26 = .ok (.aload_n 0, 1) := by decide +kernel
theorem dL_law_27 : decode cL_law 27 = .ok (.iload_n 3, 1) := by decide +kernel
theorem dL_law_28 : decode cL_law 28 = .ok (.iaload, 1) := by decide +kernel
theorem dL_law_29 : decode cL_law 29 = .ok (.bipush 31, 2) := by decide +kernel
theorem dL_law_31 : decode cL_law 31 = .ok (.iand, 1) := by decide +kernel
theorem dL_law_32 : decode cL_law 32 = .ok (.tableswitch 687 0 22 #[108, 131, 144, 157, 170, 203, 236, 269, 312, 345, 368, 381, 414, 457, 490, 523, 536, 549, 572, 595, 618, 641, 664], 108) := by decide +kernel
theorem dL_law_140 : decode cL_law 140 = .ok (.aload_n 1, 1) := by decide +kernel
theorem dL_law_141 : decode cL_law 141 = .ok (.aload_n 0, 1) := by decide +kernel
theorem dL_law_142 : decode cL_law 142 = .ok (.iload_n 3, 1) := by decide +kernel
theorem dL_law_143 : decode cL_law 143 = .ok (.iconst 1, 1) := by decide +kernel
theorem dL_law_144 : decode cL_law 144 = .ok (.iadd, 1) := by decide +kernel
theorem dL_law_145 : decode cL_law 145 = .ok (.iaload, 1) := by decide +kernel
theorem dL_law_146 : decode cL_law 146 = .ok (.invokevirtual 13, 3) := by decide +kernel
theorem dL_law_149 : decode cL_law 149 = .ok (.aload_n 2, 1) := by decide +kernel
theorem dL_law_150 : decode cL_law 150 = .ok (.aload_n 0, 1) := by decide +kernel
theorem dL_law_151 : decode cL_law 151 = .ok (.iload_n 3, 1) := by decide +kernel
theorem dL_law_152 : decode cL_law 152 = .ok (.iconst 1, 1) := by decide +kernel
theorem dL_law_153 : decode cL_law 153 = .ok (.iadd, 1) := by decide +kernel
theorem dL_law_154 : decode cL_law 154 = .ok (.iaload, 1) := by decide +kernel
theorem dL_law_155 : decode cL_law 155 = .ok (.invokevirtual 17, 3) := by decide +kernel
theorem dL_law_158 : decode cL_law 158 = .ok (.if_icmp .eq 561, 3) := by decide +kernel
theorem dL_law_161 : decode cL_law 161 = .ok (.iconst 0, 1) := by decide +kernel
theorem dL_law_162 : decode cL_law 162 = .ok (.ireturn, 1) := by decide +kernel
theorem dL_law_163 : decode cL_law 163 = .ok (.aload_n 1, 1) := by decide +kernel
theorem dL_law_164 : decode cL_law 164 = .ok (.invokevirtual 18, 3) := by decide +kernel
theorem dL_law_167 : decode cL_law 167 = .ok (.aload_n 2, 1) := by decide +kernel
theorem dL_law_168 : decode cL_law 168 = .ok (.invokevirtual 22, 3) := by decide +kernel
theorem dL_law_171 : decode cL_law 171 = .ok (.if_icmp .eq 548, 3) := by decide +kernel
theorem dL_law_174 : decode cL_law 174 = .ok (.iconst 0, 1) := by decide +kernel
theorem dL_law_175 : decode cL_law 175 = .ok (.ireturn, 1) := by decide +kernel
theorem dL_law_176 : decode cL_law 176 = .ok (.aload_n 1, 1) := by decide +kernel
theorem dL_law_177 : decode cL_law 177 = .ok (.invokevirtual 23, 3) := by decide +kernel
theorem dL_law_180 : decode cL_law 180 = .ok (.aload_n 2, 1) := by decide +kernel
theorem dL_law_181 : decode cL_law 181 = .ok (.invokevirtual 26, 3) := by decide +kernel
theorem dL_law_184 : decode cL_law 184 = .ok (.if_icmp .eq 535, 3) := by decide +kernel
theorem dL_law_187 : decode cL_law 187 = .ok (.iconst 0, 1) := by decide +kernel
theorem dL_law_188 : decode cL_law 188 = .ok (.ireturn, 1) := by decide +kernel
theorem dL_law_189 : decode cL_law 189 = .ok (.aload_n 1, 1) := by decide +kernel
theorem dL_law_190 : decode cL_law 190 = .ok (.invokevirtual 27, 3) := by decide +kernel
theorem dL_law_193 : decode cL_law 193 = .ok (.aload_n 2, 1) := by decide +kernel
theorem dL_law_194 : decode cL_law 194 = .ok (.invokevirtual 30, 3) := by decide +kernel
theorem dL_law_197 : decode cL_law 197 = .ok (.if_icmp .eq 522, 3) := by decide +kernel
theorem dL_law_200 : decode cL_law 200 = .ok (.iconst 0, 1) := by decide +kernel
theorem dL_law_201 : decode cL_law 201 = .ok (.ireturn, 1) := by decide +kernel
theorem dL_law_202 : decode cL_law 202 = .ok (.aload_n 1, 1) := by decide +kernel
theorem dL_law_203 : decode cL_law 203 = .ok (.aload_n 0, 1) := by decide +kernel
theorem dL_law_204 : decode cL_law 204 = .ok (.iload_n 3, 1) := by decide +kernel
theorem dL_law_205 : decode cL_law 205 = .ok (.iconst 1, 1) := by decide +kernel
theorem dL_law_206 : decode cL_law 206 = .ok (.iadd, 1) := by decide +kernel
theorem dL_law_207 : decode cL_law 207 = .ok (.iaload, 1) := by decide +kernel
theorem dL_law_208 : decode cL_law 208 = .ok (.aload_n 0, 1) := by decide +kernel
theorem dL_law_209 : decode cL_law 209 = .ok (.iload_n 3, 1) := by decide +kernel
theorem dL_law_210 : decode cL_law 210 = .ok (.iconst 2, 1) := by decide +kernel
theorem dL_law_211 : decode cL_law 211 = .ok (.iadd, 1) := by decide +kernel
theorem dL_law_212 : decode cL_law 212 = .ok (.iaload, 1) := by decide +kernel
theorem dL_law_213 : decode cL_law 213 = .ok (.invokevirtual 31, 3) := by decide +kernel
theorem dL_law_216 : decode cL_law 216 = .ok (.aload_n 2, 1) := by decide +kernel
theorem dL_law_217 : decode cL_law 217 = .ok (.aload_n 0, 1) := by decide +kernel
theorem dL_law_218 : decode cL_law 218 = .ok (.iload_n 3, 1) := by decide +kernel
theorem dL_law_219 : decode cL_law 219 = .ok (.iconst 1, 1) := by decide +kernel
theorem dL_law_220 : decode cL_law 220 = .ok (.iadd, 1) := by decide +kernel
theorem dL_law_221 : decode cL_law 221 = .ok (.iaload, 1) := by decide +kernel
theorem dL_law_222 : decode cL_law 222 = .ok (.aload_n 0, 1) := by decide +kernel
theorem dL_law_223 : decode cL_law 223 = .ok (.iload_n 3, 1) := by decide +kernel
theorem dL_law_224 : decode cL_law 224 = .ok (.iconst 2, 1) := by decide +kernel
theorem dL_law_225 : decode cL_law 225 = .ok (.iadd, 1) := by decide +kernel
theorem dL_law_226 : decode cL_law 226 = .ok (.iaload, 1) := by decide +kernel
theorem dL_law_227 : decode cL_law 227 = .ok (.invokevirtual 35, 3) := by decide +kernel
theorem dL_law_230 : decode cL_law 230 = .ok (.if_icmp .eq 489, 3) := by decide +kernel
theorem dL_law_233 : decode cL_law 233 = .ok (.iconst 0, 1) := by decide +kernel
theorem dL_law_234 : decode cL_law 234 = .ok (.ireturn, 1) := by decide +kernel
theorem dL_law_235 : decode cL_law 235 = .ok (.aload_n 1, 1) := by decide +kernel
theorem dL_law_236 : decode cL_law 236 = .ok (.aload_n 0, 1) := by decide +kernel
theorem dL_law_237 : decode cL_law 237 = .ok (.iload_n 3, 1) := by decide +kernel
theorem dL_law_238 : decode cL_law 238 = .ok (.iconst 1, 1) := by decide +kernel
theorem dL_law_239 : decode cL_law 239 = .ok (.iadd, 1) := by decide +kernel
theorem dL_law_240 : decode cL_law 240 = .ok (.iaload, 1) := by decide +kernel
theorem dL_law_241 : decode cL_law 241 = .ok (.aload_n 0, 1) := by decide +kernel
theorem dL_law_242 : decode cL_law 242 = .ok (.iload_n 3, 1) := by decide +kernel
theorem dL_law_243 : decode cL_law 243 = .ok (.iconst 2, 1) := by decide +kernel
theorem dL_law_244 : decode cL_law 244 = .ok (.iadd, 1) := by decide +kernel
theorem dL_law_245 : decode cL_law 245 = .ok (.iaload, 1) := by decide +kernel
theorem dL_law_246 : decode cL_law 246 = .ok (.invokevirtual 36, 3) := by decide +kernel
theorem dL_law_249 : decode cL_law 249 = .ok (.aload_n 2, 1) := by decide +kernel
theorem dL_law_250 : decode cL_law 250 = .ok (.aload_n 0, 1) := by decide +kernel
theorem dL_law_251 : decode cL_law 251 = .ok (.iload_n 3, 1) := by decide +kernel
theorem dL_law_252 : decode cL_law 252 = .ok (.iconst 1, 1) := by decide +kernel
theorem dL_law_253 : decode cL_law 253 = .ok (.iadd, 1) := by decide +kernel
theorem dL_law_254 : decode cL_law 254 = .ok (.iaload, 1) := by decide +kernel
theorem dL_law_255 : decode cL_law 255 = .ok (.aload_n 0, 1) := by decide +kernel
theorem dL_law_256 : decode cL_law 256 = .ok (.iload_n 3, 1) := by decide +kernel
theorem dL_law_257 : decode cL_law 257 = .ok (.iconst 2, 1) := by decide +kernel
theorem dL_law_258 : decode cL_law 258 = .ok (.iadd, 1) := by decide +kernel
theorem dL_law_259 : decode cL_law 259 = .ok (.iaload, 1) := by decide +kernel
theorem dL_law_260 : decode cL_law 260 = .ok (.invokevirtual 39, 3) := by decide +kernel
theorem dL_law_263 : decode cL_law 263 = .ok (.if_icmp .eq 456, 3) := by decide +kernel
theorem dL_law_266 : decode cL_law 266 = .ok (.iconst 0, 1) := by decide +kernel
theorem dL_law_267 : decode cL_law 267 = .ok (.ireturn, 1) := by decide +kernel
theorem dL_law_268 : decode cL_law 268 = .ok (.aload_n 1, 1) := by decide +kernel
theorem dL_law_269 : decode cL_law 269 = .ok (.aload_n 0, 1) := by decide +kernel
theorem dL_law_270 : decode cL_law 270 = .ok (.iload_n 3, 1) := by decide +kernel
theorem dL_law_271 : decode cL_law 271 = .ok (.iconst 1, 1) := by decide +kernel
theorem dL_law_272 : decode cL_law 272 = .ok (.iadd, 1) := by decide +kernel
theorem dL_law_273 : decode cL_law 273 = .ok (.iaload, 1) := by decide +kernel
theorem dL_law_274 : decode cL_law 274 = .ok (.aload_n 0, 1) := by decide +kernel
theorem dL_law_275 : decode cL_law 275 = .ok (.iload_n 3, 1) := by decide +kernel
theorem dL_law_276 : decode cL_law 276 = .ok (.iconst 2, 1) := by decide +kernel
theorem dL_law_277 : decode cL_law 277 = .ok (.iadd, 1) := by decide +kernel
theorem dL_law_278 : decode cL_law 278 = .ok (.iaload, 1) := by decide +kernel
theorem dL_law_279 : decode cL_law 279 = .ok (.invokevirtual 40, 3) := by decide +kernel
theorem dL_law_282 : decode cL_law 282 = .ok (.aload_n 2, 1) := by decide +kernel
theorem dL_law_283 : decode cL_law 283 = .ok (.aload_n 0, 1) := by decide +kernel
theorem dL_law_284 : decode cL_law 284 = .ok (.iload_n 3, 1) := by decide +kernel
theorem dL_law_285 : decode cL_law 285 = .ok (.iconst 1, 1) := by decide +kernel
theorem dL_law_286 : decode cL_law 286 = .ok (.iadd, 1) := by decide +kernel
theorem dL_law_287 : decode cL_law 287 = .ok (.iaload, 1) := by decide +kernel
theorem dL_law_288 : decode cL_law 288 = .ok (.aload_n 0, 1) := by decide +kernel
theorem dL_law_289 : decode cL_law 289 = .ok (.iload_n 3, 1) := by decide +kernel
theorem dL_law_290 : decode cL_law 290 = .ok (.iconst 2, 1) := by decide +kernel
theorem dL_law_291 : decode cL_law 291 = .ok (.iadd, 1) := by decide +kernel
theorem dL_law_292 : decode cL_law 292 = .ok (.iaload, 1) := by decide +kernel
theorem dL_law_293 : decode cL_law 293 = .ok (.invokevirtual 43, 3) := by decide +kernel
theorem dL_law_296 : decode cL_law 296 = .ok (.if_icmp .eq 423, 3) := by decide +kernel
theorem dL_law_299 : decode cL_law 299 = .ok (.iconst 0, 1) := by decide +kernel
theorem dL_law_300 : decode cL_law 300 = .ok (.ireturn, 1) := by decide +kernel
theorem dL_law_301 : decode cL_law 301 = .ok (.aload_n 1, 1) := by decide +kernel
theorem dL_law_302 : decode cL_law 302 = .ok (.aload_n 0, 1) := by decide +kernel
theorem dL_law_303 : decode cL_law 303 = .ok (.iload_n 3, 1) := by decide +kernel
theorem dL_law_304 : decode cL_law 304 = .ok (.iconst 1, 1) := by decide +kernel
theorem dL_law_305 : decode cL_law 305 = .ok (.iadd, 1) := by decide +kernel
theorem dL_law_306 : decode cL_law 306 = .ok (.iaload, 1) := by decide +kernel
theorem dL_law_307 : decode cL_law 307 = .ok (.aload_n 0, 1) := by decide +kernel
theorem dL_law_308 : decode cL_law 308 = .ok (.iload_n 3, 1) := by decide +kernel
theorem dL_law_309 : decode cL_law 309 = .ok (.iconst 2, 1) := by decide +kernel
theorem dL_law_310 : decode cL_law 310 = .ok (.iadd, 1) := by decide +kernel
theorem dL_law_311 : decode cL_law 311 = .ok (.iaload, 1) := by decide +kernel
theorem dL_law_312 : decode cL_law 312 = .ok (.aload_n 0, 1) := by decide +kernel
theorem dL_law_313 : decode cL_law 313 = .ok (.iload_n 3, 1) := by decide +kernel
theorem dL_law_314 : decode cL_law 314 = .ok (.iconst 3, 1) := by decide +kernel
theorem dL_law_315 : decode cL_law 315 = .ok (.iadd, 1) := by decide +kernel
theorem dL_law_316 : decode cL_law 316 = .ok (.iaload, 1) := by decide +kernel
theorem dL_law_317 : decode cL_law 317 = .ok (.invokevirtual 44, 3) := by decide +kernel
theorem dL_law_320 : decode cL_law 320 = .ok (.aload_n 2, 1) := by decide +kernel
theorem dL_law_321 : decode cL_law 321 = .ok (.aload_n 0, 1) := by decide +kernel
theorem dL_law_322 : decode cL_law 322 = .ok (.iload_n 3, 1) := by decide +kernel
theorem dL_law_323 : decode cL_law 323 = .ok (.iconst 1, 1) := by decide +kernel
theorem dL_law_324 : decode cL_law 324 = .ok (.iadd, 1) := by decide +kernel
theorem dL_law_325 : decode cL_law 325 = .ok (.iaload, 1) := by decide +kernel
theorem dL_law_326 : decode cL_law 326 = .ok (.aload_n 0, 1) := by decide +kernel
theorem dL_law_327 : decode cL_law 327 = .ok (.iload_n 3, 1) := by decide +kernel
theorem dL_law_328 : decode cL_law 328 = .ok (.iconst 2, 1) := by decide +kernel
theorem dL_law_329 : decode cL_law 329 = .ok (.iadd, 1) := by decide +kernel
theorem dL_law_330 : decode cL_law 330 = .ok (.iaload, 1) := by decide +kernel
theorem dL_law_331 : decode cL_law 331 = .ok (.aload_n 0, 1) := by decide +kernel
theorem dL_law_332 : decode cL_law 332 = .ok (.iload_n 3, 1) := by decide +kernel
theorem dL_law_333 : decode cL_law 333 = .ok (.iconst 3, 1) := by decide +kernel
theorem dL_law_334 : decode cL_law 334 = .ok (.iadd, 1) := by decide +kernel
theorem dL_law_335 : decode cL_law 335 = .ok (.iaload, 1) := by decide +kernel
theorem dL_law_336 : decode cL_law 336 = .ok (.invokevirtual 48, 3) := by decide +kernel
theorem dL_law_339 : decode cL_law 339 = .ok (.if_icmp .eq 380, 3) := by decide +kernel
theorem dL_law_342 : decode cL_law 342 = .ok (.iconst 0, 1) := by decide +kernel
theorem dL_law_343 : decode cL_law 343 = .ok (.ireturn, 1) := by decide +kernel
theorem dL_law_344 : decode cL_law 344 = .ok (.aload_n 1, 1) := by decide +kernel
theorem dL_law_345 : decode cL_law 345 = .ok (.aload_n 0, 1) := by decide +kernel
theorem dL_law_346 : decode cL_law 346 = .ok (.iload_n 3, 1) := by decide +kernel
theorem dL_law_347 : decode cL_law 347 = .ok (.iconst 1, 1) := by decide +kernel
theorem dL_law_348 : decode cL_law 348 = .ok (.iadd, 1) := by decide +kernel
theorem dL_law_349 : decode cL_law 349 = .ok (.iaload, 1) := by decide +kernel
theorem dL_law_350 : decode cL_law 350 = .ok (.aload_n 0, 1) := by decide +kernel
theorem dL_law_351 : decode cL_law 351 = .ok (.iload_n 3, 1) := by decide +kernel
theorem dL_law_352 : decode cL_law 352 = .ok (.iconst 2, 1) := by decide +kernel
theorem dL_law_353 : decode cL_law 353 = .ok (.iadd, 1) := by decide +kernel
theorem dL_law_354 : decode cL_law 354 = .ok (.iaload, 1) := by decide +kernel
theorem dL_law_355 : decode cL_law 355 = .ok (.invokevirtual 49, 3) := by decide +kernel
theorem dL_law_358 : decode cL_law 358 = .ok (.aload_n 2, 1) := by decide +kernel
theorem dL_law_359 : decode cL_law 359 = .ok (.aload_n 0, 1) := by decide +kernel
theorem dL_law_360 : decode cL_law 360 = .ok (.iload_n 3, 1) := by decide +kernel
theorem dL_law_361 : decode cL_law 361 = .ok (.iconst 1, 1) := by decide +kernel
theorem dL_law_362 : decode cL_law 362 = .ok (.iadd, 1) := by decide +kernel
theorem dL_law_363 : decode cL_law 363 = .ok (.iaload, 1) := by decide +kernel
theorem dL_law_364 : decode cL_law 364 = .ok (.aload_n 0, 1) := by decide +kernel
theorem dL_law_365 : decode cL_law 365 = .ok (.iload_n 3, 1) := by decide +kernel
theorem dL_law_366 : decode cL_law 366 = .ok (.iconst 2, 1) := by decide +kernel
theorem dL_law_367 : decode cL_law 367 = .ok (.iadd, 1) := by decide +kernel
theorem dL_law_368 : decode cL_law 368 = .ok (.iaload, 1) := by decide +kernel
theorem dL_law_369 : decode cL_law 369 = .ok (.invokevirtual 52, 3) := by decide +kernel
theorem dL_law_372 : decode cL_law 372 = .ok (.if_icmp .eq 347, 3) := by decide +kernel
theorem dL_law_375 : decode cL_law 375 = .ok (.iconst 0, 1) := by decide +kernel
theorem dL_law_376 : decode cL_law 376 = .ok (.ireturn, 1) := by decide +kernel
theorem dL_law_377 : decode cL_law 377 = .ok (.aload_n 1, 1) := by decide +kernel
theorem dL_law_378 : decode cL_law 378 = .ok (.aload_n 0, 1) := by decide +kernel
theorem dL_law_379 : decode cL_law 379 = .ok (.iload_n 3, 1) := by decide +kernel
theorem dL_law_380 : decode cL_law 380 = .ok (.iconst 1, 1) := by decide +kernel
theorem dL_law_381 : decode cL_law 381 = .ok (.iadd, 1) := by decide +kernel
theorem dL_law_382 : decode cL_law 382 = .ok (.iaload, 1) := by decide +kernel
theorem dL_law_383 : decode cL_law 383 = .ok (.invokevirtual 53, 3) := by decide +kernel
theorem dL_law_386 : decode cL_law 386 = .ok (.aload_n 2, 1) := by decide +kernel
theorem dL_law_387 : decode cL_law 387 = .ok (.aload_n 0, 1) := by decide +kernel
theorem dL_law_388 : decode cL_law 388 = .ok (.iload_n 3, 1) := by decide +kernel
theorem dL_law_389 : decode cL_law 389 = .ok (.iconst 1, 1) := by decide +kernel
theorem dL_law_390 : decode cL_law 390 = .ok (.iadd, 1) := by decide +kernel
theorem dL_law_391 : decode cL_law 391 = .ok (.iaload, 1) := by decide +kernel
theorem dL_law_392 : decode cL_law 392 = .ok (.invokevirtual 56, 3) := by decide +kernel
theorem dL_law_395 : decode cL_law 395 = .ok (.if_icmp .eq 324, 3) := by decide +kernel
theorem dL_law_398 : decode cL_law 398 = .ok (.iconst 0, 1) := by decide +kernel
theorem dL_law_399 : decode cL_law 399 = .ok (.ireturn, 1) := by decide +kernel
theorem dL_law_400 : decode cL_law 400 = .ok (.aload_n 1, 1) := by decide +kernel
theorem dL_law_401 : decode cL_law 401 = .ok (.invokevirtual 57, 3) := by decide +kernel
theorem dL_law_404 : decode cL_law 404 = .ok (.aload_n 2, 1) := by decide +kernel
theorem dL_law_405 : decode cL_law 405 = .ok (.invokevirtual 60, 3) := by decide +kernel
theorem dL_law_408 : decode cL_law 408 = .ok (.if_icmp .eq 311, 3) := by decide +kernel
theorem dL_law_411 : decode cL_law 411 = .ok (.iconst 0, 1) := by decide +kernel
theorem dL_law_412 : decode cL_law 412 = .ok (.ireturn, 1) := by decide +kernel
theorem dL_law_413 : decode cL_law 413 = .ok (.aload_n 1, 1) := by decide +kernel
theorem dL_law_414 : decode cL_law 414 = .ok (.aload_n 0, 1) := by decide +kernel
theorem dL_law_415 : decode cL_law 415 = .ok (.iload_n 3, 1) := by decide +kernel
theorem dL_law_416 : decode cL_law 416 = .ok (.iconst 1, 1) := by decide +kernel
theorem dL_law_417 : decode cL_law 417 = .ok (.iadd, 1) := by decide +kernel
theorem dL_law_418 : decode cL_law 418 = .ok (.iaload, 1) := by decide +kernel
theorem dL_law_419 : decode cL_law 419 = .ok (.aload_n 0, 1) := by decide +kernel
theorem dL_law_420 : decode cL_law 420 = .ok (.iload_n 3, 1) := by decide +kernel
theorem dL_law_421 : decode cL_law 421 = .ok (.iconst 2, 1) := by decide +kernel
theorem dL_law_422 : decode cL_law 422 = .ok (.iadd, 1) := by decide +kernel
theorem dL_law_423 : decode cL_law 423 = .ok (.iaload, 1) := by decide +kernel
theorem dL_law_424 : decode cL_law 424 = .ok (.invokevirtual 61, 3) := by decide +kernel
theorem dL_law_427 : decode cL_law 427 = .ok (.aload_n 2, 1) := by decide +kernel
theorem dL_law_428 : decode cL_law 428 = .ok (.aload_n 0, 1) := by decide +kernel
theorem dL_law_429 : decode cL_law 429 = .ok (.iload_n 3, 1) := by decide +kernel
theorem dL_law_430 : decode cL_law 430 = .ok (.iconst 1, 1) := by decide +kernel
theorem dL_law_431 : decode cL_law 431 = .ok (.iadd, 1) := by decide +kernel
theorem dL_law_432 : decode cL_law 432 = .ok (.iaload, 1) := by decide +kernel
theorem dL_law_433 : decode cL_law 433 = .ok (.aload_n 0, 1) := by decide +kernel
theorem dL_law_434 : decode cL_law 434 = .ok (.iload_n 3, 1) := by decide +kernel
theorem dL_law_435 : decode cL_law 435 = .ok (.iconst 2, 1) := by decide +kernel
theorem dL_law_436 : decode cL_law 436 = .ok (.iadd, 1) := by decide +kernel
theorem dL_law_437 : decode cL_law 437 = .ok (.iaload, 1) := by decide +kernel
theorem dL_law_438 : decode cL_law 438 = .ok (.invokevirtual 64, 3) := by decide +kernel
theorem dL_law_441 : decode cL_law 441 = .ok (.if_icmp .eq 278, 3) := by decide +kernel
theorem dL_law_444 : decode cL_law 444 = .ok (.iconst 0, 1) := by decide +kernel
theorem dL_law_445 : decode cL_law 445 = .ok (.ireturn, 1) := by decide +kernel
theorem dL_law_446 : decode cL_law 446 = .ok (.aload_n 1, 1) := by decide +kernel
theorem dL_law_447 : decode cL_law 447 = .ok (.aload_n 0, 1) := by decide +kernel
theorem dL_law_448 : decode cL_law 448 = .ok (.iload_n 3, 1) := by decide +kernel
theorem dL_law_449 : decode cL_law 449 = .ok (.iconst 1, 1) := by decide +kernel
theorem dL_law_450 : decode cL_law 450 = .ok (.iadd, 1) := by decide +kernel
theorem dL_law_451 : decode cL_law 451 = .ok (.iaload, 1) := by decide +kernel
theorem dL_law_452 : decode cL_law 452 = .ok (.aload_n 0, 1) := by decide +kernel
theorem dL_law_453 : decode cL_law 453 = .ok (.iload_n 3, 1) := by decide +kernel
theorem dL_law_454 : decode cL_law 454 = .ok (.iconst 2, 1) := by decide +kernel
theorem dL_law_455 : decode cL_law 455 = .ok (.iadd, 1) := by decide +kernel
theorem dL_law_456 : decode cL_law 456 = .ok (.iaload, 1) := by decide +kernel
theorem dL_law_457 : decode cL_law 457 = .ok (.aload_n 0, 1) := by decide +kernel
theorem dL_law_458 : decode cL_law 458 = .ok (.iload_n 3, 1) := by decide +kernel
theorem dL_law_459 : decode cL_law 459 = .ok (.iconst 3, 1) := by decide +kernel
theorem dL_law_460 : decode cL_law 460 = .ok (.iadd, 1) := by decide +kernel
theorem dL_law_461 : decode cL_law 461 = .ok (.iaload, 1) := by decide +kernel
theorem dL_law_462 : decode cL_law 462 = .ok (.invokevirtual 65, 3) := by decide +kernel
theorem dL_law_465 : decode cL_law 465 = .ok (.aload_n 2, 1) := by decide +kernel
theorem dL_law_466 : decode cL_law 466 = .ok (.aload_n 0, 1) := by decide +kernel
theorem dL_law_467 : decode cL_law 467 = .ok (.iload_n 3, 1) := by decide +kernel
theorem dL_law_468 : decode cL_law 468 = .ok (.iconst 1, 1) := by decide +kernel
theorem dL_law_469 : decode cL_law 469 = .ok (.iadd, 1) := by decide +kernel
theorem dL_law_470 : decode cL_law 470 = .ok (.iaload, 1) := by decide +kernel
theorem dL_law_471 : decode cL_law 471 = .ok (.aload_n 0, 1) := by decide +kernel
theorem dL_law_472 : decode cL_law 472 = .ok (.iload_n 3, 1) := by decide +kernel
theorem dL_law_473 : decode cL_law 473 = .ok (.iconst 2, 1) := by decide +kernel
theorem dL_law_474 : decode cL_law 474 = .ok (.iadd, 1) := by decide +kernel
theorem dL_law_475 : decode cL_law 475 = .ok (.iaload, 1) := by decide +kernel
theorem dL_law_476 : decode cL_law 476 = .ok (.aload_n 0, 1) := by decide +kernel
theorem dL_law_477 : decode cL_law 477 = .ok (.iload_n 3, 1) := by decide +kernel
theorem dL_law_478 : decode cL_law 478 = .ok (.iconst 3, 1) := by decide +kernel
theorem dL_law_479 : decode cL_law 479 = .ok (.iadd, 1) := by decide +kernel
theorem dL_law_480 : decode cL_law 480 = .ok (.iaload, 1) := by decide +kernel
theorem dL_law_481 : decode cL_law 481 = .ok (.invokevirtual 68, 3) := by decide +kernel
theorem dL_law_484 : decode cL_law 484 = .ok (.if_icmp .eq 235, 3) := by decide +kernel
theorem dL_law_487 : decode cL_law 487 = .ok (.iconst 0, 1) := by decide +kernel
theorem dL_law_488 : decode cL_law 488 = .ok (.ireturn, 1) := by decide +kernel
theorem dL_law_489 : decode cL_law 489 = .ok (.aload_n 1, 1) := by decide +kernel
theorem dL_law_490 : decode cL_law 490 = .ok (.aload_n 0, 1) := by decide +kernel
theorem dL_law_491 : decode cL_law 491 = .ok (.iload_n 3, 1) := by decide +kernel
theorem dL_law_492 : decode cL_law 492 = .ok (.iconst 1, 1) := by decide +kernel
theorem dL_law_493 : decode cL_law 493 = .ok (.iadd, 1) := by decide +kernel
theorem dL_law_494 : decode cL_law 494 = .ok (.iaload, 1) := by decide +kernel
theorem dL_law_495 : decode cL_law 495 = .ok (.aload_n 0, 1) := by decide +kernel
theorem dL_law_496 : decode cL_law 496 = .ok (.iload_n 3, 1) := by decide +kernel
theorem dL_law_497 : decode cL_law 497 = .ok (.iconst 2, 1) := by decide +kernel
theorem dL_law_498 : decode cL_law 498 = .ok (.iadd, 1) := by decide +kernel
theorem dL_law_499 : decode cL_law 499 = .ok (.iaload, 1) := by decide +kernel
theorem dL_law_500 : decode cL_law 500 = .ok (.invokevirtual 69, 3) := by decide +kernel
theorem dL_law_503 : decode cL_law 503 = .ok (.aload_n 2, 1) := by decide +kernel
theorem dL_law_504 : decode cL_law 504 = .ok (.aload_n 0, 1) := by decide +kernel
theorem dL_law_505 : decode cL_law 505 = .ok (.iload_n 3, 1) := by decide +kernel
theorem dL_law_506 : decode cL_law 506 = .ok (.iconst 1, 1) := by decide +kernel
theorem dL_law_507 : decode cL_law 507 = .ok (.iadd, 1) := by decide +kernel
theorem dL_law_508 : decode cL_law 508 = .ok (.iaload, 1) := by decide +kernel
theorem dL_law_509 : decode cL_law 509 = .ok (.aload_n 0, 1) := by decide +kernel
theorem dL_law_510 : decode cL_law 510 = .ok (.iload_n 3, 1) := by decide +kernel
theorem dL_law_511 : decode cL_law 511 = .ok (.iconst 2, 1) := by decide +kernel
theorem dL_law_512 : decode cL_law 512 = .ok (.iadd, 1) := by decide +kernel
theorem dL_law_513 : decode cL_law 513 = .ok (.iaload, 1) := by decide +kernel
theorem dL_law_514 : decode cL_law 514 = .ok (.invokevirtual 72, 3) := by decide +kernel
theorem dL_law_517 : decode cL_law 517 = .ok (.if_icmp .eq 202, 3) := by decide +kernel
theorem dL_law_520 : decode cL_law 520 = .ok (.iconst 0, 1) := by decide +kernel
theorem dL_law_521 : decode cL_law 521 = .ok (.ireturn, 1) := by decide +kernel
theorem dL_law_522 : decode cL_law 522 = .ok (.aload_n 1, 1) := by decide +kernel
theorem dL_law_523 : decode cL_law 523 = .ok (.aload_n 0, 1) := by decide +kernel
theorem dL_law_524 : decode cL_law 524 = .ok (.iload_n 3, 1) := by decide +kernel
theorem dL_law_525 : decode cL_law 525 = .ok (.iconst 1, 1) := by decide +kernel
theorem dL_law_526 : decode cL_law 526 = .ok (.iadd, 1) := by decide +kernel
theorem dL_law_527 : decode cL_law 527 = .ok (.iaload, 1) := by decide +kernel
theorem dL_law_528 : decode cL_law 528 = .ok (.aload_n 0, 1) := by decide +kernel
theorem dL_law_529 : decode cL_law 529 = .ok (.iload_n 3, 1) := by decide +kernel
theorem dL_law_530 : decode cL_law 530 = .ok (.iconst 2, 1) := by decide +kernel
theorem dL_law_531 : decode cL_law 531 = .ok (.iadd, 1) := by decide +kernel
theorem dL_law_532 : decode cL_law 532 = .ok (.iaload, 1) := by decide +kernel
theorem dL_law_533 : decode cL_law 533 = .ok (.invokevirtual 73, 3) := by decide +kernel
theorem dL_law_536 : decode cL_law 536 = .ok (.aload_n 2, 1) := by decide +kernel
theorem dL_law_537 : decode cL_law 537 = .ok (.aload_n 0, 1) := by decide +kernel
theorem dL_law_538 : decode cL_law 538 = .ok (.iload_n 3, 1) := by decide +kernel
theorem dL_law_539 : decode cL_law 539 = .ok (.iconst 1, 1) := by decide +kernel
theorem dL_law_540 : decode cL_law 540 = .ok (.iadd, 1) := by decide +kernel
theorem dL_law_541 : decode cL_law 541 = .ok (.iaload, 1) := by decide +kernel
theorem dL_law_542 : decode cL_law 542 = .ok (.aload_n 0, 1) := by decide +kernel
theorem dL_law_543 : decode cL_law 543 = .ok (.iload_n 3, 1) := by decide +kernel
theorem dL_law_544 : decode cL_law 544 = .ok (.iconst 2, 1) := by decide +kernel
theorem dL_law_545 : decode cL_law 545 = .ok (.iadd, 1) := by decide +kernel
theorem dL_law_546 : decode cL_law 546 = .ok (.iaload, 1) := by decide +kernel
theorem dL_law_547 : decode cL_law 547 = .ok (.invokevirtual 76, 3) := by decide +kernel
theorem dL_law_550 : decode cL_law 550 = .ok (.if_icmp .eq 169, 3) := by decide +kernel
theorem dL_law_553 : decode cL_law 553 = .ok (.iconst 0, 1) := by decide +kernel
theorem dL_law_554 : decode cL_law 554 = .ok (.ireturn, 1) := by decide +kernel
theorem dL_law_555 : decode cL_law 555 = .ok (.aload_n 1, 1) := by decide +kernel
theorem dL_law_556 : decode cL_law 556 = .ok (.invokevirtual 77, 3) := by decide +kernel
theorem dL_law_559 : decode cL_law 559 = .ok (.aload_n 2, 1) := by decide +kernel
theorem dL_law_560 : decode cL_law 560 = .ok (.invokevirtual 80, 3) := by decide +kernel
theorem dL_law_563 : decode cL_law 563 = .ok (.if_icmp .eq 156, 3) := by decide +kernel
theorem dL_law_566 : decode cL_law 566 = .ok (.iconst 0, 1) := by decide +kernel
theorem dL_law_567 : decode cL_law 567 = .ok (.ireturn, 1) := by decide +kernel
theorem dL_law_568 : decode cL_law 568 = .ok (.aload_n 1, 1) := by decide +kernel
theorem dL_law_569 : decode cL_law 569 = .ok (.invokevirtual 81, 3) := by decide +kernel
theorem dL_law_572 : decode cL_law 572 = .ok (.aload_n 2, 1) := by decide +kernel
theorem dL_law_573 : decode cL_law 573 = .ok (.invokevirtual 84, 3) := by decide +kernel
theorem dL_law_576 : decode cL_law 576 = .ok (.if_icmp .eq 143, 3) := by decide +kernel
theorem dL_law_579 : decode cL_law 579 = .ok (.iconst 0, 1) := by decide +kernel
theorem dL_law_580 : decode cL_law 580 = .ok (.ireturn, 1) := by decide +kernel
theorem dL_law_581 : decode cL_law 581 = .ok (.aload_n 1, 1) := by decide +kernel
theorem dL_law_582 : decode cL_law 582 = .ok (.aload_n 0, 1) := by decide +kernel
theorem dL_law_583 : decode cL_law 583 = .ok (.iload_n 3, 1) := by decide +kernel
theorem dL_law_584 : decode cL_law 584 = .ok (.iconst 1, 1) := by decide +kernel
theorem dL_law_585 : decode cL_law 585 = .ok (.iadd, 1) := by decide +kernel
theorem dL_law_586 : decode cL_law 586 = .ok (.iaload, 1) := by decide +kernel
theorem dL_law_587 : decode cL_law 587 = .ok (.invokevirtual 85, 3) := by decide +kernel
theorem dL_law_590 : decode cL_law 590 = .ok (.aload_n 2, 1) := by decide +kernel
theorem dL_law_591 : decode cL_law 591 = .ok (.aload_n 0, 1) := by decide +kernel
theorem dL_law_592 : decode cL_law 592 = .ok (.iload_n 3, 1) := by decide +kernel
theorem dL_law_593 : decode cL_law 593 = .ok (.iconst 1, 1) := by decide +kernel
theorem dL_law_594 : decode cL_law 594 = .ok (.iadd, 1) := by decide +kernel
theorem dL_law_595 : decode cL_law 595 = .ok (.iaload, 1) := by decide +kernel
theorem dL_law_596 : decode cL_law 596 = .ok (.invokevirtual 88, 3) := by decide +kernel
theorem dL_law_599 : decode cL_law 599 = .ok (.if_icmp .eq 120, 3) := by decide +kernel
theorem dL_law_602 : decode cL_law 602 = .ok (.iconst 0, 1) := by decide +kernel
theorem dL_law_603 : decode cL_law 603 = .ok (.ireturn, 1) := by decide +kernel
theorem dL_law_604 : decode cL_law 604 = .ok (.aload_n 1, 1) := by decide +kernel
theorem dL_law_605 : decode cL_law 605 = .ok (.aload_n 0, 1) := by decide +kernel
theorem dL_law_606 : decode cL_law 606 = .ok (.iload_n 3, 1) := by decide +kernel
theorem dL_law_607 : decode cL_law 607 = .ok (.iconst 1, 1) := by decide +kernel
theorem dL_law_608 : decode cL_law 608 = .ok (.iadd, 1) := by decide +kernel
theorem dL_law_609 : decode cL_law 609 = .ok (.iaload, 1) := by decide +kernel
theorem dL_law_610 : decode cL_law 610 = .ok (.invokevirtual 89, 3) := by decide +kernel
theorem dL_law_613 : decode cL_law 613 = .ok (.aload_n 2, 1) := by decide +kernel
theorem dL_law_614 : decode cL_law 614 = .ok (.aload_n 0, 1) := by decide +kernel
theorem dL_law_615 : decode cL_law 615 = .ok (.iload_n 3, 1) := by decide +kernel
theorem dL_law_616 : decode cL_law 616 = .ok (.iconst 1, 1) := by decide +kernel
theorem dL_law_617 : decode cL_law 617 = .ok (.iadd, 1) := by decide +kernel
theorem dL_law_618 : decode cL_law 618 = .ok (.iaload, 1) := by decide +kernel
theorem dL_law_619 : decode cL_law 619 = .ok (.invokevirtual 92, 3) := by decide +kernel
theorem dL_law_622 : decode cL_law 622 = .ok (.if_icmp .eq 97, 3) := by decide +kernel
theorem dL_law_625 : decode cL_law 625 = .ok (.iconst 0, 1) := by decide +kernel
theorem dL_law_626 : decode cL_law 626 = .ok (.ireturn, 1) := by decide +kernel
theorem dL_law_627 : decode cL_law 627 = .ok (.aload_n 1, 1) := by decide +kernel
theorem dL_law_628 : decode cL_law 628 = .ok (.aload_n 0, 1) := by decide +kernel
theorem dL_law_629 : decode cL_law 629 = .ok (.iload_n 3, 1) := by decide +kernel
theorem dL_law_630 : decode cL_law 630 = .ok (.iconst 1, 1) := by decide +kernel
theorem dL_law_631 : decode cL_law 631 = .ok (.iadd, 1) := by decide +kernel
theorem dL_law_632 : decode cL_law 632 = .ok (.iaload, 1) := by decide +kernel
theorem dL_law_633 : decode cL_law 633 = .ok (.invokevirtual 93, 3) := by decide +kernel
theorem dL_law_636 : decode cL_law 636 = .ok (.aload_n 2, 1) := by decide +kernel
theorem dL_law_637 : decode cL_law 637 = .ok (.aload_n 0, 1) := by decide +kernel
theorem dL_law_638 : decode cL_law 638 = .ok (.iload_n 3, 1) := by decide +kernel
theorem dL_law_639 : decode cL_law 639 = .ok (.iconst 1, 1) := by decide +kernel
theorem dL_law_640 : decode cL_law 640 = .ok (.iadd, 1) := by decide +kernel
theorem dL_law_641 : decode cL_law 641 = .ok (.iaload, 1) := by decide +kernel
theorem dL_law_642 : decode cL_law 642 = .ok (.invokevirtual 96, 3) := by decide +kernel
theorem dL_law_645 : decode cL_law 645 = .ok (.if_icmp .eq 74, 3) := by decide +kernel
theorem dL_law_648 : decode cL_law 648 = .ok (.iconst 0, 1) := by decide +kernel
theorem dL_law_649 : decode cL_law 649 = .ok (.ireturn, 1) := by decide +kernel
theorem dL_law_650 : decode cL_law 650 = .ok (.aload_n 1, 1) := by decide +kernel
theorem dL_law_651 : decode cL_law 651 = .ok (.aload_n 0, 1) := by decide +kernel
theorem dL_law_652 : decode cL_law 652 = .ok (.iload_n 3, 1) := by decide +kernel
theorem dL_law_653 : decode cL_law 653 = .ok (.iconst 1, 1) := by decide +kernel
theorem dL_law_654 : decode cL_law 654 = .ok (.iadd, 1) := by decide +kernel
theorem dL_law_655 : decode cL_law 655 = .ok (.iaload, 1) := by decide +kernel
theorem dL_law_656 : decode cL_law 656 = .ok (.invokevirtual 97, 3) := by decide +kernel
theorem dL_law_659 : decode cL_law 659 = .ok (.aload_n 2, 1) := by decide +kernel
theorem dL_law_660 : decode cL_law 660 = .ok (.aload_n 0, 1) := by decide +kernel
theorem dL_law_661 : decode cL_law 661 = .ok (.iload_n 3, 1) := by decide +kernel
theorem dL_law_662 : decode cL_law 662 = .ok (.iconst 1, 1) := by decide +kernel
theorem dL_law_663 : decode cL_law 663 = .ok (.iadd, 1) := by decide +kernel
theorem dL_law_664 : decode cL_law 664 = .ok (.iaload, 1) := by decide +kernel
theorem dL_law_665 : decode cL_law 665 = .ok (.invokevirtual 100, 3) := by decide +kernel
theorem dL_law_668 : decode cL_law 668 = .ok (.if_icmp .eq 51, 3) := by decide +kernel
theorem dL_law_671 : decode cL_law 671 = .ok (.iconst 0, 1) := by decide +kernel
theorem dL_law_672 : decode cL_law 672 = .ok (.ireturn, 1) := by decide +kernel
theorem dL_law_673 : decode cL_law 673 = .ok (.aload_n 1, 1) := by decide +kernel
theorem dL_law_674 : decode cL_law 674 = .ok (.aload_n 0, 1) := by decide +kernel
theorem dL_law_675 : decode cL_law 675 = .ok (.iload_n 3, 1) := by decide +kernel
theorem dL_law_676 : decode cL_law 676 = .ok (.iconst 1, 1) := by decide +kernel
theorem dL_law_677 : decode cL_law 677 = .ok (.iadd, 1) := by decide +kernel
theorem dL_law_678 : decode cL_law 678 = .ok (.iaload, 1) := by decide +kernel
theorem dL_law_679 : decode cL_law 679 = .ok (.invokevirtual 101, 3) := by decide +kernel
theorem dL_law_682 : decode cL_law 682 = .ok (.aload_n 2, 1) := by decide +kernel
theorem dL_law_683 : decode cL_law 683 = .ok (.aload_n 0, 1) := by decide +kernel
theorem dL_law_684 : decode cL_law 684 = .ok (.iload_n 3, 1) := by decide +kernel
theorem dL_law_685 : decode cL_law 685 = .ok (.iconst 1, 1) := by decide +kernel
theorem dL_law_686 : decode cL_law 686 = .ok (.iadd, 1) := by decide +kernel
theorem dL_law_687 : decode cL_law 687 = .ok (.iaload, 1) := by decide +kernel
theorem dL_law_688 : decode cL_law 688 = .ok (.invokevirtual 104, 3) := by decide +kernel
theorem dL_law_691 : decode cL_law 691 = .ok (.if_icmp .eq 28, 3) := by decide +kernel
theorem dL_law_694 : decode cL_law 694 = .ok (.iconst 0, 1) := by decide +kernel
theorem dL_law_695 : decode cL_law 695 = .ok (.ireturn, 1) := by decide +kernel
theorem dL_law_696 : decode cL_law 696 = .ok (.aload_n 1, 1) := by decide +kernel
theorem dL_law_697 : decode cL_law 697 = .ok (.aload_n 0, 1) := by decide +kernel
theorem dL_law_698 : decode cL_law 698 = .ok (.iload_n 3, 1) := by decide +kernel
theorem dL_law_699 : decode cL_law 699 = .ok (.iconst 1, 1) := by decide +kernel
theorem dL_law_700 : decode cL_law 700 = .ok (.iadd, 1) := by decide +kernel
theorem dL_law_701 : decode cL_law 701 = .ok (.iaload, 1) := by decide +kernel
theorem dL_law_702 : decode cL_law 702 = .ok (.invokevirtual 105, 3) := by decide +kernel
theorem dL_law_705 : decode cL_law 705 = .ok (.aload_n 2, 1) := by decide +kernel
theorem dL_law_706 : decode cL_law 706 = .ok (.aload_n 0, 1) := by decide +kernel
theorem dL_law_707 : decode cL_law 707 = .ok (.iload_n 3, 1) := by decide +kernel
theorem dL_law_708 : decode cL_law 708 = .ok (.iconst 1, 1) := by decide +kernel
theorem dL_law_709 : decode cL_law 709 = .ok (.iadd, 1) := by decide +kernel
theorem dL_law_710 : decode cL_law 710 = .ok (.iaload, 1) := by decide +kernel
theorem dL_law_711 : decode cL_law 711 = .ok (.invokevirtual 108, 3) := by decide +kernel
theorem dL_law_714 : decode cL_law 714 = .ok (.if_icmp .eq 5, 3) := by decide +kernel
theorem dL_law_717 : decode cL_law 717 = .ok (.iconst 0, 1) := by decide +kernel
theorem dL_law_718 : decode cL_law 718 = .ok (.ireturn, 1) := by decide +kernel
theorem dL_law_719 : decode cL_law 719 = .ok (.iinc 3 4, 3) := by decide +kernel
theorem dL_law_722 : decode cL_law 722 = .ok (.goto (-704), 3) := by decide +kernel
theorem dL_law_725 : decode cL_law 725 = .ok (.iconst 1, 1) := by decide +kernel
theorem dL_law_726 : decode cL_law 726 = .ok (.ireturn, 1) := by decide +kernel
end
section
/-! The region: a fixed row of cells (no cell comes or goes), its contents as mathematical numbers; Ev: what holds of a method's code from a place on. -/
abbrev Hp : Type := (Nat → Nat → Int) × (Nat → Nat → Int) × (Nat → Nat → Nat)
abbrev LD : Type := (Nat × List Nat) ⊕ (Nat × Nat)
abbrev Lay : Type := List FieldType × List LD
def iv (x : Int) : Value := .int (Int32.ofInt x)
def jv (x : Int) : Value := .long (Int64.ofInt x)
def cv (ad : Nat → Nat) : Value → Value
  | .ref a => .ref (ad a)
  | .int x => .int x
  | .long x => .long x
  | v => v
theorem cv_iv (ad : Nat → Nat) (x : Int) : cv ad (iv x) = iv x := rfl
theorem cv_jv (ad : Nat → Nat) (x : Int) : cv ad (jv x) = jv x := rfl
theorem cv_cat (ad : Nat → Nat) (v : Value) : (cv ad v).category = v.category := by cases v <;> rfl
def fvl (ad : Nat → Nat) (h : Hp) (id k : Nat) : Nat → Value
  | 0 => iv (h.1 id k)
  | 1 => jv (h.2.1 id k)
  | _ => .ref (ad (h.2.2 id k))
def acn (ad : Nat → Nat) (h : Hp) (id : Nat) : Option FieldType → ((Nat → Int32) ⊕ (Nat → Int64) ⊕ (Nat → UInt32) ⊕ (Nat → UInt64) ⊕ (Nat → Option Nat))
  | some .long => .inr (.inl (fun k => Int64.ofInt (h.2.1 id k)))
  | some (.object _) => .inr (.inr (.inr (.inr (fun k => some (ad (h.2.2 id k))))))
  | some (.array _) => .inr (.inr (.inr (.inr (fun k => some (ad (h.2.2 id k))))))
  | _ => .inl (fun k => Int32.ofInt (h.1 id k))
def lce (tys : List FieldType) (cy : Nat → ClassId) (ad : Nat → Nat) (h : Hp) (id : Nat) : LD → va_E
  | .inl o => .inr (o.1, o.2.mapIdx (fun k kd => fvl ad h id k kd))
  | .inr a => .inl (cy a.1, a.2, acn ad h id tys[a.1]?)
def lws (Ly : Lay) (cy : Nat → ClassId) (ad : Nat → Nat) (h : Hp) : va_W := Ly.2.mapIdx (fun id d => (ad id, lce Ly.1 cy ad h id d))
def kty (Ly : Lay) (cy : Nat → ClassId) : List (ClassId × FieldType) := Ly.1.mapIdx (fun i ty => (cy i, ty))
def hI (h : Hp) (id k : Nat) (x : Int) : Hp := (fun i j => if i = id ∧ j = k then x else h.1 i j, h.2)
def hL (h : Hp) (id k : Nat) (x : Int) : Hp := (h.1, fun i j => if i = id ∧ j = k then x else h.2.1 i j, h.2.2)
def hR (h : Hp) (id k : Nat) (x : Nat) : Hp := (h.1, h.2.1, fun i j => if i = id ∧ j = k then x else h.2.2 i j)
theorem lws_get {Ly : Lay} {cy : Nat → ClassId} {ad : Nat → Nat} {h : Hp} {id : Nat} {d : LD} (hd : Ly.2[id]? = some d) : (lws Ly cy ad h)[id]? = some (ad id, lce Ly.1 cy ad h id d) := by
  unfold lws
  rw [List.getElem?_mapIdx, hd]
  rfl
theorem kty_get {Ly : Lay} {cy : Nat → ClassId} {i : Nat} {ty : FieldType} (hd : Ly.1[i]? = some ty) : (kty Ly cy)[i]? = some (cy i, ty) := by
  unfold kty
  rw [List.getElem?_mapIdx, hd]
  rfl
theorem lws_len {Ly : Lay} {cy : Nat → ClassId} {ad : Nat → Nat} {h : Hp} : (lws Ly cy ad h).length = Ly.2.length := by
  unfold lws
  rw [List.length_mapIdx]
/-- one cell becomes another -/
theorem lws_set {Ly : Lay} {cy : Nat → ClassId} {ad : Nat → Nat} {h h' : Hp} {id : Nat} {d : LD} {e : va_E} (hd : Ly.2[id]? = some d) (he : e = lce Ly.1 cy ad h' id d) (ho : ∀ j d', j ≠ id → lce Ly.1 cy ad h' j d' = lce Ly.1 cy ad h j d') : (lws Ly cy ad h).set id (ad id, e) = lws Ly cy ad h' := by
  apply List.ext_getElem?
  intro j
  have hl : id < (lws Ly cy ad h).length := by rw [lws_len]; exact (List.getElem?_eq_some_iff.mp hd).1
  by_cases hj : j = id
  · subst hj
    rw [List.getElem?_set_self hl, lws_get hd, he]
  · rw [List.getElem?_set_ne (Ne.symm hj)]
    unfold lws
    rw [List.getElem?_mapIdx, List.getElem?_mapIdx]
    cases Ly.2[j]? with
    | none => rfl
    | some d' => simp only [Option.map_some]; rw [ho j d' hj]
theorem lce_oI {tys : List FieldType} {cy : Nat → ClassId} {ad : Nat → Nat} {h : Hp} {id k : Nat} {x : Int} (j : Nat) (d : LD) (hj : j ≠ id) : lce tys cy ad (hI h id k x) j d = lce tys cy ad h j d := by
  have e : (hI h id k x).1 j = h.1 j := by funext q; simp [hI, hj]
  cases d with
  | inl o =>
    simp only [lce]
    congr 3
    funext q kd
    match kd with
    | 0 => simp only [fvl, e]
    | 1 => rfl
    | n + 2 => rfl
  | inr a =>
    simp only [lce]
    congr 3
    unfold acn
    split <;> first | rfl | simp only [e]
theorem lce_oL {tys : List FieldType} {cy : Nat → ClassId} {ad : Nat → Nat} {h : Hp} {id k : Nat} {x : Int} (j : Nat) (d : LD) (hj : j ≠ id) : lce tys cy ad (hL h id k x) j d = lce tys cy ad h j d := by
  have e : (hL h id k x).2.1 j = h.2.1 j := by funext q; simp [hL, hj]
  cases d with
  | inl o =>
    simp only [lce]
    congr 3
    funext q kd
    match kd with
    | 0 => rfl
    | 1 => simp only [fvl, e]
    | n + 2 => rfl
  | inr a =>
    simp only [lce]
    congr 3
    unfold acn
    split <;> first | rfl | simp only [e]
theorem lce_oR {tys : List FieldType} {cy : Nat → ClassId} {ad : Nat → Nat} {h : Hp} {id k x : Nat} (j : Nat) (d : LD) (hj : j ≠ id) : lce tys cy ad (hR h id k x) j d = lce tys cy ad h j d := by
  have e : (hR h id k x).2.2 j = h.2.2 j := by funext q; simp [hR, hj]
  cases d with
  | inl o =>
    simp only [lce]
    congr 3
    funext q kd
    match kd with
    | 0 => rfl
    | 1 => rfl
    | n + 2 => simp only [fvl, e]
  | inr a =>
    simp only [lce]
    congr 3
    unfold acn
    split <;> first | rfl | simp only [e]
/-- a field of an object becomes another -/
theorem lce_fI {tys : List FieldType} {cy : Nat → ClassId} {ad : Nat → Nat} {h : Hp} {id k ci : Nat} {ks : List Nat} {x : Int} (hk : ks[k]? = some 0) : (Sum.inr (ci, (ks.mapIdx (fun k kd => fvl ad h id k kd)).set k (iv x)) : va_E) = lce tys cy ad (hI h id k x) id (.inl (ci, ks)) := by
  simp only [lce]
  congr 2
  apply List.ext_getElem?
  intro j
  by_cases hj : j = k
  · subst hj
    rw [List.getElem?_set_self (by rw [List.length_mapIdx]; exact (List.getElem?_eq_some_iff.mp hk).1), List.getElem?_mapIdx, hk]
    simp [fvl, hI]
  · rw [List.getElem?_set_ne (Ne.symm hj), List.getElem?_mapIdx, List.getElem?_mapIdx]
    cases ks[j]? with
    | none => rfl
    | some kd =>
      simp only [Option.map_some]
      congr 1
      match kd with
      | 0 => simp [fvl, hI, hj]
      | 1 => rfl
      | n + 2 => rfl
theorem lce_fL {tys : List FieldType} {cy : Nat → ClassId} {ad : Nat → Nat} {h : Hp} {id k ci : Nat} {ks : List Nat} {x : Int} (hk : ks[k]? = some 1) : (Sum.inr (ci, (ks.mapIdx (fun k kd => fvl ad h id k kd)).set k (jv x)) : va_E) = lce tys cy ad (hL h id k x) id (.inl (ci, ks)) := by
  simp only [lce]
  congr 2
  apply List.ext_getElem?
  intro j
  by_cases hj : j = k
  · subst hj
    rw [List.getElem?_set_self (by rw [List.length_mapIdx]; exact (List.getElem?_eq_some_iff.mp hk).1), List.getElem?_mapIdx, hk]
    simp [fvl, hL]
  · rw [List.getElem?_set_ne (Ne.symm hj), List.getElem?_mapIdx, List.getElem?_mapIdx]
    cases ks[j]? with
    | none => rfl
    | some kd =>
      simp only [Option.map_some]
      congr 1
      match kd with
      | 0 => rfl
      | 1 => simp [fvl, hL, hj]
      | n + 2 => rfl
theorem lce_fR {tys : List FieldType} {cy : Nat → ClassId} {ad : Nat → Nat} {h : Hp} {id k ci : Nat} {ks : List Nat} {x : Nat} (hk : ks[k]? = some 2) : (Sum.inr (ci, (ks.mapIdx (fun k kd => fvl ad h id k kd)).set k (.ref (ad x))) : va_E) = lce tys cy ad (hR h id k x) id (.inl (ci, ks)) := by
  simp only [lce]
  congr 2
  apply List.ext_getElem?
  intro j
  by_cases hj : j = k
  · subst hj
    rw [List.getElem?_set_self (by rw [List.length_mapIdx]; exact (List.getElem?_eq_some_iff.mp hk).1), List.getElem?_mapIdx, hk]
    simp [fvl, hR]
  · rw [List.getElem?_set_ne (Ne.symm hj), List.getElem?_mapIdx, List.getElem?_mapIdx]
    cases ks[j]? with
    | none => rfl
    | some kd =>
      simp only [Option.map_some]
      congr 1
      match kd with
      | 0 => rfl
      | 1 => rfl
      | n + 2 => simp [fvl, hR, hj]
/-- the words that hold all along -/
def BG : List Cond := lw_tbl.filter goodWord
theorem inBG {w : Cond} (i : Nat) (h : lw_tbl[i]? = some w) (hg : goodWord w = true) : w ∈ BG := List.mem_filter.mpr ⟨List.mem_of_getElem? h, hg⟩
theorem goodBG {w : Cond} (h : w ∈ BG) : w ∈ BG ∧ ((w.onTables && w.keeps) = true ∨ ∃ ty, w = .arrayClass ty) := ⟨h, good_of_word (List.mem_filter.mp h).2⟩
theorem gdBG {w : Cond} (h : w ∈ BG) : GoodIn BG (w :: BG) := fun x hx => by
  rcases List.mem_cons.mp hx with rfl | h2
  · exact goodBG h
  · exact goodBG h2
def isW (v lo hi : Int) : Prop := lo ≤ v ∧ v ≤ hi
/-- ints and longs in range -/
def I32 (x : Int) : Prop := -2147483648 ≤ x ∧ x ≤ 2147483647
def I64 (x : Int) : Prop := -9223372036854775808 ≤ x ∧ x ≤ 9223372036854775807
theorem i32T {x : Int} (h : I32 x) : (Int32.ofInt x).toInt = x := Int32.toInt_ofInt_of_le (by have := h.1; omega) (by have := h.2; omega)
theorem i64T {x : Int} (h : I64 x) : (Int64.ofInt x).toInt = x := Int64.toInt_ofInt_of_le (by have := h.1; omega) (by have := h.2; omega)
theorem i32lt {x y : Int} (hx : I32 x) (hy : I32 y) : Int32.ofInt x < Int32.ofInt y ↔ x < y := by rw [Int32.lt_iff_toInt_lt, i32T hx, i32T hy]
theorem i32le {x y : Int} (hx : I32 x) (hy : I32 y) : Int32.ofInt x ≤ Int32.ofInt y ↔ x ≤ y := by rw [Int32.le_iff_toInt_le, i32T hx, i32T hy]
theorem i32eq {x y : Int} (hx : I32 x) (hy : I32 y) : Int32.ofInt x = Int32.ofInt y ↔ x = y := by rw [← Int32.toInt_inj, i32T hx, i32T hy]
theorem i64lt {x y : Int} (hx : I64 x) (hy : I64 y) : Int64.ofInt x < Int64.ofInt y ↔ x < y := by rw [Int64.lt_iff_toInt_lt, i64T hx, i64T hy]
theorem i64le {x y : Int} (hx : I64 x) (hy : I64 y) : Int64.ofInt x ≤ Int64.ofInt y ↔ x ≤ y := by rw [Int64.le_iff_toInt_le, i64T hx, i64T hy]
theorem i64eq {x y : Int} (hx : I64 x) (hy : I64 y) : Int64.ofInt x = Int64.ofInt y ↔ x = y := by rw [← Int64.toInt_inj, i64T hx, i64T hy]
theorem i32_0 : (0 : Int32) = Int32.ofInt 0 := by decide
theorem i32in {x : Int} {n : Nat} (h0 : 0 ≤ x) (h1 : x < n) (hn : n < 2147483648) : vp_in (Int32.ofInt x) n := by
  rw [vp_in_iff, i32T ⟨by omega, by omega⟩]
  exact ⟨h0, h1⟩
theorem i32cl {x : Int} (h0 : 0 ≤ x) (h1 : x ≤ 2147483647) : (Int32.ofInt x).toNatClampNeg = x.toNat := by
  show (Int32.ofInt x).toInt.toNat = x.toNat
  rw [i32T ⟨by omega, h1⟩]
end
section
/-! Ev: from a place of a method's code on, with abstract locals, stack and region, the method returns with Post. The rows: one an instruction. -/
abbrev vwCl : List vw_C := [(RX0, TX0, 10), (RX1, TX1, 2), (RX2, TX2, 12), (RX3, TX3, 3), (RX4, TX4, 6), (RX5, TX5, 1), (RX6, TX6, 4), (RX7, TX7, 8), (RX8, TX8, 24)]
abbrev Mi : Type := Lay × String × ByteArray × Nat × Option FieldType
abbrev Pst : Type := Option Value → Hp → Prop
def NW (s : State) : Prop := va_Nw (.methodLinkNest "RoofNet$Net" 65 ⟨"RoofNet", "isWithin", "(III)Z"⟩ "RoofNet") s
def lok (ad : Nat → Nat) (lsA : Array Slot) (nL : Nat) (ls : List (Option Value)) : Prop := lsA.size = nL ∧ lv_wf lsA ∧ ∀ (i : Nat) (v : Value), ls[i]? = some (some v) → lsA[i]? = some (Slot.val (cv ad v))
def EvF (M : Mi) (d : Nat) (Post : Pst) (p : Program) (R : Room) (s : State) (m : MethodId) (args : Array Value) (meth : Method) (c : Code) (D : va_G) (cy : Nat → ClassId) (ad : Nat → Nat) (A : Nat → Prop) (Qc : Array Value → State → Outcome → State → Prop) : Prop :=
  p.tables.exec = Jvm.exec ∧ c.code = M.2.2.1 ∧ c.maxLocals = M.2.2.2.1 ∧ meth.sig.returnType = M.2.2.2.2 ∧ meth.locks = false ∧ s.vm.findClass M.2.1 = some m.cls ∧ (∀ w ∈ BG, w.before args s = true) ∧ NW s ∧ (d ≤ R.frames ∧ 60 * d ≤ R.locals) ∧ va_K D vwCl (kty M.1 cy) s ∧
  (∀ v h' t, Post v h' → s.WarmedH t.vm → va_P D vwCl (lws M.1 cy ad h') t.heap → va_F A s t → Qc args s (.returned (v.map (cv ad))) t)
def EvM (M : Mi) (ls : List (Option Value)) (h : Hp) (s : State) (D : va_G) (cy : Nat → ClassId) (ad : Nat → Nat) (A : Nat → Prop) (H : Heap) (locs : List Loc) (lsA : Array Slot) : Prop :=
  va_P D vwCl (lws M.1 cy ad h) H ∧ va_D A (lws M.1 cy ad h) ∧ va_S A s.heap H locs ∧ lok ad lsA M.2.2.2.1 ls
def Ev (M : Mi) (d pc : Nat) (ls : List (Option Value)) (st : List Value) (h : Hp) (Post : Pst) : Prop :=
  ∀ (p : Program) (l : Launch) (e : Env) (R : Room) (s : State) (m : MethodId) (args : Array Value) (below : List Frame) (meth : Method) (c : Code) (D : va_G) (cy : Nat → ClassId) (ad : Nat → Nat) (A : Nat → Prop) (Qc : Array Value → State → Outcome → State → Prop), EvF M d Post p R s m args meth c D cy ad A Qc →
  ∀ (H : Heap) (locs : List Loc) (lsA : Array Slot), EvM M ls h s D cy ad A H locs lsA → W p l e R s m args below meth c H locs 0 0 (MQ below Qc args s 0 0 A) (F0 m pc lsA (st.map (cv ad)))
def prs (ad : Nat → Nat) (ls : List (Option Value)) : List (Nat × Value) := (ls.mapIdx (fun i o => o.map (fun v => (i, cv ad v)))).filterMap id
theorem prs_mem {ad : Nat → Nat} {ls : List (Option Value)} {q : Nat × Value} : q ∈ prs ad ls ↔ ∃ v, ls[q.1]? = some (some v) ∧ q.2 = cv ad v := by
  unfold prs
  rw [List.mem_filterMap]
  constructor
  · rintro ⟨o, ho, hq⟩
    obtain ⟨i, hi⟩ := List.getElem?_of_mem ho
    rw [List.getElem?_mapIdx] at hi
    cases hl : ls[i]? with
    | none => rw [hl] at hi; cases hi
    | some x =>
      rw [hl] at hi
      simp only [Option.map_some, Option.some.injEq] at hi
      subst hi
      cases x with
      | none => cases hq
      | some v =>
        simp only [Option.map_some, id_eq, Option.some.injEq] at hq
        subst hq
        exact ⟨v, hl, rfl⟩
  · rintro ⟨v, hv, e⟩
    refine ⟨some q, ?_, rfl⟩
    apply List.mem_of_getElem? (i := q.1)
    rw [List.getElem?_mapIdx, hv]
    simp only [Option.map_some]
    rw [← e]
theorem lok_has {ad : Nat → Nat} {lsA : Array Slot} {nL : Nat} {ls : List (Option Value)} (h : lok ad lsA nL ls) : lv_has lsA nL (prs ad ls) := by
  refine ⟨h.1, h.2.1, fun q hq => ?_⟩
  obtain ⟨v, hv, e⟩ := prs_mem.mp hq
  rw [h.2.2 _ _ hv, e]
/-- nothing of two words just ahead of local i -/
def okB (ls : List (Option Value)) : Nat → Bool
  | 0 => true
  | i + 1 => match ls[i]? with
    | some (some v) => v.category == 1
    | _ => true
theorem lok_st1 {ad : Nat → Nat} {lsA : Array Slot} {nL i : Nat} {v : Value} {ls : List (Option Value)} (hb : okB ls i = true) (h : lv_has lsA nL ((i, cv ad v) :: (prs ad ls).filter (fun q => !(q.1 == i) && !(q.1 + 1 == i && q.2.category == 2)))) : lok ad lsA nL (ls.set i (some v)) := by
  refine ⟨h.1, h.2.1, fun j w hj => ?_⟩
  by_cases hji : j = i
  · subst hji
    have hl : j < ls.length := by
      have := (List.getElem?_eq_some_iff.mp hj).1
      rwa [List.length_set] at this
    rw [List.getElem?_set_self hl] at hj
    cases hj
    exact h.2.2 (j, cv ad v) List.mem_cons_self
  · rw [List.getElem?_set_ne (Ne.symm hji)] at hj
    refine h.2.2 (j, cv ad w) (List.mem_cons_of_mem _ (List.mem_filter.mpr ⟨prs_mem.mpr ⟨w, hj, rfl⟩, ?_⟩))
    simp only [Bool.and_eq_true, Bool.not_eq_true', beq_eq_false_iff_ne, ne_eq, hji, not_false_eq_true, true_and, Bool.and_eq_false_iff]
    by_cases h2 : j + 1 = i
    · right
      subst h2
      unfold okB at hb
      simp only [hj, beq_iff_eq] at hb
      rw [cv_cat, hb]
      decide
    · left
      exact h2
theorem lok_st2 {ad : Nat → Nat} {lsA : Array Slot} {nL i : Nat} {v : Value} {ls : List (Option Value)} (hb : okB ls i = true) (h : lv_has lsA nL ((i, cv ad v) :: (prs ad ls).filter (fun q => !(q.1 == i) && (!(q.1 == i + 1) && !(q.1 + 1 == i && q.2.category == 2))))) : lok ad lsA nL ((ls.set i (some v)).set (i + 1) none) := by
  refine ⟨h.1, h.2.1, fun j w hj => ?_⟩
  by_cases hj1 : j = i + 1
  · subst hj1
    have hl := (List.getElem?_eq_some_iff.mp hj).1
    rw [List.length_set] at hl
    rw [List.getElem?_set_self hl] at hj
    cases hj
  · rw [List.getElem?_set_ne (Ne.symm hj1)] at hj
    by_cases hji : j = i
    · subst hji
      have hl : j < ls.length := by
        have := (List.getElem?_eq_some_iff.mp hj).1
        rwa [List.length_set] at this
      rw [List.getElem?_set_self hl] at hj
      cases hj
      exact h.2.2 (j, cv ad v) List.mem_cons_self
    · rw [List.getElem?_set_ne (Ne.symm hji)] at hj
      refine h.2.2 (j, cv ad w) (List.mem_cons_of_mem _ (List.mem_filter.mpr ⟨prs_mem.mpr ⟨w, hj, rfl⟩, ?_⟩))
      simp only [Bool.and_eq_true, Bool.not_eq_true', beq_eq_false_iff_ne, ne_eq, hji, hj1, not_false_eq_true, true_and, Bool.and_eq_false_iff]
      by_cases h2 : j + 1 = i
      · right
        subst h2
        unfold okB at hb
        simp only [hj, beq_iff_eq] at hb
        rw [cv_cat, hb]
        decide
      · left
        exact h2
theorem mn32 : (-2147483648 : Int) = Int32.minValue.toInt := by decide
theorem mx32 : (2147483647 : Int) = Int32.maxValue.toInt := by decide
theorem mn64 : (-9223372036854775808 : Int) = Int64.minValue.toInt := by decide
theorem mx64 : (9223372036854775807 : Int) = Int64.maxValue.toInt := by decide
theorem mn8 : (-128 : Int) = Int8.minValue.toInt := by decide
theorem mx8 : (127 : Int) = Int8.maxValue.toInt := by decide
theorem mn16 : (-32768 : Int) = Int16.minValue.toInt := by decide
theorem mx16 : (32767 : Int) = Int16.maxValue.toInt := by decide
theorem i32tmod {x y : Int} (hx : I32 x) (hy : I32 y) : Int32.ofInt x - Int32.ofInt x / Int32.ofInt y * Int32.ofInt y = Int32.ofInt (x.tmod y) := by
  rw [← Int32.ofInt_tdiv (mn32 ▸ hx.1) (mx32 ▸ hx.2) (mn32 ▸ hy.1) (mx32 ▸ hy.2), ← Int32.ofInt_mul, ← Int32.ofInt_sub, Int.tmod_def, Int.mul_comm]
theorem i64tmod {x y : Int} (hx : I64 x) (hy : I64 y) : Int64.ofInt x - Int64.ofInt x / Int64.ofInt y * Int64.ofInt y = Int64.ofInt (x.tmod y) := by
  rw [← Int64.ofInt_tdiv (mn64 ▸ hx.1) (mx64 ▸ hx.2) (mn64 ▸ hy.1) (mx64 ▸ hy.2), ← Int64.ofInt_mul, ← Int64.ofInt_sub, Int.tmod_def, Int.mul_comm]
theorem i2cE {x : Int} (hx : 0 ≤ x ∧ x < 65536) : ((Int32.ofInt x).toUInt32 % 65536).toInt32 = Int32.ofInt x := by
  obtain ⟨n, rfl⟩ := Int.eq_ofNat_of_zero_le hx.1
  have h2 : n < 65536 := by omega
  rw [pk_char, Int32.ofInt_eq_ofNat]
  show nI _ = nI n
  congr 1
  show (nI n).toBitVec.toNat % 65536 = n
  rw [pk_tn (by omega)]
  omega
theorem narC {x : Int} (hx : 0 ≤ x ∧ x < 65536) : (Int32.ofInt x).toUInt32.toUInt16.toUInt32.toInt32 = Int32.ofInt x := by
  obtain ⟨n, rfl⟩ := Int.eq_ofNat_of_zero_le hx.1
  have h2 : n < 65536 := by omega
  rw [Int32.ofInt_eq_ofNat]
  have := (pk_charN h2).1
  simp only [narrow, Value.int.injEq] at this
  exact this
theorem i2bE {x : Int} (hx : -128 ≤ x ∧ x ≤ 127) : (Int32.ofInt x).toInt8.toInt32 = Int32.ofInt x := by
  rw [Int32.toInt8_ofInt, Int8.toInt32_ofInt (mn8 ▸ hx.1) (mx8 ▸ hx.2)]
section EVR
variable {M : Mi} {d pc pc' : Nat} {ls : List (Option Value)} {st : List Value} {h : Hp} {Post : Pst}
theorem Ev.iconst {n : Int} (hd : decode M.2.2.1 pc = .ok (.iconst n, 1)) (hn : pc + 1 = pc')  (k : Ev M d pc' ls (iv n :: st) h Post) : Ev M d pc ls (st) h Post := by
  subst hn
  intro p l e R s m args below meth c D cy ad A Qc F H locs lsA X
  refine lv_iconst F.1 F.2.1 hd rfl ?_
  exact k p l e R s m args below meth c D cy ad A Qc F H locs lsA X
theorem Ev.bipush {n : Int} (hd : decode M.2.2.1 pc = .ok (.bipush n, 2)) (hn : pc + 2 = pc') (hb : -128 ≤ n ∧ n ≤ 127) (k : Ev M d pc' ls (iv n :: st) h Post) : Ev M d pc ls (st) h Post := by
  subst hn
  intro p l e R s m args below meth c D cy ad A Qc F H locs lsA X
  refine lv_bipush F.1 F.2.1 hd (Int8.toInt32_ofInt (mn8 ▸ hb.1) (mx8 ▸ hb.2)) ?_
  exact k p l e R s m args below meth c D cy ad A Qc F H locs lsA X
theorem Ev.sipush {n : Int} (hd : decode M.2.2.1 pc = .ok (.sipush n, 3)) (hn : pc + 3 = pc') (hb : -32768 ≤ n ∧ n ≤ 32767) (k : Ev M d pc' ls (iv n :: st) h Post) : Ev M d pc ls (st) h Post := by
  subst hn
  intro p l e R s m args below meth c D cy ad A Qc F H locs lsA X
  refine lv_sipush F.1 F.2.1 hd (Int16.toInt32_ofInt (mn16 ▸ hb.1) (mx16 ▸ hb.2)) ?_
  exact k p l e R s m args below meth c D cy ad A Qc F H locs lsA X
theorem Ev.lconst {n : Fin 2} (hd : decode M.2.2.1 pc = .ok (.lconst n, 1)) (hn : pc + 1 = pc')  (k : Ev M d pc' ls (jv ((n : Nat) : Int) :: st) h Post) : Ev M d pc ls (st) h Post := by
  subst hn
  intro p l e R s m args below meth c D cy ad A Qc F H locs lsA X
  refine lv_lconst F.1 F.2.1 hd (Int64.ofInt_eq_ofNat).symm ?_
  exact k p l e R s m args below meth c D cy ad A Qc F H locs lsA X
theorem Ev.iload_n {i : Fin 4} {x : Int} (hd : decode M.2.2.1 pc = .ok (.iload_n i, 1)) (hn : pc + 1 = pc') (hl : ls[(i : Nat)]? = some (some (iv x))) (k : Ev M d pc' ls (iv x :: st) h Post) : Ev M d pc ls (st) h Post := by
  subst hn
  intro p l e R s m args below meth c D cy ad A Qc F H locs lsA X
  refine lv_iload_n F.1 F.2.1 hd rfl (X.2.2.2.2.2 _ _ hl) ?_
  exact k p l e R s m args below meth c D cy ad A Qc F H locs lsA X
theorem Ev.iload {i : Nat} {x : Int} (hd : decode M.2.2.1 pc = .ok (.iload i, 2)) (hn : pc + 2 = pc') (hl : ls[i]? = some (some (iv x))) (k : Ev M d pc' ls (iv x :: st) h Post) : Ev M d pc ls (st) h Post := by
  subst hn
  intro p l e R s m args below meth c D cy ad A Qc F H locs lsA X
  refine lv_iload F.1 F.2.1 hd (X.2.2.2.2.2 _ _ hl) ?_
  exact k p l e R s m args below meth c D cy ad A Qc F H locs lsA X
theorem Ev.lload_n {i : Fin 4} {x : Int} (hd : decode M.2.2.1 pc = .ok (.lload_n i, 1)) (hn : pc + 1 = pc') (hl : ls[(i : Nat)]? = some (some (jv x))) (k : Ev M d pc' ls (jv x :: st) h Post) : Ev M d pc ls (st) h Post := by
  subst hn
  intro p l e R s m args below meth c D cy ad A Qc F H locs lsA X
  refine lv_lload_n F.1 F.2.1 hd rfl (X.2.2.2.2.2 _ _ hl) ?_
  exact k p l e R s m args below meth c D cy ad A Qc F H locs lsA X
theorem Ev.lload {i : Nat} {x : Int} (hd : decode M.2.2.1 pc = .ok (.lload i, 2)) (hn : pc + 2 = pc') (hl : ls[i]? = some (some (jv x))) (k : Ev M d pc' ls (jv x :: st) h Post) : Ev M d pc ls (st) h Post := by
  subst hn
  intro p l e R s m args below meth c D cy ad A Qc F H locs lsA X
  refine lv_lload F.1 F.2.1 hd (X.2.2.2.2.2 _ _ hl) ?_
  exact k p l e R s m args below meth c D cy ad A Qc F H locs lsA X
theorem Ev.aload_n {i : Fin 4} {x : Nat} (hd : decode M.2.2.1 pc = .ok (.aload_n i, 1)) (hn : pc + 1 = pc') (hl : ls[(i : Nat)]? = some (some (.ref x))) (k : Ev M d pc' ls (.ref x :: st) h Post) : Ev M d pc ls (st) h Post := by
  subst hn
  intro p l e R s m args below meth c D cy ad A Qc F H locs lsA X
  refine lv_aload_n F.1 F.2.1 hd rfl (X.2.2.2.2.2 _ _ hl) ?_
  exact k p l e R s m args below meth c D cy ad A Qc F H locs lsA X
theorem Ev.aload {i : Nat} {x : Nat} (hd : decode M.2.2.1 pc = .ok (.aload i, 2)) (hn : pc + 2 = pc') (hl : ls[i]? = some (some (.ref x))) (k : Ev M d pc' ls (.ref x :: st) h Post) : Ev M d pc ls (st) h Post := by
  subst hn
  intro p l e R s m args below meth c D cy ad A Qc F H locs lsA X
  refine lv_aload F.1 F.2.1 hd (X.2.2.2.2.2 _ _ hl) ?_
  exact k p l e R s m args below meth c D cy ad A Qc F H locs lsA X
theorem Ev.istore_n {i : Fin 4} {x : Int} (hd : decode M.2.2.1 pc = .ok (.istore_n i, 1)) (hn : pc + 1 = pc') (hi : (i : Nat) < M.2.2.2.1) (hb : okB ls (i : Nat) = true) (k : Ev M d pc' (ls.set (i : Nat) (some (iv x))) st h Post) : Ev M d pc ls (iv x :: st) h Post := by
  subst hn
  intro p l e R s m args below meth c D cy ad A Qc F H locs lsA X
  refine lv_istore_n F.1 F.2.1 hd rfl (lok_has X.2.2.2) hi rfl (fun lsB hB => ?_)
  exact k p l e R s m args below meth c D cy ad A Qc F H locs lsB ⟨X.1, X.2.1, X.2.2.1, lok_st1 hb hB⟩
theorem Ev.istore {i : Nat} {x : Int} (hd : decode M.2.2.1 pc = .ok (.istore i, 2)) (hn : pc + 2 = pc') (hi : i < M.2.2.2.1) (hb : okB ls i = true) (k : Ev M d pc' (ls.set i (some (iv x))) st h Post) : Ev M d pc ls (iv x :: st) h Post := by
  subst hn
  intro p l e R s m args below meth c D cy ad A Qc F H locs lsA X
  refine lv_istore F.1 F.2.1 hd (lok_has X.2.2.2) hi rfl (fun lsB hB => ?_)
  exact k p l e R s m args below meth c D cy ad A Qc F H locs lsB ⟨X.1, X.2.1, X.2.2.1, lok_st1 hb hB⟩
theorem Ev.lstore_n {i : Fin 4} {x : Int} (hd : decode M.2.2.1 pc = .ok (.lstore_n i, 1)) (hn : pc + 1 = pc') (hi : (i : Nat) + 1 < M.2.2.2.1) (hb : okB ls (i : Nat) = true) (k : Ev M d pc' ((ls.set (i : Nat) (some (jv x))).set ((i : Nat) + 1) none) st h Post) : Ev M d pc ls (jv x :: st) h Post := by
  subst hn
  intro p l e R s m args below meth c D cy ad A Qc F H locs lsA X
  refine lv_lstore_n F.1 F.2.1 hd rfl (lok_has X.2.2.2) hi rfl (fun lsB hB => ?_)
  exact k p l e R s m args below meth c D cy ad A Qc F H locs lsB ⟨X.1, X.2.1, X.2.2.1, lok_st2 hb hB⟩
theorem Ev.lstore {i : Nat} {x : Int} (hd : decode M.2.2.1 pc = .ok (.lstore i, 2)) (hn : pc + 2 = pc') (hi : i + 1 < M.2.2.2.1) (hb : okB ls i = true) (k : Ev M d pc' ((ls.set i (some (jv x))).set (i + 1) none) st h Post) : Ev M d pc ls (jv x :: st) h Post := by
  subst hn
  intro p l e R s m args below meth c D cy ad A Qc F H locs lsA X
  refine lv_lstore F.1 F.2.1 hd (lok_has X.2.2.2) hi rfl (fun lsB hB => ?_)
  exact k p l e R s m args below meth c D cy ad A Qc F H locs lsB ⟨X.1, X.2.1, X.2.2.1, lok_st2 hb hB⟩
theorem Ev.astore_n {i : Fin 4} {x : Nat} (hd : decode M.2.2.1 pc = .ok (.astore_n i, 1)) (hn : pc + 1 = pc') (hi : (i : Nat) < M.2.2.2.1) (hb : okB ls (i : Nat) = true) (k : Ev M d pc' (ls.set (i : Nat) (some (.ref x))) st h Post) : Ev M d pc ls (.ref x :: st) h Post := by
  subst hn
  intro p l e R s m args below meth c D cy ad A Qc F H locs lsA X
  refine lv_astore_n F.1 F.2.1 hd rfl (lok_has X.2.2.2) hi rfl (fun lsB hB => ?_)
  exact k p l e R s m args below meth c D cy ad A Qc F H locs lsB ⟨X.1, X.2.1, X.2.2.1, lok_st1 hb hB⟩
theorem Ev.astore {i : Nat} {x : Nat} (hd : decode M.2.2.1 pc = .ok (.astore i, 2)) (hn : pc + 2 = pc') (hi : i < M.2.2.2.1) (hb : okB ls i = true) (k : Ev M d pc' (ls.set i (some (.ref x))) st h Post) : Ev M d pc ls (.ref x :: st) h Post := by
  subst hn
  intro p l e R s m args below meth c D cy ad A Qc F H locs lsA X
  refine lv_astore F.1 F.2.1 hd (lok_has X.2.2.2) hi rfl (fun lsB hB => ?_)
  exact k p l e R s m args below meth c D cy ad A Qc F H locs lsB ⟨X.1, X.2.1, X.2.2.1, lok_st1 hb hB⟩
/-- a local is forgotten -/
theorem Ev.drop (i : Nat) (k : Ev M d pc (ls.set i none) st h Post) : Ev M d pc ls st h Post := by
  intro p l e R s m args below meth c D cy ad A Qc F H locs lsA X
  refine k p l e R s m args below meth c D cy ad A Qc F H locs lsA ⟨X.1, X.2.1, X.2.2.1, X.2.2.2.1, X.2.2.2.2.1, fun j v hj => ?_⟩
  by_cases hji : j = i
  · subst hji
    have hl := (List.getElem?_eq_some_iff.mp hj).1
    rw [List.length_set] at hl
    rw [List.getElem?_set_self hl] at hj
    cases hj
  · rw [List.getElem?_set_ne (Ne.symm hji)] at hj
    exact X.2.2.2.2.2 j v hj
theorem Ev.iinc {i : Nat} {n x : Int} (hd : decode M.2.2.1 pc = .ok (.iinc i n, 3)) (hn : pc + 3 = pc') (hl : ls[i]? = some (some (iv x))) (hi : i < M.2.2.2.1) (hb : okB ls i = true) (k : Ev M d pc' (ls.set i (some (iv (x + n)))) st h Post) : Ev M d pc ls st h Post := by
  subst hn
  intro p l e R s m args below meth c D cy ad A Qc F H locs lsA X
  obtain ⟨q, hq⟩ := List.getElem?_of_mem (prs_mem.mpr ⟨iv x, hl, rfl⟩ : (i, iv x) ∈ prs ad ls)
  refine lv_iinc F.1 F.2.1 hd (lok_has X.2.2.2) hq (Int32.ofInt_add x n).symm hi rfl (fun lsB hB => ?_)
  exact k p l e R s m args below meth c D cy ad A Qc F H locs lsB ⟨X.1, X.2.1, X.2.2.1, lok_st1 (v := iv (x + n)) hb hB⟩
theorem Ev.iadd {x y : Int} (hd : decode M.2.2.1 pc = .ok (.iadd, 1)) (hn : pc + 1 = pc')  (k : Ev M d pc' ls (iv (x + y) :: st) h Post) : Ev M d pc ls (iv y :: iv x :: st) h Post := by
  subst hn
  intro p l e R s m args below meth c D cy ad A Qc F H locs lsA X
  refine lv_iadd F.1 F.2.1 hd ?_
  rw [← Int32.ofInt_add]
  exact k p l e R s m args below meth c D cy ad A Qc F H locs lsA X
theorem Ev.isub {x y : Int} (hd : decode M.2.2.1 pc = .ok (.isub, 1)) (hn : pc + 1 = pc')  (k : Ev M d pc' ls (iv (x - y) :: st) h Post) : Ev M d pc ls (iv y :: iv x :: st) h Post := by
  subst hn
  intro p l e R s m args below meth c D cy ad A Qc F H locs lsA X
  refine lv_isub F.1 F.2.1 hd ?_
  rw [← Int32.ofInt_sub]
  exact k p l e R s m args below meth c D cy ad A Qc F H locs lsA X
theorem Ev.imul {x y : Int} (hd : decode M.2.2.1 pc = .ok (.imul, 1)) (hn : pc + 1 = pc')  (k : Ev M d pc' ls (iv (x * y) :: st) h Post) : Ev M d pc ls (iv y :: iv x :: st) h Post := by
  subst hn
  intro p l e R s m args below meth c D cy ad A Qc F H locs lsA X
  refine lv_imul F.1 F.2.1 hd ?_
  rw [← Int32.ofInt_mul]
  exact k p l e R s m args below meth c D cy ad A Qc F H locs lsA X
theorem Ev.ladd {x y : Int} (hd : decode M.2.2.1 pc = .ok (.ladd, 1)) (hn : pc + 1 = pc')  (k : Ev M d pc' ls (jv (x + y) :: st) h Post) : Ev M d pc ls (jv y :: jv x :: st) h Post := by
  subst hn
  intro p l e R s m args below meth c D cy ad A Qc F H locs lsA X
  refine lv_ladd F.1 F.2.1 hd ?_
  rw [← Int64.ofInt_add]
  exact k p l e R s m args below meth c D cy ad A Qc F H locs lsA X
theorem Ev.lsub {x y : Int} (hd : decode M.2.2.1 pc = .ok (.lsub, 1)) (hn : pc + 1 = pc')  (k : Ev M d pc' ls (jv (x - y) :: st) h Post) : Ev M d pc ls (jv y :: jv x :: st) h Post := by
  subst hn
  intro p l e R s m args below meth c D cy ad A Qc F H locs lsA X
  refine lv_lsub F.1 F.2.1 hd ?_
  rw [← Int64.ofInt_sub]
  exact k p l e R s m args below meth c D cy ad A Qc F H locs lsA X
theorem Ev.lmul {x y : Int} (hd : decode M.2.2.1 pc = .ok (.lmul, 1)) (hn : pc + 1 = pc')  (k : Ev M d pc' ls (jv (x * y) :: st) h Post) : Ev M d pc ls (jv y :: jv x :: st) h Post := by
  subst hn
  intro p l e R s m args below meth c D cy ad A Qc F H locs lsA X
  refine lv_lmul F.1 F.2.1 hd ?_
  rw [← Int64.ofInt_mul]
  exact k p l e R s m args below meth c D cy ad A Qc F H locs lsA X
theorem Ev.ineg {x : Int} (hd : decode M.2.2.1 pc = .ok (.ineg, 1)) (hn : pc + 1 = pc')  (k : Ev M d pc' ls (iv (-x) :: st) h Post) : Ev M d pc ls (iv x :: st) h Post := by
  subst hn
  intro p l e R s m args below meth c D cy ad A Qc F H locs lsA X
  refine lv_ineg F.1 F.2.1 hd ?_
  rw [← Int32.ofInt_neg]
  exact k p l e R s m args below meth c D cy ad A Qc F H locs lsA X
theorem Ev.lneg {x : Int} (hd : decode M.2.2.1 pc = .ok (.lneg, 1)) (hn : pc + 1 = pc')  (k : Ev M d pc' ls (jv (-x) :: st) h Post) : Ev M d pc ls (jv x :: st) h Post := by
  subst hn
  intro p l e R s m args below meth c D cy ad A Qc F H locs lsA X
  refine lv_lneg F.1 F.2.1 hd ?_
  rw [← Int64.ofInt_neg]
  exact k p l e R s m args below meth c D cy ad A Qc F H locs lsA X
theorem Ev.idiv {x y : Int} (hd : decode M.2.2.1 pc = .ok (.idiv, 1)) (hn : pc + 1 = pc') (hx : I32 x) (hy : I32 y) (h0 : ¬ y = 0) (k : Ev M d pc' ls (iv (x.tdiv y) :: st) h Post) : Ev M d pc ls (iv y :: iv x :: st) h Post := by
  subst hn
  intro p l e R s m args below meth c D cy ad A Qc F H locs lsA X
  refine lv_idiv F.1 F.2.1 hd (fun q => h0 ((i32eq hy ⟨by decide, by decide⟩).mp (q.trans i32_0))) ?_
  rw [← Int32.ofInt_tdiv (mn32 ▸ hx.1) (mx32 ▸ hx.2) (mn32 ▸ hy.1) (mx32 ▸ hy.2)]
  exact k p l e R s m args below meth c D cy ad A Qc F H locs lsA X
theorem Ev.irem {x y : Int} (hd : decode M.2.2.1 pc = .ok (.irem, 1)) (hn : pc + 1 = pc') (hx : I32 x) (hy : I32 y) (h0 : ¬ y = 0) (k : Ev M d pc' ls (iv (x.tmod y) :: st) h Post) : Ev M d pc ls (iv y :: iv x :: st) h Post := by
  subst hn
  intro p l e R s m args below meth c D cy ad A Qc F H locs lsA X
  refine lv_irem F.1 F.2.1 hd (fun q => h0 ((i32eq hy ⟨by decide, by decide⟩).mp (q.trans i32_0))) ?_
  rw [i32tmod hx hy]
  exact k p l e R s m args below meth c D cy ad A Qc F H locs lsA X
theorem Ev.ldiv {x y : Int} (hd : decode M.2.2.1 pc = .ok (.ldiv, 1)) (hn : pc + 1 = pc') (hx : I64 x) (hy : I64 y) (h0 : ¬ y = 0) (k : Ev M d pc' ls (jv (x.tdiv y) :: st) h Post) : Ev M d pc ls (jv y :: jv x :: st) h Post := by
  subst hn
  intro p l e R s m args below meth c D cy ad A Qc F H locs lsA X
  refine lv_ldiv F.1 F.2.1 hd (fun q => h0 ((i64eq hy ⟨by decide, by decide⟩).mp (q.trans (by decide : (0 : Int64) = Int64.ofInt 0)))) ?_
  rw [← Int64.ofInt_tdiv (mn64 ▸ hx.1) (mx64 ▸ hx.2) (mn64 ▸ hy.1) (mx64 ▸ hy.2)]
  exact k p l e R s m args below meth c D cy ad A Qc F H locs lsA X
theorem Ev.lrem {x y : Int} (hd : decode M.2.2.1 pc = .ok (.lrem, 1)) (hn : pc + 1 = pc') (hx : I64 x) (hy : I64 y) (h0 : ¬ y = 0) (k : Ev M d pc' ls (jv (x.tmod y) :: st) h Post) : Ev M d pc ls (jv y :: jv x :: st) h Post := by
  subst hn
  intro p l e R s m args below meth c D cy ad A Qc F H locs lsA X
  refine lv_lrem F.1 F.2.1 hd (fun q => h0 ((i64eq hy ⟨by decide, by decide⟩).mp (q.trans (by decide : (0 : Int64) = Int64.ofInt 0)))) ?_
  rw [i64tmod hx hy]
  exact k p l e R s m args below meth c D cy ad A Qc F H locs lsA X
theorem Ev.i2l {x : Int} (hd : decode M.2.2.1 pc = .ok (.i2l, 1)) (hn : pc + 1 = pc') (hx : I32 x) (k : Ev M d pc' ls (jv x :: st) h Post) : Ev M d pc ls (iv x :: st) h Post := by
  subst hn
  intro p l e R s m args below meth c D cy ad A Qc F H locs lsA X
  refine lv_i2l F.1 F.2.1 hd (Int32.toInt64_ofInt (mn32 ▸ hx.1) (mx32 ▸ hx.2)) ?_
  exact k p l e R s m args below meth c D cy ad A Qc F H locs lsA X
theorem Ev.l2i {x : Int} (hd : decode M.2.2.1 pc = .ok (.l2i, 1)) (hn : pc + 1 = pc')  (k : Ev M d pc' ls (iv x :: st) h Post) : Ev M d pc ls (jv x :: st) h Post := by
  subst hn
  intro p l e R s m args below meth c D cy ad A Qc F H locs lsA X
  refine lv_l2i F.1 F.2.1 hd Int64.toInt32_ofInt ?_
  exact k p l e R s m args below meth c D cy ad A Qc F H locs lsA X
theorem Ev.i2c {x : Int} (hd : decode M.2.2.1 pc = .ok (.i2c, 1)) (hn : pc + 1 = pc') (hx : 0 ≤ x ∧ x < 65536) (k : Ev M d pc' ls (iv x :: st) h Post) : Ev M d pc ls (iv x :: st) h Post := by
  subst hn
  intro p l e R s m args below meth c D cy ad A Qc F H locs lsA X
  refine lv_i2c F.1 F.2.1 hd (i2cE hx) ?_
  exact k p l e R s m args below meth c D cy ad A Qc F H locs lsA X
theorem Ev.i2b {x : Int} (hd : decode M.2.2.1 pc = .ok (.i2b, 1)) (hn : pc + 1 = pc') (hx : -128 ≤ x ∧ x ≤ 127) (k : Ev M d pc' ls (iv x :: st) h Post) : Ev M d pc ls (iv x :: st) h Post := by
  subst hn
  intro p l e R s m args below meth c D cy ad A Qc F H locs lsA X
  refine lv_i2b F.1 F.2.1 hd (i2bE hx) ?_
  exact k p l e R s m args below meth c D cy ad A Qc F H locs lsA X
theorem Ev.iand {x y z : Int} (hd : decode M.2.2.1 pc = .ok (.iand, 1)) (hn : pc + 1 = pc') (hz : Int32.ofInt x &&& Int32.ofInt y = Int32.ofInt z) (k : Ev M d pc' ls (iv z :: st) h Post) : Ev M d pc ls (iv y :: iv x :: st) h Post := by
  subst hn
  intro p l e R s m args below meth c D cy ad A Qc F H locs lsA X
  refine lv_iand F.1 F.2.1 hd ?_
  rw [hz]
  exact k p l e R s m args below meth c D cy ad A Qc F H locs lsA X
theorem Ev.ior {x y z : Int} (hd : decode M.2.2.1 pc = .ok (.ior, 1)) (hn : pc + 1 = pc') (hz : Int32.ofInt x ||| Int32.ofInt y = Int32.ofInt z) (k : Ev M d pc' ls (iv z :: st) h Post) : Ev M d pc ls (iv y :: iv x :: st) h Post := by
  subst hn
  intro p l e R s m args below meth c D cy ad A Qc F H locs lsA X
  refine lv_ior F.1 F.2.1 hd ?_
  rw [hz]
  exact k p l e R s m args below meth c D cy ad A Qc F H locs lsA X
theorem Ev.ixor {x y z : Int} (hd : decode M.2.2.1 pc = .ok (.ixor, 1)) (hn : pc + 1 = pc') (hz : Int32.ofInt x ^^^ Int32.ofInt y = Int32.ofInt z) (k : Ev M d pc' ls (iv z :: st) h Post) : Ev M d pc ls (iv y :: iv x :: st) h Post := by
  subst hn
  intro p l e R s m args below meth c D cy ad A Qc F H locs lsA X
  refine lv_ixor F.1 F.2.1 hd ?_
  rw [hz]
  exact k p l e R s m args below meth c D cy ad A Qc F H locs lsA X
theorem Ev.lxor {x y z : Int} (hd : decode M.2.2.1 pc = .ok (.lxor, 1)) (hn : pc + 1 = pc') (hz : Int64.ofInt x ^^^ Int64.ofInt y = Int64.ofInt z) (k : Ev M d pc' ls (jv z :: st) h Post) : Ev M d pc ls (jv y :: jv x :: st) h Post := by
  subst hn
  intro p l e R s m args below meth c D cy ad A Qc F H locs lsA X
  refine lv_lxor F.1 F.2.1 hd ?_
  rw [hz]
  exact k p l e R s m args below meth c D cy ad A Qc F H locs lsA X
theorem Ev.ishl {x y z : Int} (hd : decode M.2.2.1 pc = .ok (.ishl, 1)) (hn : pc + 1 = pc') (hz : Int32.ofInt x <<< (Int32.ofInt y &&& 31) = Int32.ofInt z) (k : Ev M d pc' ls (iv z :: st) h Post) : Ev M d pc ls (iv y :: iv x :: st) h Post := by
  subst hn
  intro p l e R s m args below meth c D cy ad A Qc F H locs lsA X
  refine lv_ishl F.1 F.2.1 hd ?_
  rw [hz]
  exact k p l e R s m args below meth c D cy ad A Qc F H locs lsA X
theorem Ev.ishr {x y z : Int} (hd : decode M.2.2.1 pc = .ok (.ishr, 1)) (hn : pc + 1 = pc') (hz : Int32.ofInt x >>> (Int32.ofInt y &&& 31) = Int32.ofInt z) (k : Ev M d pc' ls (iv z :: st) h Post) : Ev M d pc ls (iv y :: iv x :: st) h Post := by
  subst hn
  intro p l e R s m args below meth c D cy ad A Qc F H locs lsA X
  refine lv_ishr F.1 F.2.1 hd ?_
  rw [hz]
  exact k p l e R s m args below meth c D cy ad A Qc F H locs lsA X
theorem Ev.iushr {x y z : Int} (hd : decode M.2.2.1 pc = .ok (.iushr, 1)) (hn : pc + 1 = pc') (hz : ((Int32.ofInt x).toUInt32 >>> ((Int32.ofInt y).toUInt32 &&& Int32.toUInt32 31)).toInt32 = Int32.ofInt z) (k : Ev M d pc' ls (iv z :: st) h Post) : Ev M d pc ls (iv y :: iv x :: st) h Post := by
  subst hn
  intro p l e R s m args below meth c D cy ad A Qc F H locs lsA X
  refine lv_iushr F.1 F.2.1 hd hz ?_
  exact k p l e R s m args below meth c D cy ad A Qc F H locs lsA X
theorem Ev.dupI {x : Int} (hd : decode M.2.2.1 pc = .ok (.dup, 1)) (hn : pc + 1 = pc')  (k : Ev M d pc' ls (iv x :: iv x :: st) h Post) : Ev M d pc ls (iv x :: st) h Post := by
  subst hn
  intro p l e R s m args below meth c D cy ad A Qc F H locs lsA X
  refine lv_dup F.1 F.2.1 hd rfl ?_
  exact k p l e R s m args below meth c D cy ad A Qc F H locs lsA X
theorem Ev.dupR {x : Nat} (hd : decode M.2.2.1 pc = .ok (.dup, 1)) (hn : pc + 1 = pc')  (k : Ev M d pc' ls (.ref x :: .ref x :: st) h Post) : Ev M d pc ls (.ref x :: st) h Post := by
  subst hn
  intro p l e R s m args below meth c D cy ad A Qc F H locs lsA X
  refine lv_dup F.1 F.2.1 hd rfl ?_
  exact k p l e R s m args below meth c D cy ad A Qc F H locs lsA X
theorem Ev.dup2 {x y : Value} (hd : decode M.2.2.1 pc = .ok (.dup2, 1)) (hn : pc + 1 = pc') (hx : x.category = 1) (hy : y.category = 1) (k : Ev M d pc' ls (y :: x :: y :: x :: st) h Post) : Ev M d pc ls (y :: x :: st) h Post := by
  subst hn
  intro p l e R s m args below meth c D cy ad A Qc F H locs lsA X
  refine lv_dup2_11 F.1 F.2.1 hd (by rw [cv_cat]; exact hy) (by rw [cv_cat]; exact hx) ?_
  exact k p l e R s m args below meth c D cy ad A Qc F H locs lsA X
theorem Ev.popV {x : Value} (hd : decode M.2.2.1 pc = .ok (.pop, 1)) (hn : pc + 1 = pc') (hx : x.category = 1) (k : Ev M d pc' ls (st) h Post) : Ev M d pc ls (x :: st) h Post := by
  subst hn
  intro p l e R s m args below meth c D cy ad A Qc F H locs lsA X
  refine lv_pop F.1 F.2.1 hd (by rw [cv_cat]; exact hx) ?_
  exact k p l e R s m args below meth c D cy ad A Qc F H locs lsA X
def lgc (x y : Int) : Int := if y < x then 1 else if x = y then 0 else -1
theorem lgcE {x y : Int} (hx : I64 x) (hy : I64 y) : lg_cmp (Int64.ofInt x) (Int64.ofInt y) = Int32.ofInt (lgc x y) := by
  unfold lg_cmp lgc
  by_cases h1 : y < x
  · rw [if_pos ((i64lt hy hx).mpr h1), if_pos h1]; rfl
  · rw [if_neg (fun q => h1 ((i64lt hy hx).mp q)), if_neg h1]
    by_cases h2 : x = y
    · rw [if_pos ((i64eq hx hy).mpr h2), if_pos h2]; rfl
    · rw [if_neg (fun q => h2 ((i64eq hx hy).mp q)), if_neg h2]; rfl
theorem Ev.lcmp {x y : Int} (hd : decode M.2.2.1 pc = .ok (.lcmp, 1)) (hn : pc + 1 = pc') (hx : I64 x) (hy : I64 y) (k : Ev M d pc' ls (iv (lgc x y) :: st) h Post) : Ev M d pc ls (jv y :: jv x :: st) h Post := by
  subst hn
  intro p l e R s m args below meth c D cy ad A Qc F H locs lsA X
  refine W.lcmp F.1 F.2.1 hd ?_
  rw [lgcE hx hy]
  exact k p l e R s m args below meth c D cy ad A Qc F H locs lsA X
theorem Ev.goto {off : Int} (hd : decode M.2.2.1 pc = .ok (.goto off, 3)) (hn : (pc : Int) + off = (pc' : Int)) (k : Ev M d pc' ls st h Post) : Ev M d pc ls st h Post := by
  intro p l e R s m args below meth c D cy ad A Qc F H locs lsA X
  exact lv_goto F.1 F.2.1 hd hn (k p l e R s m args below meth c D cy ad A Qc F H locs lsA X)
theorem i32ne {x y : Int} (hx : I32 x) (hy : I32 y) : Int32.ofInt x ≠ Int32.ofInt y ↔ x ≠ y := not_congr (i32eq hx hy)
theorem i32z : I32 0 := ⟨by decide, by decide⟩
theorem Ev.icmp_eq {x y : Int} {off : Int} {tgt : Nat} (hd : decode M.2.2.1 pc = .ok (.if_icmp .eq off, 3)) (hn : pc + 3 = pc') (ht : (pc : Int) + off = (tgt : Int)) (hx : I32 x) (hy : I32 y) (kt : (x = y) → Ev M d tgt ls st h Post) (kf : ¬ (x = y) → Ev M d pc' ls st h Post) : Ev M d pc ls (iv y :: iv x :: st) h Post := by
  subst hn
  intro p l e R s m args below meth c D cy ad A Qc F H locs lsA X
  refine lv_icmp_eq F.1 F.2.1 hd ht (fun q => ?_) (fun q => ?_)
  · exact kt ((i32eq hx hy).mp q) p l e R s m args below meth c D cy ad A Qc F H locs lsA X
  · exact kf (fun z => q ((i32eq hx hy).mpr z)) p l e R s m args below meth c D cy ad A Qc F H locs lsA X
theorem Ev.icmp_ne {x y : Int} {off : Int} {tgt : Nat} (hd : decode M.2.2.1 pc = .ok (.if_icmp .ne off, 3)) (hn : pc + 3 = pc') (ht : (pc : Int) + off = (tgt : Int)) (hx : I32 x) (hy : I32 y) (kt : (x ≠ y) → Ev M d tgt ls st h Post) (kf : (x = y) → Ev M d pc' ls st h Post) : Ev M d pc ls (iv y :: iv x :: st) h Post := by
  subst hn
  intro p l e R s m args below meth c D cy ad A Qc F H locs lsA X
  refine lv_icmp_ne F.1 F.2.1 hd ht (fun q => ?_) (fun q => ?_)
  · exact kt ((i32ne hx hy).mp q) p l e R s m args below meth c D cy ad A Qc F H locs lsA X
  · exact kf (((i32eq hx hy)).mp q) p l e R s m args below meth c D cy ad A Qc F H locs lsA X
theorem Ev.icmp_lt {x y : Int} {off : Int} {tgt : Nat} (hd : decode M.2.2.1 pc = .ok (.if_icmp .lt off, 3)) (hn : pc + 3 = pc') (ht : (pc : Int) + off = (tgt : Int)) (hx : I32 x) (hy : I32 y) (kt : (x < y) → Ev M d tgt ls st h Post) (kf : ¬ (x < y) → Ev M d pc' ls st h Post) : Ev M d pc ls (iv y :: iv x :: st) h Post := by
  subst hn
  intro p l e R s m args below meth c D cy ad A Qc F H locs lsA X
  refine lv_icmp_lt F.1 F.2.1 hd ht (fun q => ?_) (fun q => ?_)
  · exact kt ((i32lt hx hy).mp q) p l e R s m args below meth c D cy ad A Qc F H locs lsA X
  · exact kf (fun z => q ((i32lt hx hy).mpr z)) p l e R s m args below meth c D cy ad A Qc F H locs lsA X
theorem Ev.icmp_ge {x y : Int} {off : Int} {tgt : Nat} (hd : decode M.2.2.1 pc = .ok (.if_icmp .ge off, 3)) (hn : pc + 3 = pc') (ht : (pc : Int) + off = (tgt : Int)) (hx : I32 x) (hy : I32 y) (kt : (y ≤ x) → Ev M d tgt ls st h Post) (kf : ¬ (y ≤ x) → Ev M d pc' ls st h Post) : Ev M d pc ls (iv y :: iv x :: st) h Post := by
  subst hn
  intro p l e R s m args below meth c D cy ad A Qc F H locs lsA X
  refine lv_icmp_ge F.1 F.2.1 hd ht (fun q => ?_) (fun q => ?_)
  · exact kt ((i32le hy hx).mp q) p l e R s m args below meth c D cy ad A Qc F H locs lsA X
  · exact kf (fun z => q ((i32le hy hx).mpr z)) p l e R s m args below meth c D cy ad A Qc F H locs lsA X
theorem Ev.icmp_gt {x y : Int} {off : Int} {tgt : Nat} (hd : decode M.2.2.1 pc = .ok (.if_icmp .gt off, 3)) (hn : pc + 3 = pc') (ht : (pc : Int) + off = (tgt : Int)) (hx : I32 x) (hy : I32 y) (kt : (y < x) → Ev M d tgt ls st h Post) (kf : ¬ (y < x) → Ev M d pc' ls st h Post) : Ev M d pc ls (iv y :: iv x :: st) h Post := by
  subst hn
  intro p l e R s m args below meth c D cy ad A Qc F H locs lsA X
  refine lv_icmp_gt F.1 F.2.1 hd ht (fun q => ?_) (fun q => ?_)
  · exact kt ((i32lt hy hx).mp q) p l e R s m args below meth c D cy ad A Qc F H locs lsA X
  · exact kf (fun z => q ((i32lt hy hx).mpr z)) p l e R s m args below meth c D cy ad A Qc F H locs lsA X
theorem Ev.icmp_le {x y : Int} {off : Int} {tgt : Nat} (hd : decode M.2.2.1 pc = .ok (.if_icmp .le off, 3)) (hn : pc + 3 = pc') (ht : (pc : Int) + off = (tgt : Int)) (hx : I32 x) (hy : I32 y) (kt : (x ≤ y) → Ev M d tgt ls st h Post) (kf : ¬ (x ≤ y) → Ev M d pc' ls st h Post) : Ev M d pc ls (iv y :: iv x :: st) h Post := by
  subst hn
  intro p l e R s m args below meth c D cy ad A Qc F H locs lsA X
  refine lv_icmp_le F.1 F.2.1 hd ht (fun q => ?_) (fun q => ?_)
  · exact kt ((i32le hx hy).mp q) p l e R s m args below meth c D cy ad A Qc F H locs lsA X
  · exact kf (fun z => q ((i32le hx hy).mpr z)) p l e R s m args below meth c D cy ad A Qc F H locs lsA X
theorem Ev.if_eq {x : Int} {off : Int} {tgt : Nat} (hd : decode M.2.2.1 pc = .ok (.ifCond .eq off, 3)) (hn : pc + 3 = pc') (ht : (pc : Int) + off = (tgt : Int)) (hx : I32 x) (kt : (x = 0) → Ev M d tgt ls st h Post) (kf : ¬ (x = 0) → Ev M d pc' ls st h Post) : Ev M d pc ls (iv x :: st) h Post := by
  subst hn
  intro p l e R s m args below meth c D cy ad A Qc F H locs lsA X
  refine lv_if_eq F.1 F.2.1 hd ht (fun q => ?_) (fun q => ?_)
  · exact kt ((show _ ↔ _ from i32eq hx i32z).mp q) p l e R s m args below meth c D cy ad A Qc F H locs lsA X
  · exact kf (fun z => q ((show _ ↔ _ from i32eq hx i32z).mpr z)) p l e R s m args below meth c D cy ad A Qc F H locs lsA X
theorem Ev.if_ne {x : Int} {off : Int} {tgt : Nat} (hd : decode M.2.2.1 pc = .ok (.ifCond .ne off, 3)) (hn : pc + 3 = pc') (ht : (pc : Int) + off = (tgt : Int)) (hx : I32 x) (kt : (x ≠ 0) → Ev M d tgt ls st h Post) (kf : (x = 0) → Ev M d pc' ls st h Post) : Ev M d pc ls (iv x :: st) h Post := by
  subst hn
  intro p l e R s m args below meth c D cy ad A Qc F H locs lsA X
  refine lv_if_ne F.1 F.2.1 hd ht (fun q => ?_) (fun q => ?_)
  · exact kt ((show _ ↔ _ from i32ne hx i32z).mp q) p l e R s m args below meth c D cy ad A Qc F H locs lsA X
  · exact kf (((show _ ↔ _ from i32eq hx i32z)).mp q) p l e R s m args below meth c D cy ad A Qc F H locs lsA X
theorem Ev.if_lt {x : Int} {off : Int} {tgt : Nat} (hd : decode M.2.2.1 pc = .ok (.ifCond .lt off, 3)) (hn : pc + 3 = pc') (ht : (pc : Int) + off = (tgt : Int)) (hx : I32 x) (kt : (x < 0) → Ev M d tgt ls st h Post) (kf : ¬ (x < 0) → Ev M d pc' ls st h Post) : Ev M d pc ls (iv x :: st) h Post := by
  subst hn
  intro p l e R s m args below meth c D cy ad A Qc F H locs lsA X
  refine lv_if_lt F.1 F.2.1 hd ht (fun q => ?_) (fun q => ?_)
  · exact kt ((show _ ↔ _ from i32lt hx i32z).mp q) p l e R s m args below meth c D cy ad A Qc F H locs lsA X
  · exact kf (fun z => q ((show _ ↔ _ from i32lt hx i32z).mpr z)) p l e R s m args below meth c D cy ad A Qc F H locs lsA X
theorem Ev.if_ge {x : Int} {off : Int} {tgt : Nat} (hd : decode M.2.2.1 pc = .ok (.ifCond .ge off, 3)) (hn : pc + 3 = pc') (ht : (pc : Int) + off = (tgt : Int)) (hx : I32 x) (kt : (0 ≤ x) → Ev M d tgt ls st h Post) (kf : ¬ (0 ≤ x) → Ev M d pc' ls st h Post) : Ev M d pc ls (iv x :: st) h Post := by
  subst hn
  intro p l e R s m args below meth c D cy ad A Qc F H locs lsA X
  refine lv_if_ge F.1 F.2.1 hd ht (fun q => ?_) (fun q => ?_)
  · exact kt ((show _ ↔ _ from i32le i32z hx).mp q) p l e R s m args below meth c D cy ad A Qc F H locs lsA X
  · exact kf (fun z => q ((show _ ↔ _ from i32le i32z hx).mpr z)) p l e R s m args below meth c D cy ad A Qc F H locs lsA X
theorem Ev.if_gt {x : Int} {off : Int} {tgt : Nat} (hd : decode M.2.2.1 pc = .ok (.ifCond .gt off, 3)) (hn : pc + 3 = pc') (ht : (pc : Int) + off = (tgt : Int)) (hx : I32 x) (kt : (0 < x) → Ev M d tgt ls st h Post) (kf : ¬ (0 < x) → Ev M d pc' ls st h Post) : Ev M d pc ls (iv x :: st) h Post := by
  subst hn
  intro p l e R s m args below meth c D cy ad A Qc F H locs lsA X
  refine lv_if_gt F.1 F.2.1 hd ht (fun q => ?_) (fun q => ?_)
  · exact kt ((show _ ↔ _ from i32lt i32z hx).mp q) p l e R s m args below meth c D cy ad A Qc F H locs lsA X
  · exact kf (fun z => q ((show _ ↔ _ from i32lt i32z hx).mpr z)) p l e R s m args below meth c D cy ad A Qc F H locs lsA X
theorem Ev.if_le {x : Int} {off : Int} {tgt : Nat} (hd : decode M.2.2.1 pc = .ok (.ifCond .le off, 3)) (hn : pc + 3 = pc') (ht : (pc : Int) + off = (tgt : Int)) (hx : I32 x) (kt : (x ≤ 0) → Ev M d tgt ls st h Post) (kf : ¬ (x ≤ 0) → Ev M d pc' ls st h Post) : Ev M d pc ls (iv x :: st) h Post := by
  subst hn
  intro p l e R s m args below meth c D cy ad A Qc F H locs lsA X
  refine lv_if_le F.1 F.2.1 hd ht (fun q => ?_) (fun q => ?_)
  · exact kt ((show _ ↔ _ from i32le hx i32z).mp q) p l e R s m args below meth c D cy ad A Qc F H locs lsA X
  · exact kf (fun z => q ((show _ ↔ _ from i32le hx i32z).mpr z)) p l e R s m args below meth c D cy ad A Qc F H locs lsA X
theorem Ev.iret {x : Int} (hd : decode M.2.2.1 pc = .ok (.ireturn, 1)) (hr : M.2.2.2.2 = some .int) (hp : Post (some (iv x)) h) : Ev M d pc ls [iv x] h Post := by
  intro p l e R s m args below meth c D cy ad A Qc F H locs lsA X
  exact W.iret F.1 F.2.1 (F.2.2.2.1.trans hr) (fun t ht hW => F.2.2.2.2.2.2.2.2.2.2 _ _ t hp hW (by rw [ht]; exact X.1) (X.2.2.1.F ht)) X.2.2.1.2.2 hd F.2.2.2.2.1
theorem Ev.zret {x : Int} (hd : decode M.2.2.1 pc = .ok (.ireturn, 1)) (hr : M.2.2.2.2 = some .boolean) (hx : x = 0 ∨ x = 1) (hp : Post (some (iv x)) h) : Ev M d pc ls [iv x] h Post := by
  intro p l e R s m args below meth c D cy ad A Qc F H locs lsA X
  exact W.zret F.1 F.2.1 (F.2.2.2.1.trans hr) (by rcases hx with rfl | rfl <;> rfl) (fun t ht hW => F.2.2.2.2.2.2.2.2.2.2 _ _ t hp hW (by rw [ht]; exact X.1) (X.2.2.1.F ht)) X.2.2.1.2.2 hd F.2.2.2.2.1
theorem Ev.cret {x : Int} (hd : decode M.2.2.1 pc = .ok (.ireturn, 1)) (hr : M.2.2.2.2 = some .char) (hx : 0 ≤ x ∧ x < 65536) (hp : Post (some (iv x)) h) : Ev M d pc ls [iv x] h Post := by
  intro p l e R s m args below meth c D cy ad A Qc F H locs lsA X
  exact W.zret F.1 F.2.1 (F.2.2.2.1.trans hr) (congrArg Value.int (narC hx)) (fun t ht hW => F.2.2.2.2.2.2.2.2.2.2 _ _ t hp hW (by rw [ht]; exact X.1) (X.2.2.1.F ht)) X.2.2.1.2.2 hd F.2.2.2.2.1
theorem Ev.lret {x : Int} (hd : decode M.2.2.1 pc = .ok (.lreturn, 1)) (hr : M.2.2.2.2 = some .long) (hp : Post (some (jv x)) h) : Ev M d pc ls [jv x] h Post := by
  intro p l e R s m args below meth c D cy ad A Qc F H locs lsA X
  exact W.lret F.1 F.2.1 (F.2.2.2.1.trans hr) (fun t ht hW => F.2.2.2.2.2.2.2.2.2.2 _ _ t hp hW (by rw [ht]; exact X.1) (X.2.2.1.F ht)) X.2.2.1.2.2 hd F.2.2.2.2.1
theorem Ev.vret (hd : decode M.2.2.1 pc = .ok (.return_, 1)) (hr : M.2.2.2.2 = none) (hp : Post none h) : Ev M d pc ls [] h Post := by
  intro p l e R s m args below meth c D cy ad A Qc F H locs lsA X
  exact W.vret F.1 F.2.1 (F.2.2.2.1.trans hr) (fun t ht hW => F.2.2.2.2.2.2.2.2.2.2 _ _ t hp hW (by rw [ht]; exact X.1) (X.2.2.1.F ht)) X.2.2.1.2.2 hd F.2.2.2.2.1
end EVR
end
section
/-! Fields, arrays, calls. -/
def FG (own : String) (idx ci k : Nat) : Prop := ∃ (C : String) (T : u_T) (N : Nat), vwCl[ci]? = some (C, T, N) ∧ k < N ∧ (∀ w ∈ u_ws C T N, w ∈ BG) ∧ Cond.fieldLink own idx (T k).1 (T k).2.1 (T k).2.2.1 ∈ BG
def FP (own : String) (idx ci k : Nat) (ty : FieldType) : Prop := ∃ (C : String) (T : u_T) (N : Nat) (ty0 : Nat → FieldType), vwCl[ci]? = some (C, T, N) ∧ k < N ∧ (∀ w ∈ u_ws C T N, w ∈ BG) ∧ Cond.fieldLink own idx (T k).1 (T k).2.1 (T k).2.2.1 ∈ BG ∧ (∀ k, k < N → parseFieldDescriptor (T k).2.2.1 = some (ty0 k)) ∧ (∀ a, a < N → ∀ b, b < N → a ≠ b → (T a).2.1 ≠ (T b).2.1) ∧ (T k).2.2.2 = false ∧ parseFieldDescriptor (T k).2.2.1 = some ty
section EVH
variable {M : Mi} {d pc pc' : Nat} {ls : List (Option Value)} {st : List Value} {h : Hp} {Post : Pst}
theorem fl_get {ad : Nat → Nat} {h : Hp} {id k kd : Nat} {ks : List Nat} (hk : ks[k]? = some kd) : (ks.mapIdx (fun k kd => fvl ad h id k kd))[k]? = some (fvl ad h id k kd) := by
  rw [List.getElem?_mapIdx, hk]
  rfl
theorem Ev.getI {idx ci id k : Nat} {ks : List Nat} (hd : decode M.2.2.1 pc = .ok (.getfield idx, 3)) (hn : pc + 3 = pc') (hf : FG M.2.1 idx ci k) (hy : M.1.2[id]? = some (.inl (ci, ks))) (hk : ks[k]? = some 0) (kk : Ev M d pc' ls (iv (h.1 id k) :: st) h Post) : Ev M d pc ls (.ref id :: st) h Post := by
  subst hn
  intro p l e R s m args below meth c D cy ad A Qc F H locs lsA X
  obtain ⟨C, T, N, h1, h2, h3, h4⟩ := hf
  have hF := F
  obtain ⟨fx, fb, fml, fr, flk, fown, fts, fN, fR, fK, fQ⟩ := F
  refine va_get fx fb fts h3 fown fK X.1 id (lws_get hy) h1 k h2 (fts _ h4) (fun _ q => q) (fl_get hk) hd ?_
  exact kk p l e R s m args below meth c D cy ad A Qc hF H locs lsA X
theorem Ev.getL {idx ci id k : Nat} {ks : List Nat} (hd : decode M.2.2.1 pc = .ok (.getfield idx, 3)) (hn : pc + 3 = pc') (hf : FG M.2.1 idx ci k) (hy : M.1.2[id]? = some (.inl (ci, ks))) (hk : ks[k]? = some 1) (kk : Ev M d pc' ls (jv (h.2.1 id k) :: st) h Post) : Ev M d pc ls (.ref id :: st) h Post := by
  subst hn
  intro p l e R s m args below meth c D cy ad A Qc F H locs lsA X
  obtain ⟨C, T, N, h1, h2, h3, h4⟩ := hf
  have hF := F
  obtain ⟨fx, fb, fml, fr, flk, fown, fts, fN, fR, fK, fQ⟩ := F
  refine va_get fx fb fts h3 fown fK X.1 id (lws_get hy) h1 k h2 (fts _ h4) (fun _ q => q) (fl_get hk) hd ?_
  exact kk p l e R s m args below meth c D cy ad A Qc hF H locs lsA X
theorem Ev.getR {idx ci id k r : Nat} {ks : List Nat} (hd : decode M.2.2.1 pc = .ok (.getfield idx, 3)) (hn : pc + 3 = pc') (hf : FG M.2.1 idx ci k) (hy : M.1.2[id]? = some (.inl (ci, ks))) (hk : ks[k]? = some 2) (hr : h.2.2 id k = r) (kk : Ev M d pc' ls (.ref r :: st) h Post) : Ev M d pc ls (.ref id :: st) h Post := by
  subst hn
  subst hr
  intro p l e R s m args below meth c D cy ad A Qc F H locs lsA X
  obtain ⟨C, T, N, h1, h2, h3, h4⟩ := hf
  have hF := F
  obtain ⟨fx, fb, fml, fr, flk, fown, fts, fN, fR, fK, fQ⟩ := F
  refine va_get fx fb fts h3 fown fK X.1 id (lws_get hy) h1 k h2 (fts _ h4) (fun _ q => q) (fl_get hk) hd ?_
  exact kk p l e R s m args below meth c D cy ad A Qc hF H locs lsA X
theorem Ev.putI {idx ci id k : Nat} {ks : List Nat} {x : Int} {ty : FieldType} (hd : decode M.2.2.1 pc = .ok (.putfield idx, 3)) (hn : pc + 3 = pc') (hf : FP M.2.1 idx ci k ty) (hy : M.1.2[id]? = some (.inl (ci, ks))) (hk : ks[k]? = some 0) (hty : ty = .int ∨ (ty = .boolean ∧ (x = 0 ∨ x = 1))) (kk : Ev M d pc' ls st (hI h id k x) Post) : Ev M d pc ls (iv x :: .ref id :: st) h Post := by
  subst hn
  intro p l e R s m args below meth c D cy ad A Qc F H locs lsA X
  obtain ⟨C, T, N, ty0, h1, h2, h3, h4, h5, h6, h7, h8⟩ := hf
  have hF := F
  obtain ⟨fx, fb, fml, fr, flk, fown, fts, fN, fR, fK, fQ⟩ := F
  refine va_put (v := iv x) fx fb fts h3 ty0 h5 h6 fown fK X.1 X.2.1 X.2.2.1 id (lws_get hy) h1 k h2 (fts _ h4) (fun _ q => q) h7 h8 ?_ ?_ (by rw [List.length_mapIdx]; exact (List.getElem?_eq_some_iff.mp hk).1) hd (fun H1 locs1 hP hD hS => ?_)
  · rcases hty with rfl | ⟨rfl, rfl | rfl⟩ <;> rfl
  · rcases hty with rfl | ⟨rfl, rfl | rfl⟩ <;> rfl
  · have hE := lws_set (cy := cy) (ad := ad) (h := h) hy (lce_fI (tys := M.1.1) (cy := cy) (ad := ad) (h := h) (id := id) (ci := ci) (x := x) hk) lce_oI
    rw [hE] at hP hD
    exact kk p l e R s m args below meth c D cy ad A Qc hF H1 locs1 lsA ⟨hP, hD, hS, X.2.2.2⟩
theorem Ev.putL {idx ci id k : Nat} {ks : List Nat} {x : Int} (hd : decode M.2.2.1 pc = .ok (.putfield idx, 3)) (hn : pc + 3 = pc') (hf : FP M.2.1 idx ci k .long) (hy : M.1.2[id]? = some (.inl (ci, ks))) (hk : ks[k]? = some 1) (kk : Ev M d pc' ls st (hL h id k x) Post) : Ev M d pc ls (jv x :: .ref id :: st) h Post := by
  subst hn
  intro p l e R s m args below meth c D cy ad A Qc F H locs lsA X
  obtain ⟨C, T, N, ty0, h1, h2, h3, h4, h5, h6, h7, h8⟩ := hf
  have hF := F
  obtain ⟨fx, fb, fml, fr, flk, fown, fts, fN, fR, fK, fQ⟩ := F
  refine va_put (v := jv x) fx fb fts h3 ty0 h5 h6 fown fK X.1 X.2.1 X.2.2.1 id (lws_get hy) h1 k h2 (fts _ h4) (fun _ q => q) h7 h8 rfl rfl (by rw [List.length_mapIdx]; exact (List.getElem?_eq_some_iff.mp hk).1) hd (fun H1 locs1 hP hD hS => ?_)
  have hE := lws_set (cy := cy) (ad := ad) (h := h) hy (lce_fL (tys := M.1.1) (cy := cy) (ad := ad) (h := h) (id := id) (ci := ci) (x := x) hk) lce_oL
  rw [hE] at hP hD
  exact kk p l e R s m args below meth c D cy ad A Qc hF H1 locs1 lsA ⟨hP, hD, hS, X.2.2.2⟩
theorem Ev.putR {idx ci id k x : Nat} {ks : List Nat} {ty : FieldType} (hd : decode M.2.2.1 pc = .ok (.putfield idx, 3)) (hn : pc + 3 = pc') (hf : FP M.2.1 idx ci k ty) (hy : M.1.2[id]? = some (.inl (ci, ks))) (hk : ks[k]? = some 2) (hty : ∃ n, ty = .object n) (kk : Ev M d pc' ls st (hR h id k x) Post) : Ev M d pc ls (.ref x :: .ref id :: st) h Post := by
  subst hn
  intro p l e R s m args below meth c D cy ad A Qc F H locs lsA X
  obtain ⟨C, T, N, ty0, h1, h2, h3, h4, h5, h6, h7, h8⟩ := hf
  obtain ⟨n, rfl⟩ := hty
  have hF := F
  obtain ⟨fx, fb, fml, fr, flk, fown, fts, fN, fR, fK, fQ⟩ := F
  refine va_put (v := .ref (ad x)) fx fb fts h3 ty0 h5 h6 fown fK X.1 X.2.1 X.2.2.1 id (lws_get hy) h1 k h2 (fts _ h4) (fun _ q => q) h7 h8 rfl rfl (by rw [List.length_mapIdx]; exact (List.getElem?_eq_some_iff.mp hk).1) hd (fun H1 locs1 hP hD hS => ?_)
  have hE := lws_set (cy := cy) (ad := ad) (h := h) hy (lce_fR (tys := M.1.1) (cy := cy) (ad := ad) (h := h) (id := id) (ci := ci) (x := x) hk) lce_oR
  rw [hE] at hP hD
  exact kk p l e R s m args below meth c D cy ad A Qc hF H1 locs1 lsA ⟨hP, hD, hS, X.2.2.2⟩
-- arrays of ints, chars, bytes, booleans
theorem lw_arrI {Ly : Lay} {cy : Nat → ClassId} {ad : Nat → Nat} {h : Hp} {id t n : Nat} {ty : FieldType} (hL : Ly.2[id]? = some (.inr (t, n))) (ht : Ly.1[t]? = some ty) (hk : acn ad h id (some ty) = .inl (fun k => Int32.ofInt (h.1 id k))) : (lws Ly cy ad h)[id]? = some (ad id, .inl (cy t, n, .inl (fun k => Int32.ofInt (h.1 id k)))) := by
  rw [lws_get hL]
  simp only [lce, ht, hk]
theorem lce_aI {tys : List FieldType} {cy : Nat → ClassId} {ad : Nat → Nat} {h : Hp} {id t n k : Nat} {x : Int} {ty : FieldType} {g : Nat → Int32} (ht : tys[t]? = some ty) (hk : ∀ h' : Hp, acn ad h' id (some ty) = .inl (fun k => Int32.ofInt (h'.1 id k))) (hg : ∀ j, g j = Int32.ofInt (if j = k then x else h.1 id j)) : (Sum.inl (cy t, n, Sum.inl g) : va_E) = lce tys cy ad (hI h id k x) id (.inr (t, n)) := by
  simp only [lce, ht, hk]
  congr 4
  funext j
  rw [hg j]
  simp [hI]
theorem Ev.iaload {id t n : Nat} {i : Int} (hd : decode M.2.2.1 pc = .ok (.iaload, 1)) (hn : pc + 1 = pc') (hy : M.1.2[id]? = some (.inr (t, n))) (ht : M.1.1[t]? = some .int) (hi : 0 ≤ i ∧ i < n) (hb : n < 2147483648) (kk : Ev M d pc' ls (iv (h.1 id i.toNat) :: st) h Post) : Ev M d pc ls (iv i :: .ref id :: st) h Post := by
  subst hn
  intro p l e R s m args below meth c D cy ad A Qc F H locs lsA X
  refine va_iald F.1 F.2.1 F.2.2.2.2.2.2.2.2.2.1 X.1 id t (lw_arrI hy ht rfl) (kty_get ht) (i32in hi.1 hi.2 hb) hd ?_
  rw [i32cl hi.1 (by omega)]
  exact kk p l e R s m args below meth c D cy ad A Qc F H locs lsA X
theorem Ev.caload {id t n : Nat} {i : Int} (hd : decode M.2.2.1 pc = .ok (.caload, 1)) (hn : pc + 1 = pc') (hy : M.1.2[id]? = some (.inr (t, n))) (ht : M.1.1[t]? = some .char) (hi : 0 ≤ i ∧ i < n) (hb : n < 2147483648) (kk : Ev M d pc' ls (iv (h.1 id i.toNat) :: st) h Post) : Ev M d pc ls (iv i :: .ref id :: st) h Post := by
  subst hn
  intro p l e R s m args below meth c D cy ad A Qc F H locs lsA X
  refine va_cald F.1 F.2.1 F.2.2.2.2.2.2.2.2.2.1 X.1 id t (lw_arrI hy ht rfl) (kty_get ht) (i32in hi.1 hi.2 hb) hd ?_
  rw [i32cl hi.1 (by omega)]
  exact kk p l e R s m args below meth c D cy ad A Qc F H locs lsA X
theorem Ev.baload {id t n : Nat} {i : Int} (hd : decode M.2.2.1 pc = .ok (.baload, 1)) (hn : pc + 1 = pc') (hy : M.1.2[id]? = some (.inr (t, n))) (ht : M.1.1[t]? = some .byte) (hi : 0 ≤ i ∧ i < n) (hb : n < 2147483648) (kk : Ev M d pc' ls (iv (h.1 id i.toNat) :: st) h Post) : Ev M d pc ls (iv i :: .ref id :: st) h Post := by
  subst hn
  intro p l e R s m args below meth c D cy ad A Qc F H locs lsA X
  refine va_bald F.1 F.2.1 F.2.2.2.2.2.2.2.2.2.1 X.1 id t (lw_arrI hy ht rfl) (kty_get ht) (i32in hi.1 hi.2 hb) hd ?_
  rw [i32cl hi.1 (by omega)]
  exact kk p l e R s m args below meth c D cy ad A Qc F H locs lsA X
theorem Ev.zaload {id t n : Nat} {i : Int} (hd : decode M.2.2.1 pc = .ok (.baload, 1)) (hn : pc + 1 = pc') (hy : M.1.2[id]? = some (.inr (t, n))) (ht : M.1.1[t]? = some .boolean) (hi : 0 ≤ i ∧ i < n) (hb : n < 2147483648) (kk : Ev M d pc' ls (iv (h.1 id i.toNat) :: st) h Post) : Ev M d pc ls (iv i :: .ref id :: st) h Post := by
  subst hn
  intro p l e R s m args below meth c D cy ad A Qc F H locs lsA X
  refine va_zald F.1 F.2.1 F.2.2.2.2.2.2.2.2.2.1 X.1 id t (lw_arrI hy ht rfl) (kty_get ht) (i32in hi.1 hi.2 hb) hd ?_
  rw [i32cl hi.1 (by omega)]
  exact kk p l e R s m args below meth c D cy ad A Qc F H locs lsA X
theorem Ev.iastore {id t n : Nat} {i x : Int} (hd : decode M.2.2.1 pc = .ok (.iastore, 1)) (hn : pc + 1 = pc') (hy : M.1.2[id]? = some (.inr (t, n))) (ht : M.1.1[t]? = some .int) (hi : 0 ≤ i ∧ i < n) (hb : n < 2147483648)  (kk : Ev M d pc' ls st (hI h id i.toNat x) Post) : Ev M d pc ls (iv x :: iv i :: .ref id :: st) h Post := by
  subst hn
  intro p l e R s m args below meth c D cy ad A Qc F H locs lsA X
  refine va_iast F.1 F.2.1 F.2.2.2.2.2.2.2.2.2.1 X.1 X.2.1 X.2.2.1 id t (lw_arrI hy ht rfl) (kty_get ht) (i32in hi.1 hi.2 hb) hd (fun H1 locs1 hP hD hS => ?_)
  rw [i32cl hi.1 (by omega)] at hP hD
  have hE := lws_set (cy := cy) (ad := ad) (h := h) hy (lce_aI (n := n) (x := x) (k := i.toNat) (h := h) (g := upd (fun k => Int32.ofInt (h.1 id k)) i.toNat (Int32.ofInt x)) ht (fun _ => rfl) (fun j => by
    unfold upd; split <;> rfl)) lce_oI
  rw [hE] at hP hD
  exact kk p l e R s m args below meth c D cy ad A Qc F H1 locs1 lsA ⟨hP, hD, hS, X.2.2.2⟩
theorem Ev.castore {id t n : Nat} {i x : Int} (hd : decode M.2.2.1 pc = .ok (.castore, 1)) (hn : pc + 1 = pc') (hy : M.1.2[id]? = some (.inr (t, n))) (ht : M.1.1[t]? = some .char) (hi : 0 ≤ i ∧ i < n) (hb : n < 2147483648) (hx : 0 ≤ x ∧ x < 65536) (kk : Ev M d pc' ls st (hI h id i.toNat x) Post) : Ev M d pc ls (iv x :: iv i :: .ref id :: st) h Post := by
  subst hn
  intro p l e R s m args below meth c D cy ad A Qc F H locs lsA X
  refine va_cast F.1 F.2.1 F.2.2.2.2.2.2.2.2.2.1 X.1 X.2.1 X.2.2.1 id t (lw_arrI hy ht rfl) (kty_get ht) (i32in hi.1 hi.2 hb) hd (fun H1 locs1 hP hD hS => ?_)
  rw [i32cl hi.1 (by omega)] at hP hD
  have hE := lws_set (cy := cy) (ad := ad) (h := h) hy (lce_aI (n := n) (x := x) (k := i.toNat) (h := h) (g := upd (fun k => Int32.ofInt (h.1 id k)) i.toNat (vp_nar .char (Int32.ofInt x))) ht (fun _ => rfl) (fun j => by
    unfold upd; split <;> first | exact (vp_nar_char _).trans (narC hx) | rfl)) lce_oI
  rw [hE] at hP hD
  exact kk p l e R s m args below meth c D cy ad A Qc F H1 locs1 lsA ⟨hP, hD, hS, X.2.2.2⟩
theorem Ev.bastore {id t n : Nat} {i x : Int} (hd : decode M.2.2.1 pc = .ok (.bastore, 1)) (hn : pc + 1 = pc') (hy : M.1.2[id]? = some (.inr (t, n))) (ht : M.1.1[t]? = some .byte) (hi : 0 ≤ i ∧ i < n) (hb : n < 2147483648) (hx : -128 ≤ x ∧ x ≤ 127) (kk : Ev M d pc' ls st (hI h id i.toNat x) Post) : Ev M d pc ls (iv x :: iv i :: .ref id :: st) h Post := by
  subst hn
  intro p l e R s m args below meth c D cy ad A Qc F H locs lsA X
  refine va_bast F.1 F.2.1 F.2.2.2.2.2.2.2.2.2.1 X.1 X.2.1 X.2.2.1 id t (lw_arrI hy ht rfl) (kty_get ht) (i32in hi.1 hi.2 hb) hd (fun H1 locs1 hP hD hS => ?_)
  rw [i32cl hi.1 (by omega)] at hP hD
  have hE := lws_set (cy := cy) (ad := ad) (h := h) hy (lce_aI (n := n) (x := x) (k := i.toNat) (h := h) (g := upd (fun k => Int32.ofInt (h.1 id k)) i.toNat (vp_nar .byte (Int32.ofInt x))) ht (fun _ => rfl) (fun j => by
    unfold upd; split <;> first | exact (vp_nar_byte _).trans (i2bE hx) | rfl)) lce_oI
  rw [hE] at hP hD
  exact kk p l e R s m args below meth c D cy ad A Qc F H1 locs1 lsA ⟨hP, hD, hS, X.2.2.2⟩
theorem Ev.zastore {id t n : Nat} {i x : Int} (hd : decode M.2.2.1 pc = .ok (.bastore, 1)) (hn : pc + 1 = pc') (hy : M.1.2[id]? = some (.inr (t, n))) (ht : M.1.1[t]? = some .boolean) (hi : 0 ≤ i ∧ i < n) (hb : n < 2147483648) (hx : x = 0 ∨ x = 1) (kk : Ev M d pc' ls st (hI h id i.toNat x) Post) : Ev M d pc ls (iv x :: iv i :: .ref id :: st) h Post := by
  subst hn
  intro p l e R s m args below meth c D cy ad A Qc F H locs lsA X
  refine va_zast F.1 F.2.1 F.2.2.2.2.2.2.2.2.2.1 X.1 X.2.1 X.2.2.1 id t (lw_arrI hy ht rfl) (kty_get ht) (i32in hi.1 hi.2 hb) hd (fun H1 locs1 hP hD hS => ?_)
  rw [i32cl hi.1 (by omega)] at hP hD
  have hE := lws_set (cy := cy) (ad := ad) (h := h) hy (lce_aI (n := n) (x := x) (k := i.toNat) (h := h) (g := upd (fun k => Int32.ofInt (h.1 id k)) i.toNat (vp_nar .boolean (Int32.ofInt x))) ht (fun _ => rfl) (fun j => by
    unfold upd; split <;> first | (rcases hx with rfl | rfl <;> rfl) | rfl)) lce_oI
  rw [hE] at hP hD
  exact kk p l e R s m args below meth c D cy ad A Qc F H1 locs1 lsA ⟨hP, hD, hS, X.2.2.2⟩
-- arrays of longs
theorem lw_arrL {Ly : Lay} {cy : Nat → ClassId} {ad : Nat → Nat} {h : Hp} {id t n : Nat} (hL : Ly.2[id]? = some (.inr (t, n))) (ht : Ly.1[t]? = some .long) : (lws Ly cy ad h)[id]? = some (ad id, .inl (cy t, n, .inr (.inl (fun k => Int64.ofInt (h.2.1 id k))))) := by
  rw [lws_get hL]
  simp only [lce, ht, acn]
theorem lce_aL {tys : List FieldType} {cy : Nat → ClassId} {ad : Nat → Nat} {h : Hp} {id t n k : Nat} {x : Int} {g : Nat → Int64} (ht : tys[t]? = some .long) (hg : ∀ j, g j = Int64.ofInt (if j = k then x else h.2.1 id j)) : (Sum.inl (cy t, n, Sum.inr (Sum.inl g)) : va_E) = lce tys cy ad (hL h id k x) id (.inr (t, n)) := by
  simp only [lce, ht, acn]
  congr 5
  funext j
  rw [hg j]
  simp [hL]
theorem Ev.laload {id t n : Nat} {i : Int} (hd : decode M.2.2.1 pc = .ok (.laload, 1)) (hn : pc + 1 = pc') (hy : M.1.2[id]? = some (.inr (t, n))) (ht : M.1.1[t]? = some .long) (hi : 0 ≤ i ∧ i < n) (hb : n < 2147483648) (kk : Ev M d pc' ls (jv (h.2.1 id i.toNat) :: st) h Post) : Ev M d pc ls (iv i :: .ref id :: st) h Post := by
  subst hn
  intro p l e R s m args below meth c D cy ad A Qc F H locs lsA X
  refine va_lald F.1 F.2.1 F.2.2.2.2.2.2.2.2.2.1 X.1 id t (lw_arrL hy ht) (kty_get ht) (i32in hi.1 hi.2 hb) hd ?_
  rw [i32cl hi.1 (by omega)]
  exact kk p l e R s m args below meth c D cy ad A Qc F H locs lsA X
theorem Ev.lastore {id t n : Nat} {i x : Int} (hd : decode M.2.2.1 pc = .ok (.lastore, 1)) (hn : pc + 1 = pc') (hy : M.1.2[id]? = some (.inr (t, n))) (ht : M.1.1[t]? = some .long) (hi : 0 ≤ i ∧ i < n) (hb : n < 2147483648) (kk : Ev M d pc' ls st (hL h id i.toNat x) Post) : Ev M d pc ls (jv x :: iv i :: .ref id :: st) h Post := by
  subst hn
  intro p l e R s m args below meth c D cy ad A Qc F H locs lsA X
  refine va_last F.1 F.2.1 F.2.2.2.2.2.2.2.2.2.1 X.1 X.2.1 X.2.2.1 id t (lw_arrL hy ht) (kty_get ht) (i32in hi.1 hi.2 hb) hd (fun H1 locs1 hP hD hS => ?_)
  rw [i32cl hi.1 (by omega)] at hP hD
  have hE := lws_set (cy := cy) (ad := ad) (h := h) hy (lce_aL (n := n) (x := x) (k := i.toNat) (h := h) (g := vp_updL (fun k => Int64.ofInt (h.2.1 id k)) i.toNat (Int64.ofInt x)) ht (fun j => by
    unfold vp_updL; split <;> rfl)) lce_oL
  rw [hE] at hP hD
  exact kk p l e R s m args below meth c D cy ad A Qc F H1 locs1 lsA ⟨hP, hD, hS, X.2.2.2⟩
-- arrays of references
theorem Ev.aaload {id t n r : Nat} {i : Int} {ty : FieldType} (hd : decode M.2.2.1 pc = .ok (.aaload, 1)) (hn : pc + 1 = pc') (hy : M.1.2[id]? = some (.inr (t, n))) (ht : M.1.1[t]? = some ty) (hty : (∃ z, ty = .object z) ∨ ∃ z, ty = .array z) (hi : 0 ≤ i ∧ i < n) (hb : n < 2147483648) (hr : h.2.2 id i.toNat = r) (kk : Ev M d pc' ls (.ref r :: st) h Post) : Ev M d pc ls (iv i :: .ref id :: st) h Post := by
  subst hn
  subst hr
  intro p l e R s m args below meth c D cy ad A Qc F H locs lsA X
  have hw : (lws M.1 cy ad h)[id]? = some (ad id, .inl (cy t, n, .inr (.inr (.inr (.inr (fun k => some (ad (h.2.2 id k)))))))) := by
    rw [lws_get hy]
    rcases hty with ⟨z, rfl⟩ | ⟨z, rfl⟩ <;> simp only [lce, ht, acn]
  have hin := i32in hi.1 hi.2 hb
  have hlt : (Int32.ofInt i).toNatClampNeg < n := Nat.not_le.mp fun q => hin (Or.inr q)
  refine W.aald (v := va_rf ((fun k => some (ad (h.2.2 id k))) (Int32.ofInt i).toNatClampNeg)) (ty := ty) F.1 F.2.1 (X.1 id _ hw) ((F.2.2.2.2.2.2.2.2.2.1.2 t _ (kty_get ht)).1 n (fun j => va_rf (some (ad (h.2.2 id j))))) (by rcases hty with ⟨z, rfl⟩ | ⟨z, rfl⟩ <;> rfl) (fun q => by cases q) (by show ¬ (Int32.ofInt i < 0 ∨ (arrV _ _ _).slots.size ≤ _); rw [arrV_size]; exact hin) (by show (arrV _ _ _).slots[_]? = _; rw [arrV_read _ _ hlt]) rfl rfl hd ?_
  rw [i32cl hi.1 (by omega)]
  exact kk p l e R s m args below meth c D cy ad A Qc F H locs lsA X
end EVH
end
section
/-! Calls: a method's contract is Ev at its entry. -/
def entA : List Value → List (Option Value)
  | [] => []
  | v :: vs => some v :: ((if v.category = 2 then [none] else []) ++ entA vs)
def entL (as : List Value) (n : Nat) : List (Option Value) := entA as ++ List.replicate (n - (entA as).length) none
theorem entA_args {ad : Nat → Nat} : ∀ (as : List Value) (i j : Nat) (v : Value), (entA as)[i]? = some (some v) → (j + i, cv ad v) ∈ lv_args j (as.map (cv ad))
  | [], i, j, v, h => by simp [entA] at h
  | a :: as, 0, j, v, h => by
    simp only [entA, List.getElem?_cons_zero, Option.some.injEq] at h
    subst h
    simp [lv_args]
  | a :: as, i + 1, j, v, h => by
    simp only [entA, List.getElem?_cons_succ] at h
    simp only [List.map_cons, lv_args]
    apply List.mem_cons_of_mem
    rw [cv_cat]
    by_cases hc : a.category = 2
    · rw [if_pos hc] at h ⊢
      match i, h with
      | 0, h => simp at h
      | i + 1, h =>
        simp only [List.cons_append, List.nil_append, List.getElem?_cons_succ] at h
        have := entA_args (ad := ad) as i (j + 2) v h
        rw [show j + (i + 1 + 1) = j + 2 + i by omega]
        exact this
    · rw [if_neg hc] at h ⊢
      have := entA_args (ad := ad) as i (j + 1) v h
      rw [show j + (i + 1) = j + 1 + i by omega]
      exact this
theorem entA_len (ad : Nat → Nat) : ∀ as : List Value, (lg_sl (as.map (cv ad))).length = (entA as).length
  | [] => rfl
  | a :: as => by
    have ih := entA_len ad as
    simp only [lg_sl, List.map_cons, List.flatMap_cons, List.length_append, entA, List.length_cons, cv_cat] at ih ⊢
    by_cases hc : a.category = 2
    · simp only [hc, if_true, List.length_cons, List.length_nil] at ih ⊢
      omega
    · simp only [hc, if_false, List.length_cons, List.length_nil] at ih ⊢
      omega
theorem entL_lok {ad : Nat → Nat} {as : List Value} {n : Nat} (hn : (entA as).length ≤ n) : lok ad ((lg_sl (as.map (cv ad)) ++ List.replicate (n - (lg_sl (as.map (cv ad))).length) Slot.unset).toArray) n (entL as n) := by
  have h := lv_entry (as.map (cv ad)) (n := n) (by rw [entA_len]; exact hn)
  refine ⟨h.1, h.2.1, fun i v hv => ?_⟩
  have h2 : (entA as)[i]? = some (some v) := by
    unfold entL at hv
    by_cases hl : i < (entA as).length
    · rwa [List.getElem?_append_left hl] at hv
    · rw [List.getElem?_append_right (by omega)] at hv
      rw [List.getElem?_replicate] at hv
      split at hv <;> cases hv
  have := h.2.2 _ (entA_args (ad := ad) as i 0 v h2)
  rwa [show 0 + i = i by omega] at this
def rmd (d : Nat) : Room := { frames := d, cells := 0, slots := 0, locals := 60 * d }
def rA (Ly : Lay) (ad : Nat → Nat) : Nat → Prop := fun q => ∃ id, id < Ly.2.length ∧ q = ad id
def CPre (Ly : Lay) (D : va_G) (cy : Nat → ClassId) (ad : Nat → Nat) (h : Hp) (as : List Value) : Array Value → State → Prop := va_Pc (as.map (cv ad)) (fun U => va_K D vwCl (kty Ly cy) U ∧ va_P D vwCl (lws Ly cy ad h) U.heap ∧ va_D (fun _ => True) (lws Ly cy ad h) ∧ NW U)
def CPost (Ly : Lay) (D : va_G) (cy : Nat → ClassId) (ad : Nat → Nat) (Post : Pst) : Array Value → State → Outcome → State → Prop := fun _ st o t => (∃ v h', o = .returned (v.map (cv ad)) ∧ Post v h' ∧ va_P D vwCl (lws Ly cy ad h') t.heap) ∧ va_F (rA Ly ad) st t
theorem rA_D {Ly : Lay} {cy : Nat → ClassId} {ad : Nat → Nat} {h : Hp} {A : Nat → Prop} (hD : va_D A (lws Ly cy ad h)) : va_D (rA Ly ad) (lws Ly cy ad h) := by
  refine ⟨hD.1, fun k q hq => ?_⟩
  have hl := (List.getElem?_eq_some_iff.mp hq).1
  rw [lws_len] at hl
  rw [lws_get (List.getElem?_eq_getElem hl)] at hq
  cases hq
  exact ⟨k, hl, rfl⟩
theorem rA_A {Ly : Lay} {cy : Nat → ClassId} {ad : Nat → Nat} {h : Hp} {A : Nat → Prop} (hD : va_D A (lws Ly cy ad h)) (q : Nat) (hq : rA Ly ad q) : A q := by
  obtain ⟨id, hl, rfl⟩ := hq
  exact hD.2 id _ (lws_get (List.getElem?_eq_getElem hl))
theorem D_any {Ly : Lay} {cy : Nat → ClassId} {ad : Nat → Nat} {h h' : Hp} {A : Nat → Prop} (hD : va_D A (lws Ly cy ad h)) : va_D A (lws Ly cy ad h') := by
  have key : ∀ (k : Nat) (q : Nat × va_E), (lws Ly cy ad h')[k]? = some q → ∃ q0, (lws Ly cy ad h)[k]? = some q0 ∧ q0.1 = q.1 := fun k q hq => by
    have hl := (List.getElem?_eq_some_iff.mp hq).1
    rw [lws_len] at hl
    rw [lws_get (List.getElem?_eq_getElem hl)] at hq
    cases hq
    exact ⟨_, lws_get (List.getElem?_eq_getElem hl), rfl⟩
  refine ⟨fun i j x y hi hj hxy => ?_, fun k q hk => ?_⟩
  · obtain ⟨x0, h1, h2⟩ := key i x hi
    obtain ⟨y0, h3, h4⟩ := key j y hj
    exact hD.1 i j x0 y0 h1 h3 (h2.trans (hxy.trans h4.symm))
  · obtain ⟨q0, h1, h2⟩ := key k q hk
    rw [← h2]
    exact hD.2 k q0 h1
theorem Met.ofWF {l : Launch} {y : MethodName} {ws ws' : List Cond} {rm : Room} {Pc : Array Value → State → Prop} {Qc : Array Value → State → Outcome → State → Prop} {mc ms : Nat} {free : Addr → Prop} {cc : ByteArray} {maxL : Nat} {ret : Option FieldType}
    (hy : plainFor y = true) (hw : ws = Cond.code y cc maxL ret :: ws')
    (body : ∀ p e s m args below meth c s₁, BodyLoose p l y (headSpec ws rm) cc maxL ret e s m args below meth c s₁ → c.maxLocals = maxL → Pc args s →
      W p l e (headSpec ws rm).room s m args below meth c s.heap [] 0 0 (MQ below Qc args s mc ms free) (entryFrame m args maxL)) : Met l y ws rm Pc Qc mc ms free := by
  refine MetFree.of_bodySF (code := cc) (maxLocals := maxL) (ret := ret) hy ?_ ?_
  · intro args s m h hn
    obtain ⟨meth, c, h1, h2, h3, h4, h5, h6, -, -⟩ := Cond.code_spec hn (atoms_spec (ws := ws) h _ (by rw [hw]; exact List.mem_cons_self))
    exact ⟨meth, c, h1, h2, h3, h4, h5, h6⟩
  · intro p e s m args below meth c s₁ B hml hP _
    have hh0 : s₁.heap = s.heap := by rw [B.state]; rfl
    obtain ⟨t, a1, o, b1, b2, b3⟩ := body p e s m args below meth c s₁ B hml hP s₁ hh0 (Stand.of_body B)
    exact ⟨t, o, a1, b1, b2, ⟨b3.1, b3.2⟩⟩
theorem Ev.met {M : Mi} {d : Nat} {h : Hp} {Post : Pst} {as : List Value} {y : MethodName} (l : Launch) (D : va_G) (cy : Nat → ClassId) (ad : Nat → Nat) (hy : plainFor y = true) (ho : y.cls = M.2.1) (hn : (entA as).length ≤ M.2.2.2.1) (hE : Ev M d 0 (entL as M.2.2.2.1) [] h Post) : Met l y (.code y M.2.2.1 M.2.2.2.1 M.2.2.2.2 :: BG) (rmd d) (CPre M.1 D cy ad h as) (CPost M.1 D cy ad Post) 0 0 (rA M.1 ad) := by
  refine Met.ofWF (cc := M.2.2.1) (maxL := M.2.2.2.1) (ret := M.2.2.2.2) hy rfl ?_
  intro p e s m args below meth c s₁ B hml hv
  obtain ⟨rfl, hK, hP, hD, hN⟩ := hv
  have hts := atoms_spec (ws := .code y M.2.2.1 M.2.2.2.1 M.2.2.2.2 :: BG) B.pre
  rw [lg_entry_eq]
  exact hE p l e (rmd d) s m _ below meth c D cy ad (rA M.1 ad) (CPost M.1 D cy ad Post) ⟨B.exec, B.bytes, hml, B.returns, B.notSynchronized, ho ▸ findClass_of_methodNamed B.named, fun w hw => hts w (List.mem_cons_of_mem _ hw), hN, ⟨Nat.le_refl _, Nat.le_refl _⟩, hK, fun v h' t hp hW hP2 hF => ⟨⟨v, h', rfl, hp, hP2⟩, hF⟩⟩ s.heap [] _ ⟨hP, rA_D hD, va_S.rf, entL_lok hn⟩
theorem CPre_blind {Ly : Lay} {D : va_G} {cy : Nat → ClassId} {ad : Nat → Nat} {h : Hp} {as : List Value} : FrameBlind (CPre Ly D cy ad h as) := fun a U g mk q => by
  obtain ⟨q0, qK, qP, qD, qN⟩ := q
  exact ⟨q0, va_K.moved (u := U) (U := U.calling g mk a) (Vm.Alike.refl U.vm) qK, qP, qD, va_Nw.same rfl rfl qN⟩
section EVCALL
variable {p : Program} {l : Launch} {e : Env} {R : Room} {s : State} {m : MethodId} {args : Array Value} {below : List Frame} {meth : Method} {c : Code} {H : Heap} {locs : List Loc} {cells slots : Nat} {Q : State → Prop}
variable {pc : Nat} {lsA : Array Slot} {rest st0 : List Value} {a : Array Value} {A0 : Nat → Prop} {H0 : Heap}
/-- behind a call -/
theorem ev_back {Ly : Lay} {D : va_G} {cy : Nat → ClassId} {ad : Nat → Nat} {Post' : Pst} {h : Hp} (hr : va_Run p l e R s m args below meth c H locs cells slots 0 0 (F0 m pc lsA st0) rest (CPost Ly D cy ad Post' a) (rA Ly ad)) (hS : va_S A0 H0 H locs) (hD : va_D A0 (lws Ly cy ad h))
    (kk : ∀ (v : Option Value) (h' : Hp) (H1 : Heap) (locs1 : List Loc), Post' v h' → va_P D vwCl (lws Ly cy ad h') H1 → va_D A0 (lws Ly cy ad h') → va_S A0 H0 H1 locs1 → W p l e R s m args below meth c H1 locs1 cells slots Q (F0 m (pc + 3) lsA ((v.map (cv ad)).toList ++ rest))) : W p l e R s m args below meth c H locs cells slots Q (F0 m pc lsA st0) := by
  intro T hT X
  obtain ⟨v, st₀, t, T', L, h0, X', hL, e1, e2, ⟨⟨v', h', hv, hp, hP⟩, hz, hk⟩, stp⟩ := hr T hT X
  cases hv
  rw [h0] at hz hk
  obtain ⟨t2, a1, b1⟩ := kk v' h' T'.heap (locs ++ L) hp (by rw [e1]; exact hP) (D_any hD)
    ⟨Nat.le_trans hS.1 (by rw [e1]; exact hz), fun q h1 h2 => by rw [e1, hk q (Nat.lt_of_lt_of_le h1 hS.1) (fun z => h2 (rA_A hD q z))]; exact hS.2.1 q h1 h2, fun q hq => by
      rcases List.mem_append.mp hq with h | h
      · exact hS.2.2 q h
      · exact rA_A hD _ (hL q h)⟩ T' rfl X'
  exact ⟨t2, stp t2 a1, b1⟩
end EVCALL
/-- the words of a call: by the receiver; static -/
def CWv (own : String) (idx : Nat) (y : MethodName) (M' : Mi) (n : Nat) : Prop := Cond.methodLink own idx y ∈ BG ∧ Cond.instanceMethod y ∈ BG ∧ Cond.selects y.cls y y ∈ BG ∧ Cond.initialized y.cls ∈ BG ∧ Cond.code y M'.2.2.1 M'.2.2.2.1 M'.2.2.2.2 ∈ BG ∧ y.cls = M'.2.1 ∧ plainFor y = true ∧ (y.cls ≠ "java/lang/invoke/MethodHandle" ∧ y.cls ≠ "java/lang/invoke/VarHandle" ∧ (parseMethodDescriptor y.desc).map (fun d => d.parameters.length) = some n) ∧ M'.2.2.2.1 ≤ 30
def CWs (own : String) (idx : Nat) (y : MethodName) (M' : Mi) (n : Nat) : Prop := Cond.methodLink own idx y ∈ BG ∧ Cond.static y ∈ BG ∧ Cond.initialized y.cls ∈ BG ∧ Cond.code y M'.2.2.1 M'.2.2.2.1 M'.2.2.2.2 ∈ BG ∧ y.cls = M'.2.1 ∧ plainFor y = true ∧ (y.cls ≠ "java/lang/invoke/MethodHandle" ∧ y.cls ≠ "java/lang/invoke/VarHandle" ∧ (parseMethodDescriptor y.desc).map (fun d => d.parameters.length) = some n) ∧ M'.2.2.2.1 ≤ 30
theorem cv_sum (ad : Nat → Nat) (st : List Value) : ((st.map (cv ad)).map fun v => v.category).sum = (st.map fun v => v.category).sum := by
  congr 1
  rw [List.map_map]
  apply List.map_congr_left
  intro v _
  exact cv_cat ad v
section EVC2
variable {M : Mi} {d pc pc' : Nat} {ls : List (Option Value)} {h : Hp} {Post : Pst}
theorem Ev.callV {M' : Mi} {y : MethodName} {idx id n ci d' : Nat} {ks : List Nat} {T : u_T} {N : Nat} {as st rest : List Value} {Post' : Pst} (hs : st = as.reverse ++ .ref id :: rest) (hd : decode M.2.2.1 pc = .ok (.invokevirtual idx, 3)) (hn : pc + 3 = pc') (hw : CWv M.2.1 idx y M' n) (hna : as.length = n) (hne : (entA (.ref id :: as)).length ≤ M'.2.2.2.1) (hdd : d' + 1 ≤ d) (hy : M.1.2[id]? = some (.inl (ci, ks))) (hcl : vwCl[ci]? = some (y.cls, T, N)) (hly : M'.1 = M.1) (hst : (rest.map fun v => v.category).sum ≤ 8)
    (hE : Ev M' d' 0 (entL (.ref id :: as) M'.2.2.2.1) [] h Post') (kk : ∀ v h', Post' v h' → Ev M d pc' ls (v.toList ++ rest) h' Post) : Ev M d pc ls st h Post := by
  subst hn
  subst hs
  intro p l e R s m args below meth c D cy ad A Qc F H locs lsA X
  have hF := F
  obtain ⟨fx, fb, fml, fr, flk, fown, fts, fN, fR, fK, fQ⟩ := F
  obtain ⟨w1, w2, w3, w4, w5, w6, w7, w8, w9⟩ := hw
  have hM := Ev.met (y := y) l D cy ad w7 w6 hne hE
  rw [hly] at hM
  have hrun := va_runV (p := p) (e := e) (R := R) (s := s) (m := m) (args := args) (below := below) (meth := meth) (c := c) (H := H) (locs := locs) (cells := 0) (slots := 0) (As := as.map (cv ad)) (rest := rest.map (cv ad)) (b := ad id) (g := F0 m pc lsA ((as.reverse ++ .ref id :: rest).map (cv ad))) ⟨fx, fb, fml, fown, fts⟩ hM
    ⟨callB_of n fts (gdBG w5) rfl rfl rfl (fts _ w4) (fts _ w1) w8 ⟨Nat.le_trans hdd fR.1, Nat.le_trans (by show 8 + (M'.2.2.2.1 + 11) + 60 * d' ≤ 60 * d; omega) fR.2⟩, fts _ w2, fts _ w3⟩
    ⟨CPre_blind, va_recv fK X.1 hcl (lws_get hy), fun U hU hW => ⟨rfl, va_K.moved hW.alike fK, by rw [hU]; exact X.1, X.2.1.weaken (fun _ _ _ _ => trivial), va_Nw.warmM hW fN⟩⟩ rfl (by rw [List.length_map]; exact hna) X.2.2.2.1 (by simp [List.map_reverse, cv]) (lv_room (by rw [cv_sum]; exact hst)) hd ⟨Nat.zero_le _, Nat.zero_le _⟩
  refine ev_back hrun X.2.2.1 X.2.1 (fun v h' H1 locs1 hp hP hD hS => ?_)
  have := kk v h' hp p l e R s m args below meth c D cy ad A Qc hF H1 locs1 lsA ⟨hP, hD, hS, X.2.2.2⟩
  rw [List.map_append] at this
  cases v <;> exact this
theorem Ev.callS {M' : Mi} {y : MethodName} {idx n d' : Nat} {as st rest : List Value} {Post' : Pst} (hs : st = as.reverse ++ rest) (hd : decode M.2.2.1 pc = .ok (.invokestatic idx, 3)) (hn : pc + 3 = pc') (hw : CWs M.2.1 idx y M' n) (hna : as.length = n) (hne : (entA as).length ≤ M'.2.2.2.1) (hdd : d' + 1 ≤ d) (hly : M'.1 = M.1) (hst : (rest.map fun v => v.category).sum ≤ 8)
    (hE : Ev M' d' 0 (entL as M'.2.2.2.1) [] h Post') (kk : ∀ v h', Post' v h' → Ev M d pc' ls (v.toList ++ rest) h' Post) : Ev M d pc ls st h Post := by
  subst hn
  subst hs
  intro p l e R s m args below meth c D cy ad A Qc F H locs lsA X
  have hF := F
  obtain ⟨fx, fb, fml, fr, flk, fown, fts, fN, fR, fK, fQ⟩ := F
  obtain ⟨w1, w2, w4, w5, w6, w7, w8, w9⟩ := hw
  have hM := Ev.met (y := y) l D cy ad w7 w6 hne hE
  rw [hly] at hM
  have hrun := va_runS (p := p) (e := e) (R := R) (s := s) (m := m) (args := args) (below := below) (meth := meth) (c := c) (H := H) (locs := locs) (cells := 0) (slots := 0) (As := as.map (cv ad)) (rest := rest.map (cv ad)) (g := F0 m pc lsA ((as.reverse ++ rest).map (cv ad))) ⟨fx, fb, fml, fown, fts⟩ hM
    ⟨callB_of n fts (gdBG w5) rfl rfl rfl (fts _ w4) (fts _ w1) w8 ⟨Nat.le_trans hdd fR.1, Nat.le_trans (by show 8 + (M'.2.2.2.1 + 11) + 60 * d' ≤ 60 * d; omega) fR.2⟩, fts _ w2⟩
    ⟨CPre_blind, fun U hU hW => ⟨rfl, va_K.moved hW.alike fK, by rw [hU]; exact X.1, X.2.1.weaken (fun _ _ _ _ => trivial), va_Nw.warmM hW fN⟩⟩ rfl (by rw [List.length_map]; exact hna) X.2.2.2.1 (by simp [List.map_reverse]) (lv_room (by rw [cv_sum]; exact hst)) hd ⟨Nat.zero_le _, Nat.zero_le _⟩
  refine ev_back hrun X.2.2.1 X.2.1 (fun v h' H1 locs1 hp hP hD hS => ?_)
  have := kk v h' hp p l e R s m args below meth c D cy ad A Qc hF H1 locs1 lsA ⟨hP, hD, hS, X.2.2.2⟩
  rw [List.map_append] at this
  cases v <;> exact this
/-- the one call of a nest mate's private method: RoofNet.isWithin out of Net -/
theorem Ev.callN {M' : Mi} {d' : Nat} {as st rest : List Value} {Post' : Pst} (hs : st = as.reverse ++ rest) (hd : decode M.2.2.1 pc = .ok (.invokestatic 65, 3)) (hn : pc + 3 = pc') (ho : M.2.1 = RX2) (hw : Cond.static yX7_isWithin ∈ BG ∧ Cond.initialized RX7 ∈ BG ∧ Cond.code yX7_isWithin M'.2.2.1 M'.2.2.2.1 M'.2.2.2.2 ∈ BG ∧ RX7 = M'.2.1 ∧ M'.2.2.2.1 ≤ 30) (hna : as.length = 3) (hne : (entA as).length ≤ M'.2.2.2.1) (hdd : d' + 1 ≤ d) (hly : M'.1 = M.1) (hst : (rest.map fun v => v.category).sum ≤ 8)
    (hE : Ev M' d' 0 (entL as M'.2.2.2.1) [] h Post') (kk : ∀ v h', Post' v h' → Ev M d pc' ls (v.toList ++ rest) h' Post) : Ev M d pc ls st h Post := by
  subst hn
  subst hs
  intro p l e R s m args below meth c D cy ad A Qc F H locs lsA X
  have hF := F
  obtain ⟨fx, fb, fml, fr, flk, fown, fts, fN, fR, fK, fQ⟩ := F
  obtain ⟨w2, w4, w5, w6, w9⟩ := hw
  rw [ho] at fown
  have hM := Ev.met (y := yX7_isWithin) l D cy ad (by decide) w6 hne hE
  rw [hly] at hM
  have hrun := va_runSN (p := p) (e := e) (R := R) (s := s) (m := m) (args := args) (below := below) (meth := meth) (c := c) (H := H) (locs := locs) (cells := 0) (slots := 0) (As := as.map (cv ad)) (rest := rest.map (cv ad)) (g := F0 m pc lsA ((as.reverse ++ rest).map (cv ad))) ⟨fx, fb, fml, fown, fts⟩ hM
    ⟨va_cnB (host := "RoofNet") 3 fts (gdBG w5) rfl rfl rfl fN (fts _ w4) (by decide +kernel) ⟨Nat.le_trans hdd fR.1, Nat.le_trans (by show 8 + (M'.2.2.2.1 + 11) + 60 * d' ≤ 60 * d; omega) fR.2⟩, fts _ w2, trivial⟩
    ⟨CPre_blind, fun U hU hW => ⟨rfl, va_K.moved hW.alike fK, by rw [hU]; exact X.1, X.2.1.weaken (fun _ _ _ _ => trivial), va_Nw.warmM hW fN⟩⟩ rfl (by rw [List.length_map]; exact hna) X.2.2.2.1 (by simp [List.map_reverse]) (lv_room (by rw [cv_sum]; exact hst)) hd ⟨Nat.zero_le _, Nat.zero_le _⟩
  refine ev_back hrun X.2.2.1 X.2.1 (fun v h' H1 locs1 hp hP hD hS => ?_)
  have := kk v h' hp p l e R s m args below meth c D cy ad A Qc hF H1 locs1 lsA ⟨hP, hD, hS, X.2.2.2⟩
  rw [List.map_append] at this
  cases v <;> exact this
end EVC2
end
section
/-! Constants, switches, Math, System.arraycopy. -/
section EVMA
variable {M : Mi} {d pc pc' : Nat} {ls : List (Option Value)} {st : List Value} {h : Hp} {Post : Pst}
theorem Ev.ldc {idx : Nat} {x : Int} (hd : decode M.2.2.1 pc = .ok (.ldc idx, 2)) (hn : pc + 2 = pc') (hw : Cond.constant M.2.1 idx (Int32.ofInt x) ∈ BG) (k : Ev M d pc' ls (iv x :: st) h Post) : Ev M d pc ls st h Post := by
  subst hn
  intro p l e R s m args below meth c D cy ad A Qc F H locs lsA X
  exact lv_ldc F.1 F.2.1 F.2.2.2.2.2.1 (F.2.2.2.2.2.2.1 _ hw) hd (k p l e R s m args below meth c D cy ad A Qc F H locs lsA X)
theorem Ev.ldcw {idx : Nat} {x : Int} (hd : decode M.2.2.1 pc = .ok (.ldc_w idx, 3)) (hn : pc + 3 = pc') (hw : Cond.constant M.2.1 idx (Int32.ofInt x) ∈ BG) (k : Ev M d pc' ls (iv x :: st) h Post) : Ev M d pc ls st h Post := by
  subst hn
  intro p l e R s m args below meth c D cy ad A Qc F H locs lsA X
  exact lv_ldcw F.1 F.2.1 F.2.2.2.2.2.1 (F.2.2.2.2.2.2.1 _ hw) hd (k p l e R s m args below meth c D cy ad A Qc F H locs lsA X)
theorem Ev.ldc2 {idx : Nat} {x : Int} (hd : decode M.2.2.1 pc = .ok (.ldc2_w idx, 3)) (hn : pc + 3 = pc') (hw : Cond.constantLong M.2.1 idx (Int64.ofInt x) ∈ BG) (k : Ev M d pc' ls (jv x :: st) h Post) : Ev M d pc ls st h Post := by
  subst hn
  intro p l e R s m args below meth c D cy ad A Qc F H locs lsA X
  exact lv_ldc2 F.1 F.2.1 F.2.2.2.2.2.1 (F.2.2.2.2.2.2.1 _ hw) hd (k p l e R s m args below meth c D cy ad A Qc F H locs lsA X)
theorem Ev.tabOut {dflt lo hi x : Int} {offs : Array Int} {len tgt : Nat} (hd : decode M.2.2.1 pc = .ok (.tableswitch dflt lo hi offs, len)) (hx : I32 x) (hq : x < lo ∨ hi < x) (ht : (pc : Int) + dflt = (tgt : Int)) (k : Ev M d tgt ls st h Post) : Ev M d pc ls (iv x :: st) h Post := by
  intro p l e R s m args below meth c D cy ad A Qc F H locs lsA X
  exact lv_tableOut F.1 F.2.1 hd (by rw [i32T hx]; exact hq) ht (k p l e R s m args below meth c D cy ad A Qc F H locs lsA X)
theorem Ev.tabIn {dflt lo hi x off : Int} {offs : Array Int} {len tgt : Nat} (hd : decode M.2.2.1 pc = .ok (.tableswitch dflt lo hi offs, len)) (hx : I32 x) (h1 : lo ≤ x) (h2 : x ≤ hi) (ho : offs[(x - lo).toNat]? = some off) (ht : (pc : Int) + off = (tgt : Int)) (k : Ev M d tgt ls st h Post) : Ev M d pc ls (iv x :: st) h Post := by
  intro p l e R s m args below meth c D cy ad A Qc F H locs lsA X
  exact lv_tableIn F.1 F.2.1 hd (by rw [i32T hx]; omega) (by rw [i32T hx]; omega) (by rw [i32T hx]; exact ho) ht (k p l e R s m args below meth c D cy ad A Qc F H locs lsA X)
theorem Ev.look {dflt x off : Int} {ps : Array (Int × Int)} {len tgt : Nat} (hd : decode M.2.2.1 pc = .ok (.lookupswitch dflt ps, len)) (hp : (ps.toList.zip (ps.toList.drop 1)).all (fun (a, next) => a.1 < next.1) = true) (hx : I32 x) (ho : Op.lookupswitch.offset ps.toList dflt x = off) (ht : (pc : Int) + off = (tgt : Int)) (k : Ev M d tgt ls st h Post) : Ev M d pc ls (iv x :: st) h Post := by
  intro p l e R s m args below meth c D cy ad A Qc F H locs lsA X
  exact lv_lookup F.1 F.2.1 hd hp (by rw [i32T hx]; exact ho) ht (k p l e R s m args below meth c D cy ad A Qc F H locs lsA X)
def WMax (own : String) (idx : Nat) : Prop := Cond.methodLink own idx Lib.Math.max.name ∈ BG ∧ Cond.static Lib.Math.max.name ∈ BG ∧ Cond.initialized "java/lang/Math" ∈ BG ∧ Cond.code Lib.Math.max.name Lib.Math.max.code 2 (some .int) ∈ BG
def WMin (own : String) (idx : Nat) : Prop := Cond.methodLink own idx Lib.Math.min.name ∈ BG ∧ Cond.static Lib.Math.min.name ∈ BG ∧ Cond.initialized "java/lang/Math" ∈ BG ∧ Cond.code Lib.Math.min.name Lib.Math.min.code 2 (some .int) ∈ BG
def WAbs (own : String) (idx : Nat) : Prop := Cond.methodLink own idx Lib.Math.abs.name ∈ BG ∧ Cond.static Lib.Math.abs.name ∈ BG ∧ Cond.initialized "java/lang/Math" ∈ BG ∧ Cond.code Lib.Math.abs.name Lib.Math.abs.code 1 (some .int) ∈ BG
def WMaxL (own : String) (idx : Nat) : Prop := Cond.methodLink own idx Lib.MathLoose.max_long.x ∈ BG ∧ Cond.static Lib.MathLoose.max_long.x ∈ BG ∧ Cond.initialized "java/lang/Math" ∈ BG ∧ Cond.code Lib.MathLoose.max_long.x Lib.MathLoose.max_long.code 4 (some .long) ∈ BG
def WAbsL (own : String) (idx : Nat) : Prop := Cond.methodLink own idx Lib.MathLoose.abs_long.x ∈ BG ∧ Cond.static Lib.MathLoose.abs_long.x ∈ BG ∧ Cond.initialized "java/lang/Math" ∈ BG ∧ Cond.code Lib.MathLoose.abs_long.x Lib.MathLoose.abs_long.code 2 (some .long) ∈ BG
def WCpy (own : String) (idx : Nat) : Prop := Cond.methodLink own idx arraycopyName ∈ BG ∧ Cond.native arraycopyName ∈ BG ∧ Cond.static arraycopyName ∈ BG ∧ Cond.initialized "java/lang/System" ∈ BG
theorem Ev.mmax {idx : Nat} {x y : Int} (hd : decode M.2.2.1 pc = .ok (.invokestatic idx, 3)) (hn : pc + 3 = pc') (hw : WMax M.2.1 idx) (hdd : 1 ≤ d) (hst : (st.map fun v => v.category).sum ≤ 8) (hx : I32 x) (hy : I32 y) (k : Ev M d pc' ls (iv (if x < y then y else x) :: st) h Post) : Ev M d pc ls (iv y :: iv x :: st) h Post := by
  subst hn
  intro p l e R s m args below meth c D cy ad A Qc F H locs lsA X
  have hF := F
  obtain ⟨fx, fb, fml, fr, flk, fown, fts, fN, fR, fK, fQ⟩ := F
  refine va_mmax fx fb (fml.trans X.2.2.2.1.symm) fown (fts _ hw.1) (fts _ hw.2.1) (fts _ hw.2.2.1) (fts _ hw.2.2.2) (Nat.le_trans hdd fR.1) (by rw [cv_sum]; have := fR.2; omega) (Nat.zero_le _) (Nat.zero_le _) hd ?_
  have e1 : (if Int32.ofInt x < Int32.ofInt y then Int32.ofInt y else Int32.ofInt x) = Int32.ofInt (if x < y then y else x) := by
    by_cases q : x < y
    · rw [if_pos ((i32lt hx hy).mpr q), if_pos q]
    · rw [if_neg (fun z => q ((i32lt hx hy).mp z)), if_neg q]
  rw [e1]
  exact k p l e R s m args below meth c D cy ad A Qc hF H locs lsA X
theorem Ev.mmin {idx : Nat} {x y : Int} (hd : decode M.2.2.1 pc = .ok (.invokestatic idx, 3)) (hn : pc + 3 = pc') (hw : WMin M.2.1 idx) (hdd : 1 ≤ d) (hst : (st.map fun v => v.category).sum ≤ 8) (hx : I32 x) (hy : I32 y) (k : Ev M d pc' ls (iv (if y < x then y else x) :: st) h Post) : Ev M d pc ls (iv y :: iv x :: st) h Post := by
  subst hn
  intro p l e R s m args below meth c D cy ad A Qc F H locs lsA X
  have hF := F
  obtain ⟨fx, fb, fml, fr, flk, fown, fts, fN, fR, fK, fQ⟩ := F
  refine va_mmin fx fb (fml.trans X.2.2.2.1.symm) fown (fts _ hw.1) (fts _ hw.2.1) (fts _ hw.2.2.1) (fts _ hw.2.2.2) (Nat.le_trans hdd fR.1) (by rw [cv_sum]; have := fR.2; omega) (Nat.zero_le _) (Nat.zero_le _) hd ?_
  have e1 : (if Int32.ofInt y < Int32.ofInt x then Int32.ofInt y else Int32.ofInt x) = Int32.ofInt (if y < x then y else x) := by
    by_cases q : y < x
    · rw [if_pos ((i32lt hy hx).mpr q), if_pos q]
    · rw [if_neg (fun z => q ((i32lt hy hx).mp z)), if_neg q]
  rw [e1]
  exact k p l e R s m args below meth c D cy ad A Qc hF H locs lsA X
theorem Ev.mabs {idx : Nat} {x : Int} (hd : decode M.2.2.1 pc = .ok (.invokestatic idx, 3)) (hn : pc + 3 = pc') (hw : WAbs M.2.1 idx) (hdd : 1 ≤ d) (hst : (st.map fun v => v.category).sum ≤ 8) (hx : I32 x) (k : Ev M d pc' ls (iv (if 0 ≤ x then x else -x) :: st) h Post) : Ev M d pc ls (iv x :: st) h Post := by
  subst hn
  intro p l e R s m args below meth c D cy ad A Qc F H locs lsA X
  have hF := F
  obtain ⟨fx, fb, fml, fr, flk, fown, fts, fN, fR, fK, fQ⟩ := F
  refine va_mabs fx fb (fml.trans X.2.2.2.1.symm) fown (fts _ hw.1) (fts _ hw.2.1) (fts _ hw.2.2.1) (fts _ hw.2.2.2) (Nat.le_trans hdd fR.1) (by rw [cv_sum]; have := fR.2; omega) (Nat.zero_le _) (Nat.zero_le _) hd ?_
  have e1 : (if 0 ≤ Int32.ofInt x then Int32.ofInt x else 0 - Int32.ofInt x) = Int32.ofInt (if 0 ≤ x then x else -x) := by
    by_cases q : 0 ≤ x
    · rw [if_pos (show (0 : Int32) ≤ Int32.ofInt x from (i32le i32z hx).mpr q), if_pos q]
    · rw [if_neg (show ¬ (0 : Int32) ≤ Int32.ofInt x from fun z => q ((i32le i32z hx).mp z)), if_neg q, Int32.ofInt_neg, Int32.zero_sub]
  rw [e1]
  exact k p l e R s m args below meth c D cy ad A Qc hF H locs lsA X
theorem Ev.mmaxL {idx : Nat} {x y : Int} (hd : decode M.2.2.1 pc = .ok (.invokestatic idx, 3)) (hn : pc + 3 = pc') (hw : WMaxL M.2.1 idx) (hdd : 1 ≤ d) (hst : (st.map fun v => v.category).sum ≤ 8) (hx : I64 x) (hy : I64 y) (k : Ev M d pc' ls (jv (if y < x then x else y) :: st) h Post) : Ev M d pc ls (jv y :: jv x :: st) h Post := by
  subst hn
  intro p l e R s m args below meth c D cy ad A Qc F H locs lsA X
  have hF := F
  obtain ⟨fx, fb, fml, fr, flk, fown, fts, fN, fR, fK, fQ⟩ := F
  refine va_mmax_long fx fb (fml.trans X.2.2.2.1.symm) fown (fts _ hw.1) (fts _ hw.2.1) (fts _ hw.2.2.1) (fts _ hw.2.2.2) (Nat.le_trans hdd fR.1) (by rw [cv_sum]; have := fR.2; omega) (Nat.zero_le _) (Nat.zero_le _) hd ?_
  have e1 : (if Int64.ofInt y < Int64.ofInt x then Int64.ofInt x else Int64.ofInt y) = Int64.ofInt (if y < x then x else y) := by
    by_cases q : y < x
    · rw [if_pos ((i64lt hy hx).mpr q), if_pos q]
    · rw [if_neg (fun z => q ((i64lt hy hx).mp z)), if_neg q]
  rw [e1]
  exact k p l e R s m args below meth c D cy ad A Qc hF H locs lsA X
theorem i64z : I64 0 := ⟨by decide, by decide⟩
theorem Ev.mabsL {idx : Nat} {x : Int} (hd : decode M.2.2.1 pc = .ok (.invokestatic idx, 3)) (hn : pc + 3 = pc') (hw : WAbsL M.2.1 idx) (hdd : 1 ≤ d) (hst : (st.map fun v => v.category).sum ≤ 8) (hx : I64 x) (k : Ev M d pc' ls (jv (if 0 < x then x else -x) :: st) h Post) : Ev M d pc ls (jv x :: st) h Post := by
  subst hn
  intro p l e R s m args below meth c D cy ad A Qc F H locs lsA X
  have hF := F
  obtain ⟨fx, fb, fml, fr, flk, fown, fts, fN, fR, fK, fQ⟩ := F
  refine va_mabs_long fx fb (fml.trans X.2.2.2.1.symm) fown (fts _ hw.1) (fts _ hw.2.1) (fts _ hw.2.2.1) (fts _ hw.2.2.2) (Nat.le_trans hdd fR.1) (by rw [cv_sum]; have := fR.2; omega) (Nat.zero_le _) (Nat.zero_le _) hd ?_
  have e1 : (if 0 < Int64.ofInt x then Int64.ofInt x else -Int64.ofInt x) = Int64.ofInt (if 0 < x then x else -x) := by
    by_cases q : 0 < x
    · rw [if_pos (show (0 : Int64) < Int64.ofInt x from (i64lt i64z hx).mpr q), if_pos q]
    · rw [if_neg (show ¬ (0 : Int64) < Int64.ofInt x from fun z => q ((i64lt i64z hx).mp z)), if_neg q, Int64.ofInt_neg]
  rw [e1]
  exact k p l e R s m args below meth c D cy ad A Qc hF H locs lsA X
/-- a copy of the first n ints of an array into another -/
def hC (h : Hp) (src dst n : Nat) : Hp := (fun i j => if i = dst ∧ j < n then h.1 src j else h.1 i j, h.2)
theorem lce_oC {tys : List FieldType} {cy : Nat → ClassId} {ad : Nat → Nat} {h : Hp} {src dst n : Nat} (j : Nat) (d : LD) (hj : j ≠ dst) : lce tys cy ad (hC h src dst n) j d = lce tys cy ad h j d := by
  have e : (hC h src dst n).1 j = h.1 j := by funext q; simp [hC, hj]
  cases d with
  | inl o =>
    simp only [lce]
    congr 3
    funext q kd
    match kd with
    | 0 => simp only [fvl, e]
    | 1 => rfl
    | n + 2 => rfl
  | inr a =>
    simp only [lce]
    congr 3
    unfold acn
    split <;> first | rfl | simp only [e]
theorem Ev.cpy {idx src dst t n0 n1 n : Nat} (hd : decode M.2.2.1 pc = .ok (.invokestatic idx, 3)) (hn : pc + 3 = pc') (hw : WCpy M.2.1 idx) (hdd : 1 ≤ d) (hst : (st.map fun v => v.category).sum ≤ 8) (hy0 : M.1.2[src]? = some (.inr (t, n0))) (hy1 : M.1.2[dst]? = some (.inr (t, n1))) (ht : M.1.1[t]? = some .int) (h0 : n ≤ n0) (h1 : n ≤ n1) (hb : n < 2147483648) (k : Ev M d pc' ls st (hC h src dst n) Post) : Ev M d pc ls (iv (n : Int) :: iv 0 :: .ref dst :: iv 0 :: .ref src :: st) h Post := by
  subst hn
  intro p l e R s m args below meth c D cy ad A Qc F H locs lsA X
  have hF := F
  obtain ⟨fx, fb, fml, fr, flk, fown, fts, fN, fR, fK, fQ⟩ := F
  have z0 : ¬ Int32.ofInt 0 < 0 := by decide
  have c0 : (Int32.ofInt 0).toNatClampNeg = 0 := by decide
  have cn : (Int32.ofInt (n : Int)).toNatClampNeg = n := by rw [i32cl (by omega) (by omega)]; omega
  have zn : ¬ Int32.ofInt (n : Int) < 0 := fun q => by
    have := (i32lt ⟨by omega, by omega⟩ i32z).mp q
    omega
  refine va_copyi fx fb (fml.trans X.2.2.2.1.symm) fown (fts _ hw.1) (fts _ hw.2.1) (fts _ hw.2.2.1) (fts _ hw.2.2.2) fK X.1 X.2.1 X.2.2.1 src dst t t (lw_arrI hy0 ht rfl) (lw_arrI hy1 ht rfl) (kty_get ht) (kty_get ht) rfl z0 z0 zn (by rw [c0, cn]; omega) (by rw [c0, cn]; omega) (fun _ _ => rfl) (Nat.le_trans hdd fR.1) (by rw [cv_sum]; have := fR.2; show _ + (7 + 11) ≤ _; omega) hd (fun H1 locs1 hP hD hS => ?_)
  rw [c0, cn] at hP hD
  have hE : (lws M.1 cy ad h).set dst (ad dst, .inl (cy t, n1, .inl (va_cpy (fun k => Int32.ofInt (h.1 src k)) (fun k => Int32.ofInt (h.1 dst k)) 0 0 n))) = lws M.1 cy ad (hC h src dst n) := by
    refine lws_set hy1 ?_ lce_oC
    simp only [lce, ht, acn]
    congr 4
    funext j
    unfold va_cpy hC
    simp only [Nat.zero_le, true_and, Nat.zero_add, Nat.sub_zero]
    split <;> rfl
  rw [hE] at hP hD
  exact k p l e R s m args below meth c D cy ad A Qc hF H1 locs1 lsA ⟨hP, hD, hS, X.2.2.2⟩
end EVMA
end
section
theorem inP {w : Cond} (i : Nat) (h : (k2_sels lw_privs)[i]? = some w) (hg : goodWord w = true) : w ∈ BG := List.mem_filter.mpr ⟨List.mem_append_left _ (List.mem_of_getElem? h), hg⟩
theorem inT1 {w : Cond} (i : Nat) (h : tables_1_1[i]? = some w) (hg : goodWord w = true) : w ∈ BG := List.mem_filter.mpr ⟨List.mem_append_right _ (List.mem_append_left _ (List.mem_of_getElem? h)), hg⟩
theorem inT2 {w : Cond} (i : Nat) (h : tables_1_2[i]? = some w) (hg : goodWord w = true) : w ∈ BG := List.mem_filter.mpr ⟨List.mem_append_right _ (List.mem_append_right _ (List.mem_append_left _ (List.mem_of_getElem? h))), hg⟩
theorem inT3 {w : Cond} (i : Nat) (h : tables_1_3[i]? = some w) (hg : goodWord w = true) : w ∈ BG := List.mem_filter.mpr ⟨List.mem_append_right _ (List.mem_append_right _ (List.mem_append_right _ (List.mem_append_left _ (List.mem_of_getElem? h)))), hg⟩
theorem inT4 {w : Cond} (i : Nat) (h : tables_1_4[i]? = some w) (hg : goodWord w = true) : w ∈ BG := List.mem_filter.mpr ⟨List.mem_append_right _ (List.mem_append_right _ (List.mem_append_right _ (List.mem_append_right _ (List.mem_append_left _ (List.mem_of_getElem? h))))), hg⟩
theorem inT5 {w : Cond} (i : Nat) (h : tables_1_5[i]? = some w) (hg : goodWord w = true) : w ∈ BG := List.mem_filter.mpr ⟨List.mem_append_right _ (List.mem_append_right _ (List.mem_append_right _ (List.mem_append_right _ (List.mem_append_right _ (List.mem_of_getElem? h))))), hg⟩
/-! Layouts, methods, words: by program (wip/whole/mk_static.py). -/
def netK : List Nat := [0, 0, 0, 0, 0, 0, 2, 2, 2, 2, 2, 2]
def netC : List LD := [.inl (2, netK), .inr (0, 30), .inr (0, 10), .inr (0, 14), .inr (0, 14), .inr (0, 14), .inr (0, 14)]
def shpK : List Nat := [2, 2, 2, 2, 0, 1]
def shpC : List LD := [.inl (4, shpK), .inr (0, 10), .inr (4, 5), .inr (0, 30), .inr (0, 14), .inr (1, 8), .inr (1, 8), .inr (1, 8), .inr (1, 8), .inr (1, 8)]
def cutK : List Nat := [2, 2, 2, 2, 0, 0, 0, 2, 0, 0]
def cLy : Lay := ([.int, .long, .char, .object "RoofNet$Net", .array .long], [.inl (7, [2, 2, 2, 2, 2, 2, 2, 2]), .inl (1, [2, 0]), .inr (2, 200), .inl (5, [2]), .inr (0, 4), .inl (3, [2, 0, 0]), .inr (3, 6)] ++ shpC ++ [.inl (6, [2, 2, 0, 0]), .inl (0, cutK), .inr (0, 14), .inr (0, 14), .inr (0, 14), .inr (0, 14), .inr (0, 14)] ++ netC ++ netC ++ netC ++ netC ++ netC ++ netC ++ netC ++ netC ++ netC ++ shpC)
def modK : List Nat := [0, 2, 0, 2, 2, 2, 0, 2, 0, 0, 2, 2, 2, 2, 0, 1, 2, 2, 2, 2, 2, 0, 2, 2]
def mLy : Lay := ([.int, .long, .byte, .boolean], [.inl (8, modK), .inr (2, 200), .inr (0, 124), .inr (0, 124), .inr (0, 744), .inr (0, 124), .inr (0, 4), .inr (3, 10), .inr (1, 40), .inr (0, 10), .inr (1, 30), .inr (0, 30), .inr (0, 14), .inr (0, 14), .inr (0, 14), .inr (0, 16384), .inr (0, 16384)])
-- model: array text is cell 1, field 1
-- model: array s is cell 2, field 3
-- model: array draft is cell 3, field 4
-- model: array past is cell 4, field 5
-- model: array spare is cell 5, field 7
-- model: array number is cell 6, field 10
-- model: array isHung is cell 7, field 11
-- model: array table is cell 8, field 12
-- model: array row is cell 9, field 13
-- model: array upper is cell 10, field 16
-- model: array hundredths is cell 11, field 17
-- model: array piece is cell 12, field 18
-- model: array rollOf is cell 13, field 19
-- model: array left is cell 14, field 20
-- model: array fewest is cell 15, field 22
-- model: array given is cell 16, field 23
-- model: field 0 thrown I
-- model: field 1 text [B
-- model: field 2 letters I
-- model: field 3 s [I
-- model: field 4 draft [I
-- model: field 5 past [I
-- model: field 6 undos I
-- model: field 7 spare [I
-- model: field 8 at I
-- model: field 9 isSo Z
-- model: field 10 number [I
-- model: field 11 isHung [Z
-- model: field 12 table [J
-- model: field 13 row [I
-- model: field 14 frees I
-- model: field 15 lower J
-- model: field 16 upper [J
-- model: field 17 hundredths [I
-- model: field 18 piece [I
-- model: field 19 rollOf [I
-- model: field 20 left [I
-- model: field 21 rolls I
-- model: field 22 fewest [I
-- model: field 23 given [I
abbrev mX7_init : Mi := (cLy, RX7, cX7_init, 2, none)
abbrev mX7_bears : Mi := (cLy, RX7, cX7_bears, 3, some .int)
abbrev mX7_better : Mi := (cLy, RX7, cX7_better, 2, some .int)
abbrev mX7_count : Mi := (cLy, RX7, cX7_count, 2, some .int)
abbrev mX7_density : Mi := (cLy, RX7, cX7_density, 4, some .int)
abbrev mX7_down : Mi := (cLy, RX7, cX7_down, 3, some .int)
abbrev mX7_exact : Mi := (cLy, RX7, cX7_exact, 10, some .int)
abbrev mX7_fault : Mi := (cLy, RX7, cX7_fault, 1, some .int)
abbrev mX7_greatest : Mi := (cLy, RX7, cX7_greatest, 6, some .int)
abbrev mX7_greatestShared : Mi := (cLy, RX7, cX7_greatestShared, 11, some .long)
abbrev mX7_hangingStrand : Mi := (cLy, RX7, cX7_hangingStrand, 3, some .int)
abbrev mX7_isAxis : Mi := (cLy, RX7, cX7_isAxis, 1, some .boolean)
abbrev mX7_isFixedJoint : Mi := (cLy, RX7, cX7_isFixedJoint, 2, some .boolean)
abbrev mX7_isWithin : Mi := (cLy, RX7, cX7_isWithin, 3, some .boolean)
abbrev mX7_joint : Mi := (cLy, RX7, cX7_joint, 4, some .int)
abbrev mX7_lay : Mi := (cLy, RX7, cX7_lay, 2, some .int)
abbrev mX7_load : Mi := (cLy, RX7, cX7_load, 4, some .int)
abbrev mX7_miss : Mi := (cLy, RX7, cX7_miss, 1, some .int)
abbrev mX7_move : Mi := (cLy, RX7, cX7_move, 5, some .int)
abbrev mX7_rollOf : Mi := (cLy, RX7, cX7_rollOf, 2, some .int)
abbrev mX7_rolls : Mi := (cLy, RX7, cX7_rolls, 2, some .int)
abbrev mX7_round : Mi := (cLy, RX7, cX7_round, 4, some .int)
abbrev mX7_settle : Mi := (cLy, RX7, cX7_settle, 2, some .int)
abbrev mX7_slack : Mi := (cLy, RX7, cX7_slack, 1, some .int)
abbrev mX7_strand : Mi := (cLy, RX7, cX7_strand, 3, some .int)
abbrev mX7_undo : Mi := (cLy, RX7, cX7_undo, 1, some .int)
abbrev mX7_want : Mi := (cLy, RX7, cX7_want, 4, some .int)
abbrev mX7_wipe : Mi := (cLy, RX7, cX7_wipe, 2, some .int)
abbrev mX7_write : Mi := (cLy, RX7, cX7_write, 2, some .int)
abbrev mX0_init : Mi := (cLy, RX0, cX0_init, 1, none)
abbrev mX0_canPlaceFrom : Mi := (cLy, RX0, cX0_canPlaceFrom, 6, some .boolean)
abbrev mX0_fewest : Mi := (cLy, RX0, cX0_fewest, 4, some .int)
abbrev mX0_firstFit : Mi := (cLy, RX0, cX0_firstFit, 6, some .boolean)
abbrev mX0_isLikeOneAhead : Mi := (cLy, RX0, cX0_isLikeOneAhead, 3, some .boolean)
abbrev mX0_leastThinkable : Mi := (cLy, RX0, cX0_leastThinkable, 5, some .int)
abbrev mX0_leftOver : Mi := (cLy, RX0, cX0_leftOver, 3, some .int)
abbrev mX0_rollWith : Mi := (cLy, RX0, cX0_rollWith, 3, some .int)
abbrev mX0_sortPieces : Mi := (cLy, RX0, cX0_sortPieces, 5, none)
abbrev mX0_tooMuchIsLost : Mi := (cLy, RX0, cX0_tooMuchIsLost, 4, some .boolean)
abbrev mX1_init : Mi := (cLy, RX1, cX1_init, 1, none)
abbrev mX1_append : Mi := (cLy, RX1, cX1_append, 2, some .boolean)
abbrev mX1_at : Mi := (cLy, RX1, cX1_at, 2, some .char)
abbrev mX1_isFigure : Mi := (cLy, RX1, cX1_isFigure, 2, some .boolean)
abbrev mX2_init : Mi := (cLy, RX2, cX2_init, 1, none)
abbrev mX2_addFixed : Mi := (cLy, RX2, cX2_addFixed, 4, some .boolean)
abbrev mX2_addFree : Mi := (cLy, RX2, cX2_addFree, 2, some .boolean)
abbrev mX2_addStrand : Mi := (cLy, RX2, cX2_addStrand, 7, some .boolean)
abbrev mX2_allHung : Mi := (cLy, RX2, cX2_allHung, 1, some .boolean)
abbrev mX2_clear : Mi := (cLy, RX2, cX2_clear, 1, none)
abbrev mX2_copyFrom : Mi := (cLy, RX2, cX2_copyFrom, 2, none)
abbrev mX2_hangs : Mi := (cLy, RX2, cX2_hangs, 2, some .boolean)
abbrev mX2_hasJoint : Mi := (cLy, RX2, cX2_hasJoint, 2, some .boolean)
abbrev mX2_hasStrand : Mi := (cLy, RX2, cX2_hasStrand, 2, some .boolean)
abbrev mX2_hungJoints : Mi := (cLy, RX2, cX2_hungJoints, 7, some .int)
abbrev mX2_isFree : Mi := (cLy, RX2, cX2_isFree, 2, some .boolean)
abbrev mX2_isNeeded : Mi := (cLy, RX2, cX2_isNeeded, 2, some .boolean)
abbrev mX2_otherEnd : Mi := (cLy, RX2, cX2_otherEnd, 3, some .int)
abbrev mX2_strandsAt : Mi := (cLy, RX2, cX2_strandsAt, 4, some .int)
abbrev mX2_takesNoMore : Mi := (cLy, RX2, cX2_takesNoMore, 2, some .boolean)
abbrev mX2_tellDensitiesAnew : Mi := (cLy, RX2, cX2_tellDensitiesAnew, 6, some .boolean)
abbrev mX2_tellRolls : Mi := (cLy, RX2, cX2_tellRolls, 3, some .boolean)
abbrev mX3_init : Mi := (cLy, RX3, cX3_init, 2, none)
abbrev mX3_giveBack : Mi := (cLy, RX3, cX3_giveBack, 2, some .boolean)
abbrev mX3_keep : Mi := (cLy, RX3, cX3_keep, 2, none)
abbrev mX4_init : Mi := (cLy, RX4, cX4_init, 1, none)
abbrev mX4_above : Mi := (cLy, RX4, cX4_above, 4, some .long)
abbrev mX4_addPullOn : Mi := (cLy, RX4, cX4_addPullOn, 8, none)
abbrev mX4_borne : Mi := (cLy, RX4, cX4_borne, 7, some .int)
abbrev mX4_clearColumn : Mi := (cLy, RX4, cX4_clearColumn, 8, none)
abbrev mX4_eliminate : Mi := (cLy, RX4, cX4_eliminate, 5, some .boolean)
abbrev mX4_find : Mi := (cLy, RX4, cX4_find, 2, some .boolean)
abbrev mX4_isBetweenOthers : Mi := (cLy, RX4, cX4_isBetweenOthers, 12, some .boolean)
abbrev mX4_isWithinOthers : Mi := (cLy, RX4, cX4_isWithinOthers, 4, some .boolean)
abbrev mX4_missed : Mi := (cLy, RX4, cX4_missed, 4, some .int)
abbrev mX4_numberFreeJoints : Mi := (cLy, RX4, cX4_numberFreeJoints, 3, none)
abbrev mX4_off : Mi := (cLy, RX4, cX4_off, 3, some .int)
abbrev mX4_pull : Mi := (cLy, RX4, cX4_pull, 3, some .int)
abbrev mX4_setUpRows : Mi := (cLy, RX4, cX4_setUpRows, 4, none)
abbrev mX4_slackStrands : Mi := (cLy, RX4, cX4_slackStrands, 4, some .int)
abbrev mX4_tellHundredths : Mi := (cLy, RX4, cX4_tellHundredths, 4, none)
abbrev mX4_tellLengths : Mi := (cLy, RX4, cX4_tellLengths, 8, none)
abbrev mX4_wayFrom : Mi := (cLy, RX4, cX4_wayFrom, 4, some .int)
abbrev mX4_wholeRoot : Mi := (cLy, RX4, cX4_wholeRoot, 6, some .int)
abbrev mX5_init : Mi := (cLy, RX5, cX5_init, 1, none)
abbrev mX5_addItem : Mi := (cLy, RX5, cX5_addItem, 3, some .boolean)
abbrev mX5_numbersOf : Mi := (cLy, RX5, cX5_numbersOf, 2, some .int)
abbrev mX5_readInto : Mi := (cLy, RX5, cX5_readInto, 5, some .int)
abbrev mX5_takeItem : Mi := (cLy, RX5, cX5_takeItem, 6, some .int)
abbrev mX5_takeNumbers : Mi := (cLy, RX5, cX5_takeNumbers, 7, some .int)
abbrev mX6_init : Mi := (cLy, RX6, cX6_init, 1, none)
abbrev mX6_seekBetter : Mi := (cLy, RX6, cX6_seekBetter, 3, some .boolean)
abbrev mX6_seekRest : Mi := (cLy, RX6, cX6_seekRest, 3, some .boolean)
abbrev mX6_tryDensitiesOf : Mi := (cLy, RX6, cX6_tryDensitiesOf, 4, none)
abbrev mX8_init : Mi := (mLy, RX8, cX8_init, 1, none)
abbrev mX8_bears : Mi := (mLy, RX8, cX8_bears, 5, some .int)
abbrev mX8_becomes : Mi := (mLy, RX8, cX8_becomes, 4, some .int)
abbrev mX8_better : Mi := (mLy, RX8, cX8_better, 8, some .int)
abbrev mX8_bitsOf : Mi := (mLy, RX8, cX8_bitsOf, 4, some .int)
abbrev mX8_common : Mi := (mLy, RX8, cX8_common, 10, some .long)
abbrev mX8_count : Mi := (mLy, RX8, cX8_count, 5, some .int)
abbrev mX8_density : Mi := (mLy, RX8, cX8_density, 3, some .int)
abbrev mX8_down_ : Mi := (mLy, RX8, cX8_down_, 3, some .int)
abbrev mX8_down : Mi := (mLy, RX8, cX8_down, 4, some .long)
abbrev mX8_draftFrees : Mi := (mLy, RX8, cX8_draftFrees, 3, some .int)
abbrev mX8_exact : Mi := (mLy, RX8, cX8_exact, 8, some .int)
abbrev mX8_fault : Mi := (mLy, RX8, cX8_fault, 1, some .int)
abbrev mX8_fewestRolls : Mi := (mLy, RX8, cX8_fewestRolls, 4, some .int)
abbrev mX8_firstFit : Mi := (mLy, RX8, cX8_firstFit, 3, none)
abbrev mX8_fixes : Mi := (mLy, RX8, cX8_fixes, 5, none)
abbrev mX8_goesRound : Mi := (mLy, RX8, cX8_goesRound, 6, some .boolean)
abbrev mX8_greatest : Mi := (mLy, RX8, cX8_greatest, 6, some .int)
abbrev mX8_hanging : Mi := (mLy, RX8, cX8_hanging, 3, some .int)
abbrev mX8_hangs : Mi := (mLy, RX8, cX8_hangs, 2, some .boolean)
abbrev mX8_hasRoom : Mi := (mLy, RX8, cX8_hasRoom, 4, some .boolean)
abbrev mX8_in : Mi := (mLy, RX8, cX8_in, 3, some .boolean)
abbrev mX8_isAsked : Mi := (mLy, RX8, cX8_isAsked, 2, some .boolean)
abbrev mX8_isFigure : Mi := (mLy, RX8, cX8_isFigure, 2, some .boolean)
abbrev mX8_isFree : Mi := (mLy, RX8, cX8_isFree, 2, some .boolean)
abbrev mX8_isJoint : Mi := (mLy, RX8, cX8_isJoint, 2, some .boolean)
abbrev mX8_isOf : Mi := (mLy, RX8, cX8_isOf, 3, some .boolean)
abbrev mX8_isStrand : Mi := (mLy, RX8, cX8_isStrand, 2, some .boolean)
abbrev mX8_isTied : Mi := (mLy, RX8, cX8_isTied, 7, some .boolean)
abbrev mX8_isWithin : Mi := (mLy, RX8, cX8_isWithin, 9, some .boolean)
abbrev mX8_joins : Mi := (mLy, RX8, cX8_joins, 7, none)
abbrev mX8_joint : Mi := (mLy, RX8, cX8_joint, 4, some .int)
abbrev mX8_lay : Mi := (mLy, RX8, cX8_lay, 2, some .int)
abbrev mX8_lays : Mi := (mLy, RX8, cX8_lays, 10, some .boolean)
abbrev mX8_laysEnd : Mi := (mLy, RX8, cX8_laysEnd, 7, none)
abbrev mX8_laysHung : Mi := (mLy, RX8, cX8_laysHung, 5, some .boolean)
abbrev mX8_laysPieces : Mi := (mLy, RX8, cX8_laysPieces, 3, some .boolean)
abbrev mX8_laysTable : Mi := (mLy, RX8, cX8_laysTable, 2, none)
abbrev mX8_lengthOf : Mi := (mLy, RX8, cX8_lengthOf, 7, some .int)
abbrev mX8_load : Mi := (mLy, RX8, cX8_load, 3, some .int)
abbrev mX8_longest : Mi := (mLy, RX8, cX8_longest, 4, some .int)
abbrev mX8_miss : Mi := (mLy, RX8, cX8_miss, 1, some .int)
abbrev mX8_missing : Mi := (mLy, RX8, cX8_missing, 3, some .int)
abbrev mX8_move : Mi := (mLy, RX8, cX8_move, 4, some .int)
abbrev mX8_notes : Mi := (mLy, RX8, cX8_notes, 2, none)
abbrev mX8_of : Mi := (mLy, RX8, cX8_of, 3, some .int)
abbrev mX8_offOf : Mi := (mLy, RX8, cX8_offOf, 3, some .int)
abbrev mX8_other : Mi := (mLy, RX8, cX8_other, 3, some .int)
abbrev mX8_reads : Mi := (mLy, RX8, cX8_reads, 3, some .int)
abbrev mX8_rollOf : Mi := (mLy, RX8, cX8_rollOf, 2, some .int)
abbrev mX8_rolls : Mi := (mLy, RX8, cX8_rolls, 4, some .int)
abbrev mX8_root : Mi := (mLy, RX8, cX8_root, 8, some .long)
abbrev mX8_round : Mi := (mLy, RX8, cX8_round, 4, some .int)
abbrev mX8_settle : Mi := (mLy, RX8, cX8_settle, 5, some .int)
abbrev mX8_slack : Mi := (mLy, RX8, cX8_slack, 3, some .int)
abbrev mX8_strand : Mi := (mLy, RX8, cX8_strand, 4, some .int)
abbrev mX8_takes : Mi := (mLy, RX8, cX8_takes, 2, none)
abbrev mX8_takesFixed : Mi := (mLy, RX8, cX8_takesFixed, 3, none)
abbrev mX8_takesFree : Mi := (mLy, RX8, cX8_takesFree, 3, none)
abbrev mX8_takesNumber : Mi := (mLy, RX8, cX8_takesNumber, 4, some .int)
abbrev mX8_takesNumbers : Mi := (mLy, RX8, cX8_takesNumbers, 3, none)
abbrev mX8_takesRolls : Mi := (mLy, RX8, cX8_takesRolls, 1, none)
abbrev mX8_takesStrand : Mi := (mLy, RX8, cX8_takesStrand, 4, none)
abbrev mX8_ties : Mi := (mLy, RX8, cX8_ties, 6, none)
abbrev mX8_undo : Mi := (mLy, RX8, cX8_undo, 2, some .int)
abbrev mX8_want : Mi := (mLy, RX8, cX8_want, 3, some .int)
abbrev mX8_wipe : Mi := (mLy, RX8, cX8_wipe, 2, some .int)
abbrev mX8_write : Mi := (mLy, RX8, cX8_write, 2, some .int)
abbrev mJ6_bitCount_0f7a4 : Mi := (cLy, RJ6, cJ6_bitCount_0f7a4, 1, some .int)
abbrev mJ6_compare_7cf53 : Mi := (cLy, RJ6, cJ6_compare_7cf53, 2, some .int)
abbrev mJ9_abs_0f7a4 : Mi := (cLy, RJ9, cJ9_abs_0f7a4, 1, some .int)
abbrev mJ9_abs_067f4 : Mi := (cLy, RJ9, cJ9_abs_067f4, 2, some .long)
abbrev mJ9_floorDiv_f86c9 : Mi := (cLy, RJ9, cJ9_floorDiv_f86c9, 6, some .long)
abbrev mJ9_max_7cf53 : Mi := (cLy, RJ9, cJ9_max_7cf53, 2, some .int)
abbrev mJ9_max_f86c9 : Mi := (cLy, RJ9, cJ9_max_f86c9, 4, some .long)
abbrev mJ9_min_7cf53 : Mi := (cLy, RJ9, cJ9_min_7cf53, 2, some .int)
abbrev mJ0_charAt_5068e : Mi := (cLy, RJ0, cJ0_charAt_5068e, 2, some .char)
abbrev mJ0_checkIndex_df160 : Mi := (cLy, RJ0, cJ0_checkIndex_df160, 2, none)
abbrev mJ0_coder_7d493 : Mi := (cLy, RJ0, cJ0_coder_7d493, 1, some .byte)
abbrev mJ0_isLatin1_aae02 : Mi := (cLy, RJ0, cJ0_isLatin1_aae02, 1, some .boolean)
abbrev mJ0_length_8abf5 : Mi := (cLy, RJ0, cJ0_length_8abf5, 1, some .int)
abbrev mJ1_charAt_3b067 : Mi := (cLy, RJ1, cJ1_charAt_3b067, 2, some .char)
abbrev mJ2_charAt_3b067 : Mi := (cLy, RJ2, cJ2_charAt_3b067, 2, some .char)
abbrev mJ2_checkIndex_2214a : Mi := (cLy, RJ2, cJ2_checkIndex_2214a, 2, none)
abbrev mJ2_getChar_3b067 : Mi := (cLy, RJ2, cJ2_getChar_3b067, 2, some .char)
abbrev mJ2_length_9d52b : Mi := (cLy, RJ2, cJ2_length_9d52b, 1, some .int)
abbrev mJ3_checkIndex_8e157 : Mi := (cLy, RJ3, cJ3_checkIndex_8e157, 3, some .int)
theorem inbX0 : ∀ w ∈ u_ws RX0 TX0 10, w ∈ BG := fun w h => by
  obtain ⟨k, hk, rfl⟩ := List.mem_map.mp h
  have hk := List.mem_range.mp hk
  match k, hk with
  | 0, _ => exact inT1 214 (by decide +kernel) (by decide +kernel)
  | 1, _ => exact inT1 216 (by decide +kernel) (by decide +kernel)
  | 2, _ => exact inT1 218 (by decide +kernel) (by decide +kernel)
  | 3, _ => exact inT1 220 (by decide +kernel) (by decide +kernel)
  | 4, _ => exact inT1 222 (by decide +kernel) (by decide +kernel)
  | 5, _ => exact inT1 224 (by decide +kernel) (by decide +kernel)
  | 6, _ => exact inT1 226 (by decide +kernel) (by decide +kernel)
  | 7, _ => exact inT1 228 (by decide +kernel) (by decide +kernel)
  | 8, _ => exact inT1 230 (by decide +kernel) (by decide +kernel)
  | 9, _ => exact inT1 232 (by decide +kernel) (by decide +kernel)
  | k + 10, hk => exact absurd hk (by omega)
theorem inbX1 : ∀ w ∈ u_ws RX1 TX1 2, w ∈ BG := fun w h => by
  obtain ⟨k, hk, rfl⟩ := List.mem_map.mp h
  have hk := List.mem_range.mp hk
  match k, hk with
  | 0, _ => exact inT1 35 (by decide +kernel) (by decide +kernel)
  | 1, _ => exact inT1 37 (by decide +kernel) (by decide +kernel)
  | k + 2, hk => exact absurd hk (by omega)
theorem inbX2 : ∀ w ∈ u_ws RX2 TX2 12, w ∈ BG := fun w h => by
  obtain ⟨k, hk, rfl⟩ := List.mem_map.mp h
  have hk := List.mem_range.mp hk
  match k, hk with
  | 0, _ => exact inT1 103 (by decide +kernel) (by decide +kernel)
  | 1, _ => exact inT1 105 (by decide +kernel) (by decide +kernel)
  | 2, _ => exact inT1 107 (by decide +kernel) (by decide +kernel)
  | 3, _ => exact inT1 109 (by decide +kernel) (by decide +kernel)
  | 4, _ => exact inT1 111 (by decide +kernel) (by decide +kernel)
  | 5, _ => exact inT1 113 (by decide +kernel) (by decide +kernel)
  | 6, _ => exact inT1 115 (by decide +kernel) (by decide +kernel)
  | 7, _ => exact inT1 117 (by decide +kernel) (by decide +kernel)
  | 8, _ => exact inT1 119 (by decide +kernel) (by decide +kernel)
  | 9, _ => exact inT1 121 (by decide +kernel) (by decide +kernel)
  | 10, _ => exact inT1 123 (by decide +kernel) (by decide +kernel)
  | 11, _ => exact inT1 125 (by decide +kernel) (by decide +kernel)
  | k + 12, hk => exact absurd hk (by omega)
theorem inbX3 : ∀ w ∈ u_ws RX3 TX3 3, w ∈ BG := fun w h => by
  obtain ⟨k, hk, rfl⟩ := List.mem_map.mp h
  have hk := List.mem_range.mp hk
  match k, hk with
  | 0, _ => exact inT1 132 (by decide +kernel) (by decide +kernel)
  | 1, _ => exact inT1 134 (by decide +kernel) (by decide +kernel)
  | 2, _ => exact inT1 136 (by decide +kernel) (by decide +kernel)
  | k + 3, hk => exact absurd hk (by omega)
theorem inbX4 : ∀ w ∈ u_ws RX4 TX4 6, w ∈ BG := fun w h => by
  obtain ⟨k, hk, rfl⟩ := List.mem_map.mp h
  have hk := List.mem_range.mp hk
  match k, hk with
  | 0, _ => exact inT1 157 (by decide +kernel) (by decide +kernel)
  | 1, _ => exact inT1 159 (by decide +kernel) (by decide +kernel)
  | 2, _ => exact inT1 161 (by decide +kernel) (by decide +kernel)
  | 3, _ => exact inT1 163 (by decide +kernel) (by decide +kernel)
  | 4, _ => exact inT1 165 (by decide +kernel) (by decide +kernel)
  | 5, _ => exact inT1 167 (by decide +kernel) (by decide +kernel)
  | k + 6, hk => exact absurd hk (by omega)
theorem inbX5 : ∀ w ∈ u_ws RX5 TX5 1, w ∈ BG := fun w h => by
  obtain ⟨k, hk, rfl⟩ := List.mem_map.mp h
  have hk := List.mem_range.mp hk
  match k, hk with
  | 0, _ => exact inT1 48 (by decide +kernel) (by decide +kernel)
  | k + 1, hk => exact absurd hk (by omega)
theorem inbX6 : ∀ w ∈ u_ws RX6 TX6 4, w ∈ BG := fun w h => by
  obtain ⟨k, hk, rfl⟩ := List.mem_map.mp h
  have hk := List.mem_range.mp hk
  match k, hk with
  | 0, _ => exact inT1 187 (by decide +kernel) (by decide +kernel)
  | 1, _ => exact inT1 189 (by decide +kernel) (by decide +kernel)
  | 2, _ => exact inT1 191 (by decide +kernel) (by decide +kernel)
  | 3, _ => exact inT1 193 (by decide +kernel) (by decide +kernel)
  | k + 4, hk => exact absurd hk (by omega)
theorem inbX7 : ∀ w ∈ u_ws RX7 TX7 8, w ∈ BG := fun w h => by
  obtain ⟨k, hk, rfl⟩ := List.mem_map.mp h
  have hk := List.mem_range.mp hk
  match k, hk with
  | 0, _ => exact inT2 132 (by decide +kernel) (by decide +kernel)
  | 1, _ => exact inT2 134 (by decide +kernel) (by decide +kernel)
  | 2, _ => exact inT2 136 (by decide +kernel) (by decide +kernel)
  | 3, _ => exact inT2 138 (by decide +kernel) (by decide +kernel)
  | 4, _ => exact inT2 140 (by decide +kernel) (by decide +kernel)
  | 5, _ => exact inT2 142 (by decide +kernel) (by decide +kernel)
  | 6, _ => exact inT2 144 (by decide +kernel) (by decide +kernel)
  | 7, _ => exact inT2 146 (by decide +kernel) (by decide +kernel)
  | k + 8, hk => exact absurd hk (by omega)
theorem inbX8 : ∀ w ∈ u_ws RX8 TX8 24, w ∈ BG := fun w h => by
  obtain ⟨k, hk, rfl⟩ := List.mem_map.mp h
  have hk := List.mem_range.mp hk
  match k, hk with
  | 0, _ => exact inT4 23 (by decide +kernel) (by decide +kernel)
  | 1, _ => exact inT4 25 (by decide +kernel) (by decide +kernel)
  | 2, _ => exact inT4 27 (by decide +kernel) (by decide +kernel)
  | 3, _ => exact inT4 29 (by decide +kernel) (by decide +kernel)
  | 4, _ => exact inT4 31 (by decide +kernel) (by decide +kernel)
  | 5, _ => exact inT4 33 (by decide +kernel) (by decide +kernel)
  | 6, _ => exact inT4 35 (by decide +kernel) (by decide +kernel)
  | 7, _ => exact inT4 37 (by decide +kernel) (by decide +kernel)
  | 8, _ => exact inT4 39 (by decide +kernel) (by decide +kernel)
  | 9, _ => exact inT4 41 (by decide +kernel) (by decide +kernel)
  | 10, _ => exact inT4 43 (by decide +kernel) (by decide +kernel)
  | 11, _ => exact inT4 45 (by decide +kernel) (by decide +kernel)
  | 12, _ => exact inT4 47 (by decide +kernel) (by decide +kernel)
  | 13, _ => exact inT4 49 (by decide +kernel) (by decide +kernel)
  | 14, _ => exact inT4 51 (by decide +kernel) (by decide +kernel)
  | 15, _ => exact inT4 53 (by decide +kernel) (by decide +kernel)
  | 16, _ => exact inT4 55 (by decide +kernel) (by decide +kernel)
  | 17, _ => exact inT4 57 (by decide +kernel) (by decide +kernel)
  | 18, _ => exact inT4 59 (by decide +kernel) (by decide +kernel)
  | 19, _ => exact inT4 61 (by decide +kernel) (by decide +kernel)
  | 20, _ => exact inT4 63 (by decide +kernel) (by decide +kernel)
  | 21, _ => exact inT4 65 (by decide +kernel) (by decide +kernel)
  | 22, _ => exact inT4 67 (by decide +kernel) (by decide +kernel)
  | 23, _ => exact inT4 69 (by decide +kernel) (by decide +kernel)
  | k + 24, hk => exact absurd hk (by omega)
theorem fg_X1_9 : FG RX1 9 1 0 := ⟨RX1, TX1, 2, rfl, by decide, inbX1, inT1 31 (by decide +kernel) rfl⟩
theorem fg_X7_81 : FG RX7 81 1 1 := ⟨RX1, TX1, 2, rfl, by decide, inbX1, inT1 32 (by decide +kernel) rfl⟩
theorem fp_X7_81 : FP RX7 81 1 1 .int := ⟨RX1, TX1, 2, tyX1, rfl, by decide, inbX1, inT1 32 (by decide +kernel) rfl, tyX1_ok, nmX1, rfl, by decide +kernel⟩
theorem fg_X1_15 : FG RX1 15 1 1 := ⟨RX1, TX1, 2, rfl, by decide, inbX1, inT1 33 (by decide +kernel) rfl⟩
theorem fp_X1_15 : FP RX1 15 1 1 .int := ⟨RX1, TX1, 2, tyX1, rfl, by decide, inbX1, inT1 33 (by decide +kernel) rfl, tyX1_ok, nmX1, rfl, by decide +kernel⟩
theorem fg_X5_20 : FG RX5 20 1 1 := ⟨RX1, TX1, 2, rfl, by decide, inbX1, inT1 34 (by decide +kernel) rfl⟩
theorem fp_X5_20 : FP RX5 20 1 1 .int := ⟨RX1, TX1, 2, tyX1, rfl, by decide, inbX1, inT1 34 (by decide +kernel) rfl, tyX1_ok, nmX1, rfl, by decide +kernel⟩
theorem fg_X5_9 : FG RX5 9 5 0 := ⟨RX5, TX5, 1, rfl, by decide, inbX5, inT1 47 (by decide +kernel) rfl⟩
theorem fg_X2_30 : FG RX2 30 2 0 := ⟨RX2, TX2, 12, rfl, by decide, inbX2, inT1 65 (by decide +kernel) rfl⟩
theorem fp_X2_30 : FP RX2 30 2 0 .int := ⟨RX2, TX2, 12, tyX2, rfl, by decide, inbX2, inT1 65 (by decide +kernel) rfl, tyX2_ok, nmX2, rfl, by decide +kernel⟩
theorem fg_X4_56 : FG RX4 56 2 0 := ⟨RX2, TX2, 12, rfl, by decide, inbX2, inT1 66 (by decide +kernel) rfl⟩
theorem fp_X4_56 : FP RX4 56 2 0 .int := ⟨RX2, TX2, 12, tyX2, rfl, by decide, inbX2, inT1 66 (by decide +kernel) rfl, tyX2_ok, nmX2, rfl, by decide +kernel⟩
theorem fg_X7_89 : FG RX7 89 2 0 := ⟨RX2, TX2, 12, rfl, by decide, inbX2, inT1 67 (by decide +kernel) rfl⟩
theorem fp_X7_89 : FP RX7 89 2 0 .int := ⟨RX2, TX2, 12, tyX2, rfl, by decide, inbX2, inT1 67 (by decide +kernel) rfl, tyX2_ok, nmX2, rfl, by decide +kernel⟩
theorem fg_X2_34 : FG RX2 34 2 1 := ⟨RX2, TX2, 12, rfl, by decide, inbX2, inT1 68 (by decide +kernel) rfl⟩
theorem fp_X2_34 : FP RX2 34 2 1 .int := ⟨RX2, TX2, 12, tyX2, rfl, by decide, inbX2, inT1 68 (by decide +kernel) rfl, tyX2_ok, nmX2, rfl, by decide +kernel⟩
theorem fg_X7_253 : FG RX7 253 2 1 := ⟨RX2, TX2, 12, rfl, by decide, inbX2, inT1 69 (by decide +kernel) rfl⟩
theorem fp_X7_253 : FP RX7 253 2 1 .int := ⟨RX2, TX2, 12, tyX2, rfl, by decide, inbX2, inT1 69 (by decide +kernel) rfl, tyX2_ok, nmX2, rfl, by decide +kernel⟩
theorem fg_X2_37 : FG RX2 37 2 2 := ⟨RX2, TX2, 12, rfl, by decide, inbX2, inT1 70 (by decide +kernel) rfl⟩
theorem fp_X2_37 : FP RX2 37 2 2 .int := ⟨RX2, TX2, 12, tyX2, rfl, by decide, inbX2, inT1 70 (by decide +kernel) rfl, tyX2_ok, nmX2, rfl, by decide +kernel⟩
theorem fg_X0_53 : FG RX0 53 2 2 := ⟨RX2, TX2, 12, rfl, by decide, inbX2, inT1 71 (by decide +kernel) rfl⟩
theorem fp_X0_53 : FP RX0 53 2 2 .int := ⟨RX2, TX2, 12, tyX2, rfl, by decide, inbX2, inT1 71 (by decide +kernel) rfl, tyX2_ok, nmX2, rfl, by decide +kernel⟩
theorem fg_X6_51 : FG RX6 51 2 2 := ⟨RX2, TX2, 12, rfl, by decide, inbX2, inT1 72 (by decide +kernel) rfl⟩
theorem fp_X6_51 : FP RX6 51 2 2 .int := ⟨RX2, TX2, 12, tyX2, rfl, by decide, inbX2, inT1 72 (by decide +kernel) rfl, tyX2_ok, nmX2, rfl, by decide +kernel⟩
theorem fg_X4_66 : FG RX4 66 2 2 := ⟨RX2, TX2, 12, rfl, by decide, inbX2, inT1 73 (by decide +kernel) rfl⟩
theorem fp_X4_66 : FP RX4 66 2 2 .int := ⟨RX2, TX2, 12, tyX2, rfl, by decide, inbX2, inT1 73 (by decide +kernel) rfl, tyX2_ok, nmX2, rfl, by decide +kernel⟩
theorem fg_X7_234 : FG RX7 234 2 2 := ⟨RX2, TX2, 12, rfl, by decide, inbX2, inT1 74 (by decide +kernel) rfl⟩
theorem fp_X7_234 : FP RX7 234 2 2 .int := ⟨RX2, TX2, 12, tyX2, rfl, by decide, inbX2, inT1 74 (by decide +kernel) rfl, tyX2_ok, nmX2, rfl, by decide +kernel⟩
theorem fg_X2_40 : FG RX2 40 2 3 := ⟨RX2, TX2, 12, rfl, by decide, inbX2, inT1 75 (by decide +kernel) rfl⟩
theorem fp_X2_40 : FP RX2 40 2 3 .int := ⟨RX2, TX2, 12, tyX2, rfl, by decide, inbX2, inT1 75 (by decide +kernel) rfl, tyX2_ok, nmX2, rfl, by decide +kernel⟩
theorem fg_X7_131 : FG RX7 131 2 3 := ⟨RX2, TX2, 12, rfl, by decide, inbX2, inT1 76 (by decide +kernel) rfl⟩
theorem fp_X7_131 : FP RX7 131 2 3 .int := ⟨RX2, TX2, 12, tyX2, rfl, by decide, inbX2, inT1 76 (by decide +kernel) rfl, tyX2_ok, nmX2, rfl, by decide +kernel⟩
theorem fg_X4_124 : FG RX4 124 2 3 := ⟨RX2, TX2, 12, rfl, by decide, inbX2, inT1 77 (by decide +kernel) rfl⟩
theorem fp_X4_124 : FP RX4 124 2 3 .int := ⟨RX2, TX2, 12, tyX2, rfl, by decide, inbX2, inT1 77 (by decide +kernel) rfl, tyX2_ok, nmX2, rfl, by decide +kernel⟩
theorem fg_X0_27 : FG RX0 27 2 4 := ⟨RX2, TX2, 12, rfl, by decide, inbX2, inT1 78 (by decide +kernel) rfl⟩
theorem fp_X0_27 : FP RX0 27 2 4 .int := ⟨RX2, TX2, 12, tyX2, rfl, by decide, inbX2, inT1 78 (by decide +kernel) rfl, tyX2_ok, nmX2, rfl, by decide +kernel⟩
theorem fg_X2_43 : FG RX2 43 2 4 := ⟨RX2, TX2, 12, rfl, by decide, inbX2, inT1 79 (by decide +kernel) rfl⟩
theorem fp_X2_43 : FP RX2 43 2 4 .int := ⟨RX2, TX2, 12, tyX2, rfl, by decide, inbX2, inT1 79 (by decide +kernel) rfl, tyX2_ok, nmX2, rfl, by decide +kernel⟩
theorem fg_X7_256 : FG RX7 256 2 4 := ⟨RX2, TX2, 12, rfl, by decide, inbX2, inT1 80 (by decide +kernel) rfl⟩
theorem fp_X7_256 : FP RX7 256 2 4 .int := ⟨RX2, TX2, 12, tyX2, rfl, by decide, inbX2, inT1 80 (by decide +kernel) rfl, tyX2_ok, nmX2, rfl, by decide +kernel⟩
theorem fg_X2_46 : FG RX2 46 2 5 := ⟨RX2, TX2, 12, rfl, by decide, inbX2, inT1 81 (by decide +kernel) rfl⟩
theorem fp_X2_46 : FP RX2 46 2 5 .int := ⟨RX2, TX2, 12, tyX2, rfl, by decide, inbX2, inT1 81 (by decide +kernel) rfl, tyX2_ok, nmX2, rfl, by decide +kernel⟩
theorem fg_X0_46 : FG RX0 46 2 5 := ⟨RX2, TX2, 12, rfl, by decide, inbX2, inT1 82 (by decide +kernel) rfl⟩
theorem fp_X0_46 : FP RX0 46 2 5 .int := ⟨RX2, TX2, 12, tyX2, rfl, by decide, inbX2, inT1 82 (by decide +kernel) rfl, tyX2_ok, nmX2, rfl, by decide +kernel⟩
theorem fg_X7_259 : FG RX7 259 2 5 := ⟨RX2, TX2, 12, rfl, by decide, inbX2, inT1 83 (by decide +kernel) rfl⟩
theorem fp_X7_259 : FP RX7 259 2 5 .int := ⟨RX2, TX2, 12, tyX2, rfl, by decide, inbX2, inT1 83 (by decide +kernel) rfl, tyX2_ok, nmX2, rfl, by decide +kernel⟩
theorem fg_X2_9 : FG RX2 9 2 6 := ⟨RX2, TX2, 12, rfl, by decide, inbX2, inT1 84 (by decide +kernel) rfl⟩
theorem fg_X4_89 : FG RX4 89 2 6 := ⟨RX2, TX2, 12, rfl, by decide, inbX2, inT1 85 (by decide +kernel) rfl⟩
theorem fg_X7_125 : FG RX7 125 2 6 := ⟨RX2, TX2, 12, rfl, by decide, inbX2, inT1 86 (by decide +kernel) rfl⟩
theorem fg_X2_15 : FG RX2 15 2 7 := ⟨RX2, TX2, 12, rfl, by decide, inbX2, inT1 87 (by decide +kernel) rfl⟩
theorem fg_X4_63 : FG RX4 63 2 7 := ⟨RX2, TX2, 12, rfl, by decide, inbX2, inT1 88 (by decide +kernel) rfl⟩
theorem fg_X7_116 : FG RX7 116 2 7 := ⟨RX2, TX2, 12, rfl, by decide, inbX2, inT1 89 (by decide +kernel) rfl⟩
theorem fg_X2_18 : FG RX2 18 2 8 := ⟨RX2, TX2, 12, rfl, by decide, inbX2, inT1 90 (by decide +kernel) rfl⟩
theorem fg_X4_72 : FG RX4 72 2 8 := ⟨RX2, TX2, 12, rfl, by decide, inbX2, inT1 91 (by decide +kernel) rfl⟩
theorem fg_X7_200 : FG RX7 200 2 8 := ⟨RX2, TX2, 12, rfl, by decide, inbX2, inT1 92 (by decide +kernel) rfl⟩
theorem fg_X2_21 : FG RX2 21 2 9 := ⟨RX2, TX2, 12, rfl, by decide, inbX2, inT1 93 (by decide +kernel) rfl⟩
theorem fg_X4_79 : FG RX4 79 2 9 := ⟨RX2, TX2, 12, rfl, by decide, inbX2, inT1 94 (by decide +kernel) rfl⟩
theorem fg_X7_203 : FG RX7 203 2 9 := ⟨RX2, TX2, 12, rfl, by decide, inbX2, inT1 95 (by decide +kernel) rfl⟩
theorem fg_X2_24 : FG RX2 24 2 10 := ⟨RX2, TX2, 12, rfl, by decide, inbX2, inT1 96 (by decide +kernel) rfl⟩
theorem fg_X6_62 : FG RX6 62 2 10 := ⟨RX2, TX2, 12, rfl, by decide, inbX2, inT1 97 (by decide +kernel) rfl⟩
theorem fg_X4_86 : FG RX4 86 2 10 := ⟨RX2, TX2, 12, rfl, by decide, inbX2, inT1 98 (by decide +kernel) rfl⟩
theorem fg_X7_99 : FG RX7 99 2 10 := ⟨RX2, TX2, 12, rfl, by decide, inbX2, inT1 99 (by decide +kernel) rfl⟩
theorem fg_X2_27 : FG RX2 27 2 11 := ⟨RX2, TX2, 12, rfl, by decide, inbX2, inT1 100 (by decide +kernel) rfl⟩
theorem fg_X7_107 : FG RX7 107 2 11 := ⟨RX2, TX2, 12, rfl, by decide, inbX2, inT1 101 (by decide +kernel) rfl⟩
theorem fg_X4_127 : FG RX4 127 2 11 := ⟨RX2, TX2, 12, rfl, by decide, inbX2, inT1 102 (by decide +kernel) rfl⟩
theorem fg_X3_11 : FG RX3 11 3 0 := ⟨RX3, TX3, 3, rfl, by decide, inbX3, inT1 128 (by decide +kernel) rfl⟩
theorem fg_X3_18 : FG RX3 18 3 1 := ⟨RX3, TX3, 3, rfl, by decide, inbX3, inT1 129 (by decide +kernel) rfl⟩
theorem fp_X3_18 : FP RX3 18 3 1 .int := ⟨RX3, TX3, 3, tyX3, rfl, by decide, inbX3, inT1 129 (by decide +kernel) rfl, tyX3_ok, nmX3, rfl, by decide +kernel⟩
theorem fg_X3_26 : FG RX3 26 3 2 := ⟨RX3, TX3, 3, rfl, by decide, inbX3, inT1 130 (by decide +kernel) rfl⟩
theorem fp_X3_26 : FP RX3 26 3 2 .int := ⟨RX3, TX3, 3, tyX3, rfl, by decide, inbX3, inT1 130 (by decide +kernel) rfl, tyX3_ok, nmX3, rfl, by decide +kernel⟩
theorem fg_X7_92 : FG RX7 92 3 2 := ⟨RX3, TX3, 3, rfl, by decide, inbX3, inT1 131 (by decide +kernel) rfl⟩
theorem fp_X7_92 : FP RX7 92 3 2 .int := ⟨RX3, TX3, 3, tyX3, rfl, by decide, inbX3, inT1 131 (by decide +kernel) rfl, tyX3_ok, nmX3, rfl, by decide +kernel⟩
theorem fg_X4_9 : FG RX4 9 4 0 := ⟨RX4, TX4, 6, rfl, by decide, inbX4, inT1 147 (by decide +kernel) rfl⟩
theorem fg_X4_17 : FG RX4 17 4 1 := ⟨RX4, TX4, 6, rfl, by decide, inbX4, inT1 148 (by decide +kernel) rfl⟩
theorem fg_X4_20 : FG RX4 20 4 2 := ⟨RX4, TX4, 6, rfl, by decide, inbX4, inT1 149 (by decide +kernel) rfl⟩
theorem fg_X7_168 : FG RX7 168 4 2 := ⟨RX4, TX4, 6, rfl, by decide, inbX4, inT1 150 (by decide +kernel) rfl⟩
theorem fg_X4_23 : FG RX4 23 4 3 := ⟨RX4, TX4, 6, rfl, by decide, inbX4, inT1 151 (by decide +kernel) rfl⟩
theorem fg_X6_40 : FG RX6 40 4 3 := ⟨RX4, TX4, 6, rfl, by decide, inbX4, inT1 152 (by decide +kernel) rfl⟩
theorem fg_X7_148 : FG RX7 148 4 3 := ⟨RX4, TX4, 6, rfl, by decide, inbX4, inT1 153 (by decide +kernel) rfl⟩
theorem fg_X4_52 : FG RX4 52 4 4 := ⟨RX4, TX4, 6, rfl, by decide, inbX4, inT1 154 (by decide +kernel) rfl⟩
theorem fp_X4_52 : FP RX4 52 4 4 .int := ⟨RX4, TX4, 6, tyX4, rfl, by decide, inbX4, inT1 154 (by decide +kernel) rfl, tyX4_ok, nmX4, rfl, by decide +kernel⟩
theorem fg_X4_26 : FG RX4 26 4 5 := ⟨RX4, TX4, 6, rfl, by decide, inbX4, inT1 155 (by decide +kernel) rfl⟩
theorem fp_X4_26 : FP RX4 26 4 5 .long := ⟨RX4, TX4, 6, tyX4, rfl, by decide, inbX4, inT1 155 (by decide +kernel) rfl, tyX4_ok, nmX4, rfl, by decide +kernel⟩
theorem fg_X7_178 : FG RX7 178 4 5 := ⟨RX4, TX4, 6, rfl, by decide, inbX4, inT1 156 (by decide +kernel) rfl⟩
theorem fp_X7_178 : FP RX7 178 4 5 .long := ⟨RX4, TX4, 6, tyX4, rfl, by decide, inbX4, inT1 156 (by decide +kernel) rfl, tyX4_ok, nmX4, rfl, by decide +kernel⟩
theorem fg_X6_12 : FG RX6 12 6 0 := ⟨RX6, TX6, 4, rfl, by decide, inbX6, inT1 181 (by decide +kernel) rfl⟩
theorem fg_X6_21 : FG RX6 21 6 1 := ⟨RX6, TX6, 4, rfl, by decide, inbX6, inT1 182 (by decide +kernel) rfl⟩
theorem fg_X6_48 : FG RX6 48 6 2 := ⟨RX6, TX6, 4, rfl, by decide, inbX6, inT1 183 (by decide +kernel) rfl⟩
theorem fp_X6_48 : FP RX6 48 6 2 .int := ⟨RX6, TX6, 4, tyX6, rfl, by decide, inbX6, inT1 183 (by decide +kernel) rfl, tyX6_ok, nmX6, rfl, by decide +kernel⟩
theorem fg_X7_226 : FG RX7 226 6 2 := ⟨RX6, TX6, 4, rfl, by decide, inbX6, inT1 184 (by decide +kernel) rfl⟩
theorem fp_X7_226 : FP RX7 226 6 2 .int := ⟨RX6, TX6, 4, tyX6, rfl, by decide, inbX6, inT1 184 (by decide +kernel) rfl, tyX6_ok, nmX6, rfl, by decide +kernel⟩
theorem fg_X6_37 : FG RX6 37 6 3 := ⟨RX6, TX6, 4, rfl, by decide, inbX6, inT1 185 (by decide +kernel) rfl⟩
theorem fp_X6_37 : FP RX6 37 6 3 .int := ⟨RX6, TX6, 4, tyX6, rfl, by decide, inbX6, inT1 185 (by decide +kernel) rfl, tyX6_ok, nmX6, rfl, by decide +kernel⟩
theorem fg_X7_229 : FG RX7 229 6 3 := ⟨RX6, TX6, 4, rfl, by decide, inbX6, inT1 186 (by decide +kernel) rfl⟩
theorem fp_X7_229 : FP RX7 229 6 3 .int := ⟨RX6, TX6, 4, tyX6, rfl, by decide, inbX6, inT1 186 (by decide +kernel) rfl, tyX6_ok, nmX6, rfl, by decide +kernel⟩
theorem fg_X0_9 : FG RX0 9 0 0 := ⟨RX0, TX0, 10, rfl, by decide, inbX0, inT1 202 (by decide +kernel) rfl⟩
theorem fg_X0_15 : FG RX0 15 0 1 := ⟨RX0, TX0, 10, rfl, by decide, inbX0, inT1 203 (by decide +kernel) rfl⟩
theorem fg_X0_18 : FG RX0 18 0 2 := ⟨RX0, TX0, 10, rfl, by decide, inbX0, inT1 204 (by decide +kernel) rfl⟩
theorem fg_X0_21 : FG RX0 21 0 3 := ⟨RX0, TX0, 10, rfl, by decide, inbX0, inT1 205 (by decide +kernel) rfl⟩
theorem fg_X7_250 : FG RX7 250 0 3 := ⟨RX0, TX0, 10, rfl, by decide, inbX0, inT1 206 (by decide +kernel) rfl⟩
theorem fg_X0_43 : FG RX0 43 0 4 := ⟨RX0, TX0, 10, rfl, by decide, inbX0, inT1 207 (by decide +kernel) rfl⟩
theorem fp_X0_43 : FP RX0 43 0 4 .int := ⟨RX0, TX0, 10, tyX0, rfl, by decide, inbX0, inT1 207 (by decide +kernel) rfl, tyX0_ok, nmX0, rfl, by decide +kernel⟩
theorem fg_X0_33 : FG RX0 33 0 5 := ⟨RX0, TX0, 10, rfl, by decide, inbX0, inT1 208 (by decide +kernel) rfl⟩
theorem fp_X0_33 : FP RX0 33 0 5 .int := ⟨RX0, TX0, 10, tyX0, rfl, by decide, inbX0, inT1 208 (by decide +kernel) rfl, tyX0_ok, nmX0, rfl, by decide +kernel⟩
theorem fg_X0_36 : FG RX0 36 0 6 := ⟨RX0, TX0, 10, rfl, by decide, inbX0, inT1 209 (by decide +kernel) rfl⟩
theorem fp_X0_36 : FP RX0 36 0 6 .int := ⟨RX0, TX0, 10, tyX0, rfl, by decide, inbX0, inT1 209 (by decide +kernel) rfl, tyX0_ok, nmX0, rfl, by decide +kernel⟩
theorem fg_X7_241 : FG RX7 241 0 6 := ⟨RX0, TX0, 10, rfl, by decide, inbX0, inT1 210 (by decide +kernel) rfl⟩
theorem fp_X7_241 : FP RX7 241 0 6 .int := ⟨RX0, TX0, 10, tyX0, rfl, by decide, inbX0, inT1 210 (by decide +kernel) rfl, tyX0_ok, nmX0, rfl, by decide +kernel⟩
theorem fg_X0_24 : FG RX0 24 0 7 := ⟨RX0, TX0, 10, rfl, by decide, inbX0, inT1 211 (by decide +kernel) rfl⟩
theorem fg_X0_73 : FG RX0 73 0 8 := ⟨RX0, TX0, 10, rfl, by decide, inbX0, inT1 212 (by decide +kernel) rfl⟩
theorem fp_X0_73 : FP RX0 73 0 8 .int := ⟨RX0, TX0, 10, tyX0, rfl, by decide, inbX0, inT1 212 (by decide +kernel) rfl, tyX0_ok, nmX0, rfl, by decide +kernel⟩
theorem fg_X0_76 : FG RX0 76 0 9 := ⟨RX0, TX0, 10, rfl, by decide, inbX0, inT1 213 (by decide +kernel) rfl⟩
theorem fp_X0_76 : FP RX0 76 0 9 .int := ⟨RX0, TX0, 10, tyX0, rfl, by decide, inbX0, inT1 213 (by decide +kernel) rfl, tyX0_ok, nmX0, rfl, by decide +kernel⟩
theorem fg_X7_10 : FG RX7 10 7 0 := ⟨RX7, TX7, 8, rfl, by decide, inbX7, inT2 124 (by decide +kernel) rfl⟩
theorem fg_X7_19 : FG RX7 19 7 1 := ⟨RX7, TX7, 8, rfl, by decide, inbX7, inT2 125 (by decide +kernel) rfl⟩
theorem fg_X7_26 : FG RX7 26 7 2 := ⟨RX7, TX7, 8, rfl, by decide, inbX7, inT2 126 (by decide +kernel) rfl⟩
theorem fg_X7_33 : FG RX7 33 7 3 := ⟨RX7, TX7, 8, rfl, by decide, inbX7, inT2 127 (by decide +kernel) rfl⟩
theorem fg_X7_40 : FG RX7 40 7 4 := ⟨RX7, TX7, 8, rfl, by decide, inbX7, inT2 128 (by decide +kernel) rfl⟩
theorem fg_X7_47 : FG RX7 47 7 5 := ⟨RX7, TX7, 8, rfl, by decide, inbX7, inT2 129 (by decide +kernel) rfl⟩
theorem fg_X7_54 : FG RX7 54 7 6 := ⟨RX7, TX7, 8, rfl, by decide, inbX7, inT2 130 (by decide +kernel) rfl⟩
theorem fp_X7_54 : FP RX7 54 7 6 (.object "RoofNet$Net") := ⟨RX7, TX7, 8, tyX7, rfl, by decide, inbX7, inT2 130 (by decide +kernel) rfl, tyX7_ok, nmX7, rfl, by decide +kernel⟩
theorem fg_X7_58 : FG RX7 58 7 7 := ⟨RX7, TX7, 8, rfl, by decide, inbX7, inT2 131 (by decide +kernel) rfl⟩
theorem fp_X7_58 : FP RX7 58 7 7 (.object "RoofNet$Net") := ⟨RX7, TX7, 8, tyX7, rfl, by decide, inbX7, inT2 131 (by decide +kernel) rfl, tyX7_ok, nmX7, rfl, by decide +kernel⟩
theorem fg_X8_69 : FG RX8 69 8 0 := ⟨RX8, TX8, 24, rfl, by decide, inbX8, inT3 239 (by decide +kernel) rfl⟩
theorem fp_X8_69 : FP RX8 69 8 0 .int := ⟨RX8, TX8, 24, tyX8, rfl, by decide, inbX8, inT3 239 (by decide +kernel) rfl, tyX8_ok, nmX8, rfl, by decide +kernel⟩
theorem fg_X8_7 : FG RX8 7 8 1 := ⟨RX8, TX8, 24, rfl, by decide, inbX8, inT4 0 (by decide +kernel) rfl⟩
theorem fg_X8_77 : FG RX8 77 8 2 := ⟨RX8, TX8, 24, rfl, by decide, inbX8, inT4 1 (by decide +kernel) rfl⟩
theorem fp_X8_77 : FP RX8 77 8 2 .int := ⟨RX8, TX8, 24, tyX8, rfl, by decide, inbX8, inT4 1 (by decide +kernel) rfl, tyX8_ok, nmX8, rfl, by decide +kernel⟩
theorem fg_X8_13 : FG RX8 13 8 3 := ⟨RX8, TX8, 24, rfl, by decide, inbX8, inT4 2 (by decide +kernel) rfl⟩
theorem fg_X8_17 : FG RX8 17 8 4 := ⟨RX8, TX8, 24, rfl, by decide, inbX8, inT4 3 (by decide +kernel) rfl⟩
theorem fg_X8_20 : FG RX8 20 8 5 := ⟨RX8, TX8, 24, rfl, by decide, inbX8, inT4 4 (by decide +kernel) rfl⟩
theorem fg_X8_128 : FG RX8 128 8 6 := ⟨RX8, TX8, 24, rfl, by decide, inbX8, inT4 5 (by decide +kernel) rfl⟩
theorem fp_X8_128 : FP RX8 128 8 6 .int := ⟨RX8, TX8, 24, tyX8, rfl, by decide, inbX8, inT4 5 (by decide +kernel) rfl, tyX8_ok, nmX8, rfl, by decide +kernel⟩
theorem fg_X8_23 : FG RX8 23 8 7 := ⟨RX8, TX8, 24, rfl, by decide, inbX8, inT4 6 (by decide +kernel) rfl⟩
theorem fg_X8_80 : FG RX8 80 8 8 := ⟨RX8, TX8, 24, rfl, by decide, inbX8, inT4 7 (by decide +kernel) rfl⟩
theorem fp_X8_80 : FP RX8 80 8 8 .int := ⟨RX8, TX8, 24, tyX8, rfl, by decide, inbX8, inT4 7 (by decide +kernel) rfl, tyX8_ok, nmX8, rfl, by decide +kernel⟩
theorem fg_X8_83 : FG RX8 83 8 9 := ⟨RX8, TX8, 24, rfl, by decide, inbX8, inT4 8 (by decide +kernel) rfl⟩
theorem fp_X8_83 : FP RX8 83 8 9 .boolean := ⟨RX8, TX8, 24, tyX8, rfl, by decide, inbX8, inT4 8 (by decide +kernel) rfl, tyX8_ok, nmX8, rfl, by decide +kernel⟩
theorem fg_X8_26 : FG RX8 26 8 10 := ⟨RX8, TX8, 24, rfl, by decide, inbX8, inT4 9 (by decide +kernel) rfl⟩
theorem fg_X8_29 : FG RX8 29 8 11 := ⟨RX8, TX8, 24, rfl, by decide, inbX8, inT4 10 (by decide +kernel) rfl⟩
theorem fg_X8_33 : FG RX8 33 8 12 := ⟨RX8, TX8, 24, rfl, by decide, inbX8, inT4 11 (by decide +kernel) rfl⟩
theorem fg_X8_37 : FG RX8 37 8 13 := ⟨RX8, TX8, 24, rfl, by decide, inbX8, inT4 12 (by decide +kernel) rfl⟩
theorem fg_X8_140 : FG RX8 140 8 14 := ⟨RX8, TX8, 24, rfl, by decide, inbX8, inT4 13 (by decide +kernel) rfl⟩
theorem fp_X8_140 : FP RX8 140 8 14 .int := ⟨RX8, TX8, 24, tyX8, rfl, by decide, inbX8, inT4 13 (by decide +kernel) rfl, tyX8_ok, nmX8, rfl, by decide +kernel⟩
theorem fg_X8_156 : FG RX8 156 8 15 := ⟨RX8, TX8, 24, rfl, by decide, inbX8, inT4 14 (by decide +kernel) rfl⟩
theorem fp_X8_156 : FP RX8 156 8 15 .long := ⟨RX8, TX8, 24, tyX8, rfl, by decide, inbX8, inT4 14 (by decide +kernel) rfl, tyX8_ok, nmX8, rfl, by decide +kernel⟩
theorem fg_X8_40 : FG RX8 40 8 16 := ⟨RX8, TX8, 24, rfl, by decide, inbX8, inT4 15 (by decide +kernel) rfl⟩
theorem fg_X8_43 : FG RX8 43 8 17 := ⟨RX8, TX8, 24, rfl, by decide, inbX8, inT4 16 (by decide +kernel) rfl⟩
theorem fg_X8_46 : FG RX8 46 8 18 := ⟨RX8, TX8, 24, rfl, by decide, inbX8, inT4 17 (by decide +kernel) rfl⟩
theorem fg_X8_49 : FG RX8 49 8 19 := ⟨RX8, TX8, 24, rfl, by decide, inbX8, inT4 18 (by decide +kernel) rfl⟩
theorem fg_X8_52 : FG RX8 52 8 20 := ⟨RX8, TX8, 24, rfl, by decide, inbX8, inT4 19 (by decide +kernel) rfl⟩
theorem fg_X8_224 : FG RX8 224 8 21 := ⟨RX8, TX8, 24, rfl, by decide, inbX8, inT4 20 (by decide +kernel) rfl⟩
theorem fp_X8_224 : FP RX8 224 8 21 .int := ⟨RX8, TX8, 24, tyX8, rfl, by decide, inbX8, inT4 20 (by decide +kernel) rfl, tyX8_ok, nmX8, rfl, by decide +kernel⟩
theorem fg_X8_55 : FG RX8 55 8 22 := ⟨RX8, TX8, 24, rfl, by decide, inbX8, inT4 21 (by decide +kernel) rfl⟩
theorem fg_X8_58 : FG RX8 58 8 23 := ⟨RX8, TX8, 24, rfl, by decide, inbX8, inT4 22 (by decide +kernel) rfl⟩
theorem mi_X7_bears : Cond.instanceMethod yX7_bears ∈ BG ∧ Cond.selects yX7_bears.cls yX7_bears yX7_bears ∈ BG ∧ Cond.initialized yX7_bears.cls ∈ BG ∧ Cond.code yX7_bears mX7_bears.2.2.1 mX7_bears.2.2.2.1 mX7_bears.2.2.2.2 ∈ BG := ⟨inT3 98 (by decide +kernel) rfl, inT3 99 (by decide +kernel) rfl, inT1 1 (by decide +kernel) rfl, inT3 100 (by decide +kernel) rfl⟩
theorem mi_X7_better : Cond.instanceMethod yX7_better ∈ BG ∧ Cond.selects yX7_better.cls yX7_better yX7_better ∈ BG ∧ Cond.initialized yX7_better.cls ∈ BG ∧ Cond.code yX7_better mX7_better.2.2.1 mX7_better.2.2.2.1 mX7_better.2.2.2.2 ∈ BG := ⟨inT3 158 (by decide +kernel) rfl, inT3 159 (by decide +kernel) rfl, inT1 1 (by decide +kernel) rfl, inT3 160 (by decide +kernel) rfl⟩
theorem mi_X7_count : Cond.instanceMethod yX7_count ∈ BG ∧ Cond.selects yX7_count.cls yX7_count yX7_count ∈ BG ∧ Cond.initialized yX7_count.cls ∈ BG ∧ Cond.code yX7_count mX7_count.2.2.1 mX7_count.2.2.2.1 mX7_count.2.2.2.2 ∈ BG := ⟨inT3 222 (by decide +kernel) rfl, inT3 223 (by decide +kernel) rfl, inT1 1 (by decide +kernel) rfl, inT3 224 (by decide +kernel) rfl⟩
theorem mi_X7_density : Cond.instanceMethod yX7_density ∈ BG ∧ Cond.selects yX7_density.cls yX7_density yX7_density ∈ BG ∧ Cond.initialized yX7_density.cls ∈ BG ∧ Cond.code yX7_density mX7_density.2.2.1 mX7_density.2.2.2.1 mX7_density.2.2.2.2 ∈ BG := ⟨inT2 168 (by decide +kernel) rfl, inT2 169 (by decide +kernel) rfl, inT1 1 (by decide +kernel) rfl, inT2 170 (by decide +kernel) rfl⟩
theorem mi_X7_down : Cond.instanceMethod yX7_down ∈ BG ∧ Cond.selects yX7_down.cls yX7_down yX7_down ∈ BG ∧ Cond.initialized yX7_down.cls ∈ BG ∧ Cond.code yX7_down mX7_down.2.2.1 mX7_down.2.2.2.1 mX7_down.2.2.2.2 ∈ BG := ⟨inT2 211 (by decide +kernel) rfl, inT2 212 (by decide +kernel) rfl, inT1 1 (by decide +kernel) rfl, inT2 213 (by decide +kernel) rfl⟩
theorem mi_X7_exact : Cond.instanceMethod yX7_exact ∈ BG ∧ Cond.selects yX7_exact.cls yX7_exact yX7_exact ∈ BG ∧ Cond.initialized yX7_exact.cls ∈ BG ∧ Cond.code yX7_exact mX7_exact.2.2.1 mX7_exact.2.2.2.1 mX7_exact.2.2.2.2 ∈ BG := ⟨inT3 82 (by decide +kernel) rfl, inT3 83 (by decide +kernel) rfl, inT1 1 (by decide +kernel) rfl, inT3 84 (by decide +kernel) rfl⟩
theorem mi_X7_fault : Cond.instanceMethod yX7_fault ∈ BG ∧ Cond.selects yX7_fault.cls yX7_fault yX7_fault ∈ BG ∧ Cond.initialized yX7_fault.cls ∈ BG ∧ Cond.code yX7_fault mX7_fault.2.2.1 mX7_fault.2.2.2.1 mX7_fault.2.2.2.2 ∈ BG := ⟨inT2 160 (by decide +kernel) rfl, inT2 161 (by decide +kernel) rfl, inT1 1 (by decide +kernel) rfl, inT2 162 (by decide +kernel) rfl⟩
theorem mi_X7_greatest : Cond.instanceMethod yX7_greatest ∈ BG ∧ Cond.selects yX7_greatest.cls yX7_greatest yX7_greatest ∈ BG ∧ Cond.initialized yX7_greatest.cls ∈ BG ∧ Cond.code yX7_greatest mX7_greatest.2.2.1 mX7_greatest.2.2.2.1 mX7_greatest.2.2.2.2 ∈ BG := ⟨inT3 171 (by decide +kernel) rfl, inT3 172 (by decide +kernel) rfl, inT1 1 (by decide +kernel) rfl, inT3 173 (by decide +kernel) rfl⟩
theorem ms_X7_greatestShared : Cond.static yX7_greatestShared ∈ BG ∧ Cond.initialized yX7_greatestShared.cls ∈ BG ∧ Cond.code yX7_greatestShared mX7_greatestShared.2.2.1 mX7_greatestShared.2.2.2.1 mX7_greatestShared.2.2.2.2 ∈ BG := ⟨inT3 92 (by decide +kernel) rfl, inT1 1 (by decide +kernel) rfl, inT3 93 (by decide +kernel) rfl⟩
theorem mi_X7_hangingStrand : Cond.instanceMethod yX7_hangingStrand ∈ BG ∧ Cond.selects yX7_hangingStrand.cls yX7_hangingStrand yX7_hangingStrand ∈ BG ∧ Cond.initialized yX7_hangingStrand.cls ∈ BG ∧ Cond.code yX7_hangingStrand mX7_hangingStrand.2.2.1 mX7_hangingStrand.2.2.2.1 mX7_hangingStrand.2.2.2.2 ∈ BG := ⟨inT3 111 (by decide +kernel) rfl, inP 15 (by decide +kernel) rfl, inT1 1 (by decide +kernel) rfl, inT3 112 (by decide +kernel) rfl⟩
theorem ms_X7_isAxis : Cond.static yX7_isAxis ∈ BG ∧ Cond.initialized yX7_isAxis.cls ∈ BG ∧ Cond.code yX7_isAxis mX7_isAxis.2.2.1 mX7_isAxis.2.2.2.1 mX7_isAxis.2.2.2.2 ∈ BG := ⟨inT2 208 (by decide +kernel) rfl, inT1 1 (by decide +kernel) rfl, inT2 209 (by decide +kernel) rfl⟩
theorem mi_X7_isFixedJoint : Cond.instanceMethod yX7_isFixedJoint ∈ BG ∧ Cond.selects yX7_isFixedJoint.cls yX7_isFixedJoint yX7_isFixedJoint ∈ BG ∧ Cond.initialized yX7_isFixedJoint.cls ∈ BG ∧ Cond.code yX7_isFixedJoint mX7_isFixedJoint.2.2.1 mX7_isFixedJoint.2.2.2.1 mX7_isFixedJoint.2.2.2.2 ∈ BG := ⟨inT2 205 (by decide +kernel) rfl, inP 5 (by decide +kernel) rfl, inT1 1 (by decide +kernel) rfl, inT2 206 (by decide +kernel) rfl⟩
theorem ms_X7_isWithin : Cond.static yX7_isWithin ∈ BG ∧ Cond.initialized yX7_isWithin.cls ∈ BG ∧ Cond.code yX7_isWithin mX7_isWithin.2.2.1 mX7_isWithin.2.2.2.1 mX7_isWithin.2.2.2.2 ∈ BG := ⟨inT2 106 (by decide +kernel) rfl, inT1 1 (by decide +kernel) rfl, inT2 107 (by decide +kernel) rfl⟩
theorem mi_X7_joint : Cond.instanceMethod yX7_joint ∈ BG ∧ Cond.selects yX7_joint.cls yX7_joint yX7_joint ∈ BG ∧ Cond.initialized yX7_joint.cls ∈ BG ∧ Cond.code yX7_joint mX7_joint.2.2.1 mX7_joint.2.2.2.1 mX7_joint.2.2.2.2 ∈ BG := ⟨inT3 66 (by decide +kernel) rfl, inT3 67 (by decide +kernel) rfl, inT1 1 (by decide +kernel) rfl, inT3 68 (by decide +kernel) rfl⟩
theorem mi_X7_lay : Cond.instanceMethod yX7_lay ∈ BG ∧ Cond.selects yX7_lay.cls yX7_lay yX7_lay ∈ BG ∧ Cond.initialized yX7_lay.cls ∈ BG ∧ Cond.code yX7_lay mX7_lay.2.2.1 mX7_lay.2.2.2.1 mX7_lay.2.2.2.2 ∈ BG := ⟨inT2 164 (by decide +kernel) rfl, inT2 165 (by decide +kernel) rfl, inT1 1 (by decide +kernel) rfl, inT2 166 (by decide +kernel) rfl⟩
theorem mi_X7_load : Cond.instanceMethod yX7_load ∈ BG ∧ Cond.selects yX7_load.cls yX7_load yX7_load ∈ BG ∧ Cond.initialized yX7_load.cls ∈ BG ∧ Cond.code yX7_load mX7_load.2.2.1 mX7_load.2.2.2.1 mX7_load.2.2.2.2 ∈ BG := ⟨inT2 194 (by decide +kernel) rfl, inT2 195 (by decide +kernel) rfl, inT1 1 (by decide +kernel) rfl, inT2 196 (by decide +kernel) rfl⟩
theorem mi_X7_miss : Cond.instanceMethod yX7_miss ∈ BG ∧ Cond.selects yX7_miss.cls yX7_miss yX7_miss ∈ BG ∧ Cond.initialized yX7_miss.cls ∈ BG ∧ Cond.code yX7_miss mX7_miss.2.2.1 mX7_miss.2.2.2.1 mX7_miss.2.2.2.2 ∈ BG := ⟨inT3 137 (by decide +kernel) rfl, inT3 138 (by decide +kernel) rfl, inT1 1 (by decide +kernel) rfl, inT3 139 (by decide +kernel) rfl⟩
theorem mi_X7_move : Cond.instanceMethod yX7_move ∈ BG ∧ Cond.selects yX7_move.cls yX7_move yX7_move ∈ BG ∧ Cond.initialized yX7_move.cls ∈ BG ∧ Cond.code yX7_move mX7_move.2.2.1 mX7_move.2.2.2.1 mX7_move.2.2.2.2 ∈ BG := ⟨inT2 200 (by decide +kernel) rfl, inT2 201 (by decide +kernel) rfl, inT1 1 (by decide +kernel) rfl, inT2 202 (by decide +kernel) rfl⟩
theorem mi_X7_rollOf : Cond.instanceMethod yX7_rollOf ∈ BG ∧ Cond.selects yX7_rollOf.cls yX7_rollOf yX7_rollOf ∈ BG ∧ Cond.initialized yX7_rollOf.cls ∈ BG ∧ Cond.code yX7_rollOf mX7_rollOf.2.2.1 mX7_rollOf.2.2.2.1 mX7_rollOf.2.2.2.2 ∈ BG := ⟨inT3 218 (by decide +kernel) rfl, inT3 219 (by decide +kernel) rfl, inT1 1 (by decide +kernel) rfl, inT3 220 (by decide +kernel) rfl⟩
theorem mi_X7_rolls : Cond.instanceMethod yX7_rolls ∈ BG ∧ Cond.selects yX7_rolls.cls yX7_rolls yX7_rolls ∈ BG ∧ Cond.initialized yX7_rolls.cls ∈ BG ∧ Cond.code yX7_rolls mX7_rolls.2.2.1 mX7_rolls.2.2.2.1 mX7_rolls.2.2.2.2 ∈ BG := ⟨inT3 175 (by decide +kernel) rfl, inT3 176 (by decide +kernel) rfl, inT1 1 (by decide +kernel) rfl, inT3 177 (by decide +kernel) rfl⟩
theorem mi_X7_round : Cond.instanceMethod yX7_round ∈ BG ∧ Cond.selects yX7_round.cls yX7_round yX7_round ∈ BG ∧ Cond.initialized yX7_round.cls ∈ BG ∧ Cond.code yX7_round mX7_round.2.2.1 mX7_round.2.2.2.1 mX7_round.2.2.2.2 ∈ BG := ⟨inT2 220 (by decide +kernel) rfl, inT2 221 (by decide +kernel) rfl, inT1 1 (by decide +kernel) rfl, inT2 222 (by decide +kernel) rfl⟩
theorem mi_X7_settle : Cond.instanceMethod yX7_settle ∈ BG ∧ Cond.selects yX7_settle.cls yX7_settle yX7_settle ∈ BG ∧ Cond.initialized yX7_settle.cls ∈ BG ∧ Cond.code yX7_settle mX7_settle.2.2.1 mX7_settle.2.2.2.1 mX7_settle.2.2.2.2 ∈ BG := ⟨inT3 146 (by decide +kernel) rfl, inT3 147 (by decide +kernel) rfl, inT1 1 (by decide +kernel) rfl, inT3 148 (by decide +kernel) rfl⟩
theorem mi_X7_slack : Cond.instanceMethod yX7_slack ∈ BG ∧ Cond.selects yX7_slack.cls yX7_slack yX7_slack ∈ BG ∧ Cond.initialized yX7_slack.cls ∈ BG ∧ Cond.code yX7_slack mX7_slack.2.2.1 mX7_slack.2.2.2.1 mX7_slack.2.2.2.2 ∈ BG := ⟨inT3 129 (by decide +kernel) rfl, inT3 130 (by decide +kernel) rfl, inT1 1 (by decide +kernel) rfl, inT3 131 (by decide +kernel) rfl⟩
theorem mi_X7_strand : Cond.instanceMethod yX7_strand ∈ BG ∧ Cond.selects yX7_strand.cls yX7_strand yX7_strand ∈ BG ∧ Cond.initialized yX7_strand.cls ∈ BG ∧ Cond.code yX7_strand mX7_strand.2.2.1 mX7_strand.2.2.2.1 mX7_strand.2.2.2.2 ∈ BG := ⟨inT3 106 (by decide +kernel) rfl, inT3 107 (by decide +kernel) rfl, inT1 1 (by decide +kernel) rfl, inT3 108 (by decide +kernel) rfl⟩
theorem mi_X7_undo : Cond.instanceMethod yX7_undo ∈ BG ∧ Cond.selects yX7_undo.cls yX7_undo yX7_undo ∈ BG ∧ Cond.initialized yX7_undo.cls ∈ BG ∧ Cond.code yX7_undo mX7_undo.2.2.1 mX7_undo.2.2.2.1 mX7_undo.2.2.2.2 ∈ BG := ⟨inT3 58 (by decide +kernel) rfl, inT3 59 (by decide +kernel) rfl, inT1 1 (by decide +kernel) rfl, inT3 60 (by decide +kernel) rfl⟩
theorem mi_X7_want : Cond.instanceMethod yX7_want ∈ BG ∧ Cond.selects yX7_want.cls yX7_want yX7_want ∈ BG ∧ Cond.initialized yX7_want.cls ∈ BG ∧ Cond.code yX7_want mX7_want.2.2.1 mX7_want.2.2.2.1 mX7_want.2.2.2.2 ∈ BG := ⟨inT2 190 (by decide +kernel) rfl, inT2 191 (by decide +kernel) rfl, inT1 1 (by decide +kernel) rfl, inT2 192 (by decide +kernel) rfl⟩
theorem mi_X7_wipe : Cond.instanceMethod yX7_wipe ∈ BG ∧ Cond.selects yX7_wipe.cls yX7_wipe yX7_wipe ∈ BG ∧ Cond.initialized yX7_wipe.cls ∈ BG ∧ Cond.code yX7_wipe mX7_wipe.2.2.1 mX7_wipe.2.2.2.1 mX7_wipe.2.2.2.2 ∈ BG := ⟨inT2 156 (by decide +kernel) rfl, inT2 157 (by decide +kernel) rfl, inT1 1 (by decide +kernel) rfl, inT2 158 (by decide +kernel) rfl⟩
theorem mi_X7_write : Cond.instanceMethod yX7_write ∈ BG ∧ Cond.selects yX7_write.cls yX7_write yX7_write ∈ BG ∧ Cond.initialized yX7_write.cls ∈ BG ∧ Cond.code yX7_write mX7_write.2.2.1 mX7_write.2.2.2.1 mX7_write.2.2.2.2 ∈ BG := ⟨inT2 151 (by decide +kernel) rfl, inT2 152 (by decide +kernel) rfl, inT1 1 (by decide +kernel) rfl, inT2 153 (by decide +kernel) rfl⟩
theorem ms_X0_canPlaceFrom : Cond.static yX0_canPlaceFrom ∈ BG ∧ Cond.initialized yX0_canPlaceFrom.cls ∈ BG ∧ Cond.code yX0_canPlaceFrom mX0_canPlaceFrom.2.2.1 mX0_canPlaceFrom.2.2.2.1 mX0_canPlaceFrom.2.2.2.2 ∈ BG := ⟨inT3 206 (by decide +kernel) rfl, inT1 8 (by decide +kernel) rfl, inT3 207 (by decide +kernel) rfl⟩
theorem mi_X0_fewest : Cond.instanceMethod yX0_fewest ∈ BG ∧ Cond.selects yX0_fewest.cls yX0_fewest yX0_fewest ∈ BG ∧ Cond.initialized yX0_fewest.cls ∈ BG ∧ Cond.code yX0_fewest mX0_fewest.2.2.1 mX0_fewest.2.2.2.1 mX0_fewest.2.2.2.2 ∈ BG := ⟨inT3 193 (by decide +kernel) rfl, inT3 194 (by decide +kernel) rfl, inT1 8 (by decide +kernel) rfl, inT3 195 (by decide +kernel) rfl⟩
theorem mi_X0_firstFit : Cond.instanceMethod yX0_firstFit ∈ BG ∧ Cond.selects yX0_firstFit.cls yX0_firstFit yX0_firstFit ∈ BG ∧ Cond.initialized yX0_firstFit.cls ∈ BG ∧ Cond.code yX0_firstFit mX0_firstFit.2.2.1 mX0_firstFit.2.2.2.1 mX0_firstFit.2.2.2.2 ∈ BG := ⟨inT3 179 (by decide +kernel) rfl, inT3 180 (by decide +kernel) rfl, inT1 8 (by decide +kernel) rfl, inT3 181 (by decide +kernel) rfl⟩
theorem mi_X0_isLikeOneAhead : Cond.instanceMethod yX0_isLikeOneAhead ∈ BG ∧ Cond.selects yX0_isLikeOneAhead.cls yX0_isLikeOneAhead yX0_isLikeOneAhead ∈ BG ∧ Cond.initialized yX0_isLikeOneAhead.cls ∈ BG ∧ Cond.code yX0_isLikeOneAhead mX0_isLikeOneAhead.2.2.1 mX0_isLikeOneAhead.2.2.2.1 mX0_isLikeOneAhead.2.2.2.2 ∈ BG := ⟨inT3 214 (by decide +kernel) rfl, inP 21 (by decide +kernel) rfl, inT1 8 (by decide +kernel) rfl, inT3 215 (by decide +kernel) rfl⟩
theorem mi_X0_leastThinkable : Cond.instanceMethod yX0_leastThinkable ∈ BG ∧ Cond.selects yX0_leastThinkable.cls yX0_leastThinkable yX0_leastThinkable ∈ BG ∧ Cond.initialized yX0_leastThinkable.cls ∈ BG ∧ Cond.code yX0_leastThinkable mX0_leastThinkable.2.2.1 mX0_leastThinkable.2.2.2.1 mX0_leastThinkable.2.2.2.2 ∈ BG := ⟨inT3 202 (by decide +kernel) rfl, inP 19 (by decide +kernel) rfl, inT1 8 (by decide +kernel) rfl, inT3 203 (by decide +kernel) rfl⟩
theorem mi_X0_leftOver : Cond.instanceMethod yX0_leftOver ∈ BG ∧ Cond.selects yX0_leftOver.cls yX0_leftOver yX0_leftOver ∈ BG ∧ Cond.initialized yX0_leftOver.cls ∈ BG ∧ Cond.code yX0_leftOver mX0_leftOver.2.2.1 mX0_leftOver.2.2.2.1 mX0_leftOver.2.2.2.2 ∈ BG := ⟨inT3 197 (by decide +kernel) rfl, inT3 198 (by decide +kernel) rfl, inT1 8 (by decide +kernel) rfl, inT3 199 (by decide +kernel) rfl⟩
theorem mi_X0_rollWith : Cond.instanceMethod yX0_rollWith ∈ BG ∧ Cond.selects yX0_rollWith.cls yX0_rollWith yX0_rollWith ∈ BG ∧ Cond.initialized yX0_rollWith.cls ∈ BG ∧ Cond.code yX0_rollWith mX0_rollWith.2.2.1 mX0_rollWith.2.2.2.1 mX0_rollWith.2.2.2.2 ∈ BG := ⟨inT3 189 (by decide +kernel) rfl, inP 18 (by decide +kernel) rfl, inT1 8 (by decide +kernel) rfl, inT3 190 (by decide +kernel) rfl⟩
theorem mi_X0_sortPieces : Cond.instanceMethod yX0_sortPieces ∈ BG ∧ Cond.selects yX0_sortPieces.cls yX0_sortPieces yX0_sortPieces ∈ BG ∧ Cond.initialized yX0_sortPieces.cls ∈ BG ∧ Cond.code yX0_sortPieces mX0_sortPieces.2.2.1 mX0_sortPieces.2.2.2.1 mX0_sortPieces.2.2.2.2 ∈ BG := ⟨inT3 184 (by decide +kernel) rfl, inP 17 (by decide +kernel) rfl, inT1 8 (by decide +kernel) rfl, inT3 185 (by decide +kernel) rfl⟩
theorem mi_X0_tooMuchIsLost : Cond.instanceMethod yX0_tooMuchIsLost ∈ BG ∧ Cond.selects yX0_tooMuchIsLost.cls yX0_tooMuchIsLost yX0_tooMuchIsLost ∈ BG ∧ Cond.initialized yX0_tooMuchIsLost.cls ∈ BG ∧ Cond.code yX0_tooMuchIsLost mX0_tooMuchIsLost.2.2.1 mX0_tooMuchIsLost.2.2.2.1 mX0_tooMuchIsLost.2.2.2.2 ∈ BG := ⟨inT3 210 (by decide +kernel) rfl, inP 20 (by decide +kernel) rfl, inT1 8 (by decide +kernel) rfl, inT3 211 (by decide +kernel) rfl⟩
theorem mi_X1_append : Cond.instanceMethod yX1_append ∈ BG ∧ Cond.selects yX1_append.cls yX1_append yX1_append ∈ BG ∧ Cond.initialized yX1_append.cls ∈ BG ∧ Cond.code yX1_append mX1_append.2.2.1 mX1_append.2.2.2.1 mX1_append.2.2.2.2 ∈ BG := ⟨inT2 47 (by decide +kernel) rfl, inT2 48 (by decide +kernel) rfl, inT1 2 (by decide +kernel) rfl, inT2 49 (by decide +kernel) rfl⟩
theorem mi_X1_at : Cond.instanceMethod yX1_at ∈ BG ∧ Cond.selects yX1_at.cls yX1_at yX1_at ∈ BG ∧ Cond.initialized yX1_at.cls ∈ BG ∧ Cond.code yX1_at mX1_at.2.2.1 mX1_at.2.2.2.1 mX1_at.2.2.2.2 ∈ BG := ⟨inT2 63 (by decide +kernel) rfl, inT2 64 (by decide +kernel) rfl, inT1 2 (by decide +kernel) rfl, inT2 65 (by decide +kernel) rfl⟩
theorem mi_X1_isFigure : Cond.instanceMethod yX1_isFigure ∈ BG ∧ Cond.selects yX1_isFigure.cls yX1_isFigure yX1_isFigure ∈ BG ∧ Cond.initialized yX1_isFigure.cls ∈ BG ∧ Cond.code yX1_isFigure mX1_isFigure.2.2.1 mX1_isFigure.2.2.2.1 mX1_isFigure.2.2.2.2 ∈ BG := ⟨inT2 75 (by decide +kernel) rfl, inT2 76 (by decide +kernel) rfl, inT1 2 (by decide +kernel) rfl, inT2 77 (by decide +kernel) rfl⟩
theorem mi_X2_addFixed : Cond.instanceMethod yX2_addFixed ∈ BG ∧ Cond.selects yX2_addFixed.cls yX2_addFixed yX2_addFixed ∈ BG ∧ Cond.initialized yX2_addFixed.cls ∈ BG ∧ Cond.code yX2_addFixed mX2_addFixed.2.2.1 mX2_addFixed.2.2.2.1 mX2_addFixed.2.2.2.2 ∈ BG := ⟨inT2 84 (by decide +kernel) rfl, inT2 85 (by decide +kernel) rfl, inT1 5 (by decide +kernel) rfl, inT2 86 (by decide +kernel) rfl⟩
theorem mi_X2_addFree : Cond.instanceMethod yX2_addFree ∈ BG ∧ Cond.selects yX2_addFree.cls yX2_addFree yX2_addFree ∈ BG ∧ Cond.initialized yX2_addFree.cls ∈ BG ∧ Cond.code yX2_addFree mX2_addFree.2.2.1 mX2_addFree.2.2.2.1 mX2_addFree.2.2.2.2 ∈ BG := ⟨inT2 88 (by decide +kernel) rfl, inT2 89 (by decide +kernel) rfl, inT1 5 (by decide +kernel) rfl, inT2 90 (by decide +kernel) rfl⟩
theorem mi_X2_addStrand : Cond.instanceMethod yX2_addStrand ∈ BG ∧ Cond.selects yX2_addStrand.cls yX2_addStrand yX2_addStrand ∈ BG ∧ Cond.initialized yX2_addStrand.cls ∈ BG ∧ Cond.code yX2_addStrand mX2_addStrand.2.2.1 mX2_addStrand.2.2.2.1 mX2_addStrand.2.2.2.2 ∈ BG := ⟨inT2 98 (by decide +kernel) rfl, inT2 99 (by decide +kernel) rfl, inT1 5 (by decide +kernel) rfl, inT2 100 (by decide +kernel) rfl⟩
theorem mi_X2_allHung : Cond.instanceMethod yX2_allHung ∈ BG ∧ Cond.selects yX2_allHung.cls yX2_allHung yX2_allHung ∈ BG ∧ Cond.initialized yX2_allHung.cls ∈ BG ∧ Cond.code yX2_allHung mX2_allHung.2.2.1 mX2_allHung.2.2.2.1 mX2_allHung.2.2.2.2 ∈ BG := ⟨inT2 224 (by decide +kernel) rfl, inT2 225 (by decide +kernel) rfl, inT1 5 (by decide +kernel) rfl, inT2 226 (by decide +kernel) rfl⟩
theorem mi_X2_clear : Cond.instanceMethod yX2_clear ∈ BG ∧ Cond.selects yX2_clear.cls yX2_clear yX2_clear ∈ BG ∧ Cond.initialized yX2_clear.cls ∈ BG ∧ Cond.code yX2_clear mX2_clear.2.2.1 mX2_clear.2.2.2.1 mX2_clear.2.2.2.2 ∈ BG := ⟨inT2 55 (by decide +kernel) rfl, inT2 56 (by decide +kernel) rfl, inT1 5 (by decide +kernel) rfl, inT2 57 (by decide +kernel) rfl⟩
theorem mi_X2_copyFrom : Cond.instanceMethod yX2_copyFrom ∈ BG ∧ Cond.selects yX2_copyFrom.cls yX2_copyFrom yX2_copyFrom ∈ BG ∧ Cond.initialized yX2_copyFrom.cls ∈ BG ∧ Cond.code yX2_copyFrom mX2_copyFrom.2.2.1 mX2_copyFrom.2.2.2.1 mX2_copyFrom.2.2.2.2 ∈ BG := ⟨inT2 180 (by decide +kernel) rfl, inT2 181 (by decide +kernel) rfl, inT1 5 (by decide +kernel) rfl, inT2 182 (by decide +kernel) rfl⟩
theorem mi_X2_hangs : Cond.instanceMethod yX2_hangs ∈ BG ∧ Cond.selects yX2_hangs.cls yX2_hangs yX2_hangs ∈ BG ∧ Cond.initialized yX2_hangs.cls ∈ BG ∧ Cond.code yX2_hangs mX2_hangs.2.2.1 mX2_hangs.2.2.2.1 mX2_hangs.2.2.2.2 ∈ BG := ⟨inT2 215 (by decide +kernel) rfl, inT2 216 (by decide +kernel) rfl, inT1 5 (by decide +kernel) rfl, inT2 217 (by decide +kernel) rfl⟩
theorem mi_X2_hasJoint : Cond.instanceMethod yX2_hasJoint ∈ BG ∧ Cond.selects yX2_hasJoint.cls yX2_hasJoint yX2_hasJoint ∈ BG ∧ Cond.initialized yX2_hasJoint.cls ∈ BG ∧ Cond.code yX2_hasJoint mX2_hasJoint.2.2.1 mX2_hasJoint.2.2.2.1 mX2_hasJoint.2.2.2.2 ∈ BG := ⟨inT2 102 (by decide +kernel) rfl, inT2 103 (by decide +kernel) rfl, inT1 5 (by decide +kernel) rfl, inT2 104 (by decide +kernel) rfl⟩
theorem mi_X2_hasStrand : Cond.instanceMethod yX2_hasStrand ∈ BG ∧ Cond.selects yX2_hasStrand.cls yX2_hasStrand yX2_hasStrand ∈ BG ∧ Cond.initialized yX2_hasStrand.cls ∈ BG ∧ Cond.code yX2_hasStrand mX2_hasStrand.2.2.1 mX2_hasStrand.2.2.2.1 mX2_hasStrand.2.2.2.2 ∈ BG := ⟨inT2 172 (by decide +kernel) rfl, inT2 173 (by decide +kernel) rfl, inT1 5 (by decide +kernel) rfl, inT2 174 (by decide +kernel) rfl⟩
theorem mi_X2_hungJoints : Cond.instanceMethod yX2_hungJoints ∈ BG ∧ Cond.selects yX2_hungJoints.cls yX2_hungJoints yX2_hungJoints ∈ BG ∧ Cond.initialized yX2_hungJoints.cls ∈ BG ∧ Cond.code yX2_hungJoints mX2_hungJoints.2.2.1 mX2_hungJoints.2.2.2.1 mX2_hungJoints.2.2.2.2 ∈ BG := ⟨inT2 228 (by decide +kernel) rfl, inT2 229 (by decide +kernel) rfl, inT1 5 (by decide +kernel) rfl, inT2 230 (by decide +kernel) rfl⟩
theorem mi_X2_isFree : Cond.instanceMethod yX2_isFree ∈ BG ∧ Cond.selects yX2_isFree.cls yX2_isFree yX2_isFree ∈ BG ∧ Cond.initialized yX2_isFree.cls ∈ BG ∧ Cond.code yX2_isFree mX2_isFree.2.2.1 mX2_isFree.2.2.2.1 mX2_isFree.2.2.2.2 ∈ BG := ⟨inT2 117 (by decide +kernel) rfl, inT2 118 (by decide +kernel) rfl, inT1 5 (by decide +kernel) rfl, inT2 119 (by decide +kernel) rfl⟩
theorem mi_X2_isNeeded : Cond.instanceMethod yX2_isNeeded ∈ BG ∧ Cond.selects yX2_isNeeded.cls yX2_isNeeded yX2_isNeeded ∈ BG ∧ Cond.initialized yX2_isNeeded.cls ∈ BG ∧ Cond.code yX2_isNeeded mX2_isNeeded.2.2.1 mX2_isNeeded.2.2.2.1 mX2_isNeeded.2.2.2.2 ∈ BG := ⟨inT3 125 (by decide +kernel) rfl, inT3 126 (by decide +kernel) rfl, inT1 5 (by decide +kernel) rfl, inT3 127 (by decide +kernel) rfl⟩
theorem mi_X2_otherEnd : Cond.instanceMethod yX2_otherEnd ∈ BG ∧ Cond.selects yX2_otherEnd.cls yX2_otherEnd yX2_otherEnd ∈ BG ∧ Cond.initialized yX2_otherEnd.cls ∈ BG ∧ Cond.code yX2_otherEnd mX2_otherEnd.2.2.1 mX2_otherEnd.2.2.2.1 mX2_otherEnd.2.2.2.2 ∈ BG := ⟨inT3 11 (by decide +kernel) rfl, inT3 12 (by decide +kernel) rfl, inT1 5 (by decide +kernel) rfl, inT3 13 (by decide +kernel) rfl⟩
theorem mi_X2_strandsAt : Cond.instanceMethod yX2_strandsAt ∈ BG ∧ Cond.selects yX2_strandsAt.cls yX2_strandsAt yX2_strandsAt ∈ BG ∧ Cond.initialized yX2_strandsAt.cls ∈ BG ∧ Cond.code yX2_strandsAt mX2_strandsAt.2.2.1 mX2_strandsAt.2.2.2.1 mX2_strandsAt.2.2.2.2 ∈ BG := ⟨inT2 109 (by decide +kernel) rfl, inT2 110 (by decide +kernel) rfl, inT1 5 (by decide +kernel) rfl, inT2 111 (by decide +kernel) rfl⟩
theorem mi_X2_takesNoMore : Cond.instanceMethod yX2_takesNoMore ∈ BG ∧ Cond.selects yX2_takesNoMore.cls yX2_takesNoMore yX2_takesNoMore ∈ BG ∧ Cond.initialized yX2_takesNoMore.cls ∈ BG ∧ Cond.code yX2_takesNoMore mX2_takesNoMore.2.2.1 mX2_takesNoMore.2.2.2.1 mX2_takesNoMore.2.2.2.2 ∈ BG := ⟨inT2 114 (by decide +kernel) rfl, inP 4 (by decide +kernel) rfl, inT1 5 (by decide +kernel) rfl, inT2 115 (by decide +kernel) rfl⟩
theorem mi_X2_tellDensitiesAnew : Cond.instanceMethod yX2_tellDensitiesAnew ∈ BG ∧ Cond.selects yX2_tellDensitiesAnew.cls yX2_tellDensitiesAnew yX2_tellDensitiesAnew ∈ BG ∧ Cond.initialized yX2_tellDensitiesAnew.cls ∈ BG ∧ Cond.code yX2_tellDensitiesAnew mX2_tellDensitiesAnew.2.2.1 mX2_tellDensitiesAnew.2.2.2.1 mX2_tellDensitiesAnew.2.2.2.2 ∈ BG := ⟨inT3 46 (by decide +kernel) rfl, inT3 47 (by decide +kernel) rfl, inT1 5 (by decide +kernel) rfl, inT3 48 (by decide +kernel) rfl⟩
theorem mi_X2_tellRolls : Cond.instanceMethod yX2_tellRolls ∈ BG ∧ Cond.selects yX2_tellRolls.cls yX2_tellRolls yX2_tellRolls ∈ BG ∧ Cond.initialized yX2_tellRolls.cls ∈ BG ∧ Cond.code yX2_tellRolls mX2_tellRolls.2.2.1 mX2_tellRolls.2.2.2.1 mX2_tellRolls.2.2.2.2 ∈ BG := ⟨inT2 121 (by decide +kernel) rfl, inT2 122 (by decide +kernel) rfl, inT1 5 (by decide +kernel) rfl, inT2 123 (by decide +kernel) rfl⟩
theorem mi_X3_giveBack : Cond.instanceMethod yX3_giveBack ∈ BG ∧ Cond.selects yX3_giveBack.cls yX3_giveBack yX3_giveBack ∈ BG ∧ Cond.initialized yX3_giveBack.cls ∈ BG ∧ Cond.code yX3_giveBack mX3_giveBack.2.2.1 mX3_giveBack.2.2.2.1 mX3_giveBack.2.2.2.2 ∈ BG := ⟨inT3 62 (by decide +kernel) rfl, inT3 63 (by decide +kernel) rfl, inT1 4 (by decide +kernel) rfl, inT3 64 (by decide +kernel) rfl⟩
theorem mi_X3_keep : Cond.instanceMethod yX3_keep ∈ BG ∧ Cond.selects yX3_keep.cls yX3_keep yX3_keep ∈ BG ∧ Cond.initialized yX3_keep.cls ∈ BG ∧ Cond.code yX3_keep mX3_keep.2.2.1 mX3_keep.2.2.2.1 mX3_keep.2.2.2.2 ∈ BG := ⟨inT2 176 (by decide +kernel) rfl, inT2 177 (by decide +kernel) rfl, inT1 4 (by decide +kernel) rfl, inT2 178 (by decide +kernel) rfl⟩
theorem mi_X4_above : Cond.instanceMethod yX4_above ∈ BG ∧ Cond.selects yX4_above.cls yX4_above yX4_above ∈ BG ∧ Cond.initialized yX4_above.cls ∈ BG ∧ Cond.code yX4_above mX4_above.2.2.1 mX4_above.2.2.2.1 mX4_above.2.2.2.2 ∈ BG := ⟨inT3 28 (by decide +kernel) rfl, inT3 29 (by decide +kernel) rfl, inT1 6 (by decide +kernel) rfl, inT3 30 (by decide +kernel) rfl⟩
theorem mi_X4_addPullOn : Cond.instanceMethod yX4_addPullOn ∈ BG ∧ Cond.selects yX4_addPullOn.cls yX4_addPullOn yX4_addPullOn ∈ BG ∧ Cond.initialized yX4_addPullOn.cls ∈ BG ∧ Cond.code yX4_addPullOn mX4_addPullOn.2.2.1 mX4_addPullOn.2.2.2.1 mX4_addPullOn.2.2.2.2 ∈ BG := ⟨inT3 8 (by decide +kernel) rfl, inP 8 (by decide +kernel) rfl, inT1 6 (by decide +kernel) rfl, inT3 9 (by decide +kernel) rfl⟩
theorem mi_X4_borne : Cond.instanceMethod yX4_borne ∈ BG ∧ Cond.selects yX4_borne.cls yX4_borne yX4_borne ∈ BG ∧ Cond.initialized yX4_borne.cls ∈ BG ∧ Cond.code yX4_borne mX4_borne.2.2.1 mX4_borne.2.2.2.1 mX4_borne.2.2.2.2 ∈ BG := ⟨inT3 102 (by decide +kernel) rfl, inT3 103 (by decide +kernel) rfl, inT1 6 (by decide +kernel) rfl, inT3 104 (by decide +kernel) rfl⟩
theorem mi_X4_clearColumn : Cond.instanceMethod yX4_clearColumn ∈ BG ∧ Cond.selects yX4_clearColumn.cls yX4_clearColumn yX4_clearColumn ∈ BG ∧ Cond.initialized yX4_clearColumn.cls ∈ BG ∧ Cond.code yX4_clearColumn mX4_clearColumn.2.2.1 mX4_clearColumn.2.2.2.1 mX4_clearColumn.2.2.2.2 ∈ BG := ⟨inT3 20 (by decide +kernel) rfl, inP 10 (by decide +kernel) rfl, inT1 6 (by decide +kernel) rfl, inT3 21 (by decide +kernel) rfl⟩
theorem mi_X4_eliminate : Cond.instanceMethod yX4_eliminate ∈ BG ∧ Cond.selects yX4_eliminate.cls yX4_eliminate yX4_eliminate ∈ BG ∧ Cond.initialized yX4_eliminate.cls ∈ BG ∧ Cond.code yX4_eliminate mX4_eliminate.2.2.1 mX4_eliminate.2.2.2.1 mX4_eliminate.2.2.2.2 ∈ BG := ⟨inT3 16 (by decide +kernel) rfl, inP 9 (by decide +kernel) rfl, inT1 6 (by decide +kernel) rfl, inT3 17 (by decide +kernel) rfl⟩
theorem mi_X4_find : Cond.instanceMethod yX4_find ∈ BG ∧ Cond.selects yX4_find.cls yX4_find yX4_find ∈ BG ∧ Cond.initialized yX4_find.cls ∈ BG ∧ Cond.code yX4_find mX4_find.2.2.1 mX4_find.2.2.2.1 mX4_find.2.2.2.2 ∈ BG := ⟨inT2 232 (by decide +kernel) rfl, inT2 233 (by decide +kernel) rfl, inT1 6 (by decide +kernel) rfl, inT2 234 (by decide +kernel) rfl⟩
theorem mi_X4_isBetweenOthers : Cond.instanceMethod yX4_isBetweenOthers ∈ BG ∧ Cond.selects yX4_isBetweenOthers.cls yX4_isBetweenOthers yX4_isBetweenOthers ∈ BG ∧ Cond.initialized yX4_isBetweenOthers.cls ∈ BG ∧ Cond.code yX4_isBetweenOthers mX4_isBetweenOthers.2.2.1 mX4_isBetweenOthers.2.2.2.1 mX4_isBetweenOthers.2.2.2.2 ∈ BG := ⟨inT3 77 (by decide +kernel) rfl, inP 14 (by decide +kernel) rfl, inT1 6 (by decide +kernel) rfl, inT3 78 (by decide +kernel) rfl⟩
theorem mi_X4_isWithinOthers : Cond.instanceMethod yX4_isWithinOthers ∈ BG ∧ Cond.selects yX4_isWithinOthers.cls yX4_isWithinOthers yX4_isWithinOthers ∈ BG ∧ Cond.initialized yX4_isWithinOthers.cls ∈ BG ∧ Cond.code yX4_isWithinOthers mX4_isWithinOthers.2.2.1 mX4_isWithinOthers.2.2.2.1 mX4_isWithinOthers.2.2.2.2 ∈ BG := ⟨inT3 72 (by decide +kernel) rfl, inT3 73 (by decide +kernel) rfl, inT1 6 (by decide +kernel) rfl, inT3 74 (by decide +kernel) rfl⟩
theorem mi_X4_missed : Cond.instanceMethod yX4_missed ∈ BG ∧ Cond.selects yX4_missed.cls yX4_missed yX4_missed ∈ BG ∧ Cond.initialized yX4_missed.cls ∈ BG ∧ Cond.code yX4_missed mX4_missed.2.2.1 mX4_missed.2.2.2.1 mX4_missed.2.2.2.2 ∈ BG := ⟨inT3 141 (by decide +kernel) rfl, inT3 142 (by decide +kernel) rfl, inT1 6 (by decide +kernel) rfl, inT3 143 (by decide +kernel) rfl⟩
theorem mi_X4_numberFreeJoints : Cond.instanceMethod yX4_numberFreeJoints ∈ BG ∧ Cond.selects yX4_numberFreeJoints.cls yX4_numberFreeJoints yX4_numberFreeJoints ∈ BG ∧ Cond.initialized yX4_numberFreeJoints.cls ∈ BG ∧ Cond.code yX4_numberFreeJoints mX4_numberFreeJoints.2.2.1 mX4_numberFreeJoints.2.2.2.1 mX4_numberFreeJoints.2.2.2.2 ∈ BG := ⟨inT2 238 (by decide +kernel) rfl, inP 6 (by decide +kernel) rfl, inT1 6 (by decide +kernel) rfl, inT2 239 (by decide +kernel) rfl⟩
theorem mi_X4_off : Cond.instanceMethod yX4_off ∈ BG ∧ Cond.selects yX4_off.cls yX4_off yX4_off ∈ BG ∧ Cond.initialized yX4_off.cls ∈ BG ∧ Cond.code yX4_off mX4_off.2.2.1 mX4_off.2.2.2.1 mX4_off.2.2.2.2 ∈ BG := ⟨inT3 118 (by decide +kernel) rfl, inT3 119 (by decide +kernel) rfl, inT1 6 (by decide +kernel) rfl, inT3 120 (by decide +kernel) rfl⟩
theorem mi_X4_pull : Cond.instanceMethod yX4_pull ∈ BG ∧ Cond.selects yX4_pull.cls yX4_pull yX4_pull ∈ BG ∧ Cond.initialized yX4_pull.cls ∈ BG ∧ Cond.code yX4_pull mX4_pull.2.2.1 mX4_pull.2.2.2.1 mX4_pull.2.2.2.2 ∈ BG := ⟨inT3 114 (by decide +kernel) rfl, inT3 115 (by decide +kernel) rfl, inT1 6 (by decide +kernel) rfl, inT3 116 (by decide +kernel) rfl⟩
theorem mi_X4_setUpRows : Cond.instanceMethod yX4_setUpRows ∈ BG ∧ Cond.selects yX4_setUpRows.cls yX4_setUpRows yX4_setUpRows ∈ BG ∧ Cond.initialized yX4_setUpRows.cls ∈ BG ∧ Cond.code yX4_setUpRows mX4_setUpRows.2.2.1 mX4_setUpRows.2.2.2.1 mX4_setUpRows.2.2.2.2 ∈ BG := ⟨inT3 3 (by decide +kernel) rfl, inP 7 (by decide +kernel) rfl, inT1 6 (by decide +kernel) rfl, inT3 4 (by decide +kernel) rfl⟩
theorem mi_X4_slackStrands : Cond.instanceMethod yX4_slackStrands ∈ BG ∧ Cond.selects yX4_slackStrands.cls yX4_slackStrands yX4_slackStrands ∈ BG ∧ Cond.initialized yX4_slackStrands.cls ∈ BG ∧ Cond.code yX4_slackStrands mX4_slackStrands.2.2.1 mX4_slackStrands.2.2.2.1 mX4_slackStrands.2.2.2.2 ∈ BG := ⟨inT3 133 (by decide +kernel) rfl, inT3 134 (by decide +kernel) rfl, inT1 6 (by decide +kernel) rfl, inT3 135 (by decide +kernel) rfl⟩
theorem mi_X4_tellHundredths : Cond.instanceMethod yX4_tellHundredths ∈ BG ∧ Cond.selects yX4_tellHundredths.cls yX4_tellHundredths yX4_tellHundredths ∈ BG ∧ Cond.initialized yX4_tellHundredths.cls ∈ BG ∧ Cond.code yX4_tellHundredths mX4_tellHundredths.2.2.1 mX4_tellHundredths.2.2.2.1 mX4_tellHundredths.2.2.2.2 ∈ BG := ⟨inT3 24 (by decide +kernel) rfl, inP 11 (by decide +kernel) rfl, inT1 6 (by decide +kernel) rfl, inT3 25 (by decide +kernel) rfl⟩
theorem mi_X4_tellLengths : Cond.instanceMethod yX4_tellLengths ∈ BG ∧ Cond.selects yX4_tellLengths.cls yX4_tellLengths yX4_tellLengths ∈ BG ∧ Cond.initialized yX4_tellLengths.cls ∈ BG ∧ Cond.code yX4_tellLengths mX4_tellLengths.2.2.1 mX4_tellLengths.2.2.2.1 mX4_tellLengths.2.2.2.2 ∈ BG := ⟨inT3 36 (by decide +kernel) rfl, inP 12 (by decide +kernel) rfl, inT1 6 (by decide +kernel) rfl, inT3 37 (by decide +kernel) rfl⟩
theorem mi_X4_wayFrom : Cond.instanceMethod yX4_wayFrom ∈ BG ∧ Cond.selects yX4_wayFrom.cls yX4_wayFrom yX4_wayFrom ∈ BG ∧ Cond.initialized yX4_wayFrom.cls ∈ BG ∧ Cond.code yX4_wayFrom mX4_wayFrom.2.2.1 mX4_wayFrom.2.2.2.1 mX4_wayFrom.2.2.2.2 ∈ BG := ⟨inT3 40 (by decide +kernel) rfl, inP 13 (by decide +kernel) rfl, inT1 6 (by decide +kernel) rfl, inT3 41 (by decide +kernel) rfl⟩
theorem ms_X4_wholeRoot : Cond.static yX4_wholeRoot ∈ BG ∧ Cond.initialized yX4_wholeRoot.cls ∈ BG ∧ Cond.code yX4_wholeRoot mX4_wholeRoot.2.2.1 mX4_wholeRoot.2.2.2.1 mX4_wholeRoot.2.2.2.2 ∈ BG := ⟨inT3 43 (by decide +kernel) rfl, inT1 6 (by decide +kernel) rfl, inT3 44 (by decide +kernel) rfl⟩
theorem mi_X5_addItem : Cond.instanceMethod yX5_addItem ∈ BG ∧ Cond.selects yX5_addItem.cls yX5_addItem yX5_addItem ∈ BG ∧ Cond.initialized yX5_addItem.cls ∈ BG ∧ Cond.code yX5_addItem mX5_addItem.2.2.1 mX5_addItem.2.2.2.1 mX5_addItem.2.2.2.2 ∈ BG := ⟨inT2 81 (by decide +kernel) rfl, inP 3 (by decide +kernel) rfl, inT1 3 (by decide +kernel) rfl, inT2 82 (by decide +kernel) rfl⟩
theorem mi_X5_numbersOf : Cond.instanceMethod yX5_numbersOf ∈ BG ∧ Cond.selects yX5_numbersOf.cls yX5_numbersOf yX5_numbersOf ∈ BG ∧ Cond.initialized yX5_numbersOf.cls ∈ BG ∧ Cond.code yX5_numbersOf mX5_numbersOf.2.2.1 mX5_numbersOf.2.2.2.1 mX5_numbersOf.2.2.2.2 ∈ BG := ⟨inT2 68 (by decide +kernel) rfl, inP 1 (by decide +kernel) rfl, inT1 3 (by decide +kernel) rfl, inT2 69 (by decide +kernel) rfl⟩
theorem mi_X5_readInto : Cond.instanceMethod yX5_readInto ∈ BG ∧ Cond.selects yX5_readInto.cls yX5_readInto yX5_readInto ∈ BG ∧ Cond.initialized yX5_readInto.cls ∈ BG ∧ Cond.code yX5_readInto mX5_readInto.2.2.1 mX5_readInto.2.2.2.1 mX5_readInto.2.2.2.2 ∈ BG := ⟨inT2 51 (by decide +kernel) rfl, inT2 52 (by decide +kernel) rfl, inT1 3 (by decide +kernel) rfl, inT2 53 (by decide +kernel) rfl⟩
theorem mi_X5_takeItem : Cond.instanceMethod yX5_takeItem ∈ BG ∧ Cond.selects yX5_takeItem.cls yX5_takeItem yX5_takeItem ∈ BG ∧ Cond.initialized yX5_takeItem.cls ∈ BG ∧ Cond.code yX5_takeItem mX5_takeItem.2.2.1 mX5_takeItem.2.2.2.1 mX5_takeItem.2.2.2.2 ∈ BG := ⟨inT2 60 (by decide +kernel) rfl, inP 0 (by decide +kernel) rfl, inT1 3 (by decide +kernel) rfl, inT2 61 (by decide +kernel) rfl⟩
theorem mi_X5_takeNumbers : Cond.instanceMethod yX5_takeNumbers ∈ BG ∧ Cond.selects yX5_takeNumbers.cls yX5_takeNumbers yX5_takeNumbers ∈ BG ∧ Cond.initialized yX5_takeNumbers.cls ∈ BG ∧ Cond.code yX5_takeNumbers mX5_takeNumbers.2.2.1 mX5_takeNumbers.2.2.2.1 mX5_takeNumbers.2.2.2.2 ∈ BG := ⟨inT2 72 (by decide +kernel) rfl, inP 2 (by decide +kernel) rfl, inT1 3 (by decide +kernel) rfl, inT2 73 (by decide +kernel) rfl⟩
theorem mi_X6_seekBetter : Cond.instanceMethod yX6_seekBetter ∈ BG ∧ Cond.selects yX6_seekBetter.cls yX6_seekBetter yX6_seekBetter ∈ BG ∧ Cond.initialized yX6_seekBetter.cls ∈ BG ∧ Cond.code yX6_seekBetter mX6_seekBetter.2.2.1 mX6_seekBetter.2.2.2.1 mX6_seekBetter.2.2.2.2 ∈ BG := ⟨inT3 162 (by decide +kernel) rfl, inT3 163 (by decide +kernel) rfl, inT1 7 (by decide +kernel) rfl, inT3 164 (by decide +kernel) rfl⟩
theorem mi_X6_seekRest : Cond.instanceMethod yX6_seekRest ∈ BG ∧ Cond.selects yX6_seekRest.cls yX6_seekRest yX6_seekRest ∈ BG ∧ Cond.initialized yX6_seekRest.cls ∈ BG ∧ Cond.code yX6_seekRest mX6_seekRest.2.2.1 mX6_seekRest.2.2.2.1 mX6_seekRest.2.2.2.2 ∈ BG := ⟨inT3 150 (by decide +kernel) rfl, inT3 151 (by decide +kernel) rfl, inT1 7 (by decide +kernel) rfl, inT3 152 (by decide +kernel) rfl⟩
theorem mi_X6_tryDensitiesOf : Cond.instanceMethod yX6_tryDensitiesOf ∈ BG ∧ Cond.selects yX6_tryDensitiesOf.cls yX6_tryDensitiesOf yX6_tryDensitiesOf ∈ BG ∧ Cond.initialized yX6_tryDensitiesOf.cls ∈ BG ∧ Cond.code yX6_tryDensitiesOf mX6_tryDensitiesOf.2.2.1 mX6_tryDensitiesOf.2.2.2.1 mX6_tryDensitiesOf.2.2.2.2 ∈ BG := ⟨inT3 168 (by decide +kernel) rfl, inP 16 (by decide +kernel) rfl, inT1 7 (by decide +kernel) rfl, inT3 169 (by decide +kernel) rfl⟩
theorem mi_X8_bears : Cond.instanceMethod yX8_bears ∈ BG ∧ Cond.selects yX8_bears.cls yX8_bears yX8_bears ∈ BG ∧ Cond.initialized yX8_bears.cls ∈ BG ∧ Cond.code yX8_bears mX8_bears.2.2.1 mX8_bears.2.2.2.1 mX8_bears.2.2.2.2 ∈ BG := ⟨inT5 28 (by decide +kernel) rfl, inT5 29 (by decide +kernel) rfl, inT1 14 (by decide +kernel) rfl, inT5 30 (by decide +kernel) rfl⟩
theorem mi_X8_becomes : Cond.instanceMethod yX8_becomes ∈ BG ∧ Cond.selects yX8_becomes.cls yX8_becomes yX8_becomes ∈ BG ∧ Cond.initialized yX8_becomes.cls ∈ BG ∧ Cond.code yX8_becomes mX8_becomes.2.2.1 mX8_becomes.2.2.2.1 mX8_becomes.2.2.2.2 ∈ BG := ⟨inT4 150 (by decide +kernel) rfl, inP 37 (by decide +kernel) rfl, inT1 14 (by decide +kernel) rfl, inT4 151 (by decide +kernel) rfl⟩
theorem mi_X8_better : Cond.instanceMethod yX8_better ∈ BG ∧ Cond.selects yX8_better.cls yX8_better yX8_better ∈ BG ∧ Cond.initialized yX8_better.cls ∈ BG ∧ Cond.code yX8_better mX8_better.2.2.1 mX8_better.2.2.2.1 mX8_better.2.2.2.2 ∈ BG := ⟨inT5 56 (by decide +kernel) rfl, inT5 57 (by decide +kernel) rfl, inT1 14 (by decide +kernel) rfl, inT5 58 (by decide +kernel) rfl⟩
theorem mi_X8_bitsOf : Cond.instanceMethod yX8_bitsOf ∈ BG ∧ Cond.selects yX8_bitsOf.cls yX8_bitsOf yX8_bitsOf ∈ BG ∧ Cond.initialized yX8_bitsOf.cls ∈ BG ∧ Cond.code yX8_bitsOf mX8_bitsOf.2.2.1 mX8_bitsOf.2.2.2.1 mX8_bitsOf.2.2.2.2 ∈ BG := ⟨inT5 7 (by decide +kernel) rfl, inP 52 (by decide +kernel) rfl, inT1 14 (by decide +kernel) rfl, inT5 8 (by decide +kernel) rfl⟩
theorem ms_X8_common : Cond.static yX8_common ∈ BG ∧ Cond.initialized yX8_common.cls ∈ BG ∧ Cond.code yX8_common mX8_common.2.2.1 mX8_common.2.2.2.1 mX8_common.2.2.2.2 ∈ BG := ⟨inT5 25 (by decide +kernel) rfl, inT1 14 (by decide +kernel) rfl, inT5 26 (by decide +kernel) rfl⟩
theorem mi_X8_count : Cond.instanceMethod yX8_count ∈ BG ∧ Cond.selects yX8_count.cls yX8_count yX8_count ∈ BG ∧ Cond.initialized yX8_count.cls ∈ BG ∧ Cond.code yX8_count mX8_count.2.2.1 mX8_count.2.2.2.1 mX8_count.2.2.2.2 ∈ BG := ⟨inT5 92 (by decide +kernel) rfl, inT5 93 (by decide +kernel) rfl, inT1 14 (by decide +kernel) rfl, inT5 94 (by decide +kernel) rfl⟩
theorem mi_X8_density : Cond.instanceMethod yX8_density ∈ BG ∧ Cond.selects yX8_density.cls yX8_density yX8_density ∈ BG ∧ Cond.initialized yX8_density.cls ∈ BG ∧ Cond.code yX8_density mX8_density.2.2.1 mX8_density.2.2.2.1 mX8_density.2.2.2.2 ∈ BG := ⟨inT4 141 (by decide +kernel) rfl, inT4 142 (by decide +kernel) rfl, inT1 14 (by decide +kernel) rfl, inT4 143 (by decide +kernel) rfl⟩
theorem mi_X8_down_ : Cond.instanceMethod yX8_down_ ∈ BG ∧ Cond.selects yX8_down_.cls yX8_down_ yX8_down_ ∈ BG ∧ Cond.initialized yX8_down_.cls ∈ BG ∧ Cond.code yX8_down_ mX8_down_.2.2.1 mX8_down_.2.2.2.1 mX8_down_.2.2.2.2 ∈ BG := ⟨inT4 177 (by decide +kernel) rfl, inT4 178 (by decide +kernel) rfl, inT1 14 (by decide +kernel) rfl, inT4 179 (by decide +kernel) rfl⟩
theorem ms_X8_down : Cond.static yX8_down ∈ BG ∧ Cond.initialized yX8_down.cls ∈ BG ∧ Cond.code yX8_down mX8_down.2.2.1 mX8_down.2.2.2.1 mX8_down.2.2.2.2 ∈ BG := ⟨inT4 222 (by decide +kernel) rfl, inT1 14 (by decide +kernel) rfl, inT4 223 (by decide +kernel) rfl⟩
theorem mi_X8_draftFrees : Cond.instanceMethod yX8_draftFrees ∈ BG ∧ Cond.selects yX8_draftFrees.cls yX8_draftFrees yX8_draftFrees ∈ BG ∧ Cond.initialized yX8_draftFrees.cls ∈ BG ∧ Cond.code yX8_draftFrees mX8_draftFrees.2.2.1 mX8_draftFrees.2.2.2.1 mX8_draftFrees.2.2.2.2 ∈ BG := ⟨inT4 118 (by decide +kernel) rfl, inP 31 (by decide +kernel) rfl, inT1 14 (by decide +kernel) rfl, inT4 119 (by decide +kernel) rfl⟩
theorem mi_X8_exact : Cond.instanceMethod yX8_exact ∈ BG ∧ Cond.selects yX8_exact.cls yX8_exact yX8_exact ∈ BG ∧ Cond.initialized yX8_exact.cls ∈ BG ∧ Cond.code yX8_exact mX8_exact.2.2.1 mX8_exact.2.2.2.1 mX8_exact.2.2.2.2 ∈ BG := ⟨inT5 19 (by decide +kernel) rfl, inT5 20 (by decide +kernel) rfl, inT1 14 (by decide +kernel) rfl, inT5 21 (by decide +kernel) rfl⟩
theorem mi_X8_fault : Cond.instanceMethod yX8_fault ∈ BG ∧ Cond.selects yX8_fault.cls yX8_fault yX8_fault ∈ BG ∧ Cond.initialized yX8_fault.cls ∈ BG ∧ Cond.code yX8_fault mX8_fault.2.2.1 mX8_fault.2.2.2.1 mX8_fault.2.2.2.2 ∈ BG := ⟨inT4 85 (by decide +kernel) rfl, inT4 86 (by decide +kernel) rfl, inT1 14 (by decide +kernel) rfl, inT4 87 (by decide +kernel) rfl⟩
theorem mi_X8_fewestRolls : Cond.instanceMethod yX8_fewestRolls ∈ BG ∧ Cond.selects yX8_fewestRolls.cls yX8_fewestRolls yX8_fewestRolls ∈ BG ∧ Cond.initialized yX8_fewestRolls.cls ∈ BG ∧ Cond.code yX8_fewestRolls mX8_fewestRolls.2.2.1 mX8_fewestRolls.2.2.2.1 mX8_fewestRolls.2.2.2.2 ∈ BG := ⟨inT5 73 (by decide +kernel) rfl, inP 58 (by decide +kernel) rfl, inT1 14 (by decide +kernel) rfl, inT5 74 (by decide +kernel) rfl⟩
theorem mi_X8_firstFit : Cond.instanceMethod yX8_firstFit ∈ BG ∧ Cond.selects yX8_firstFit.cls yX8_firstFit yX8_firstFit ∈ BG ∧ Cond.initialized yX8_firstFit.cls ∈ BG ∧ Cond.code yX8_firstFit mX8_firstFit.2.2.1 mX8_firstFit.2.2.2.1 mX8_firstFit.2.2.2.2 ∈ BG := ⟨inT5 81 (by decide +kernel) rfl, inP 60 (by decide +kernel) rfl, inT1 14 (by decide +kernel) rfl, inT5 82 (by decide +kernel) rfl⟩
theorem mi_X8_fixes : Cond.instanceMethod yX8_fixes ∈ BG ∧ Cond.selects yX8_fixes.cls yX8_fixes yX8_fixes ∈ BG ∧ Cond.initialized yX8_fixes.cls ∈ BG ∧ Cond.code yX8_fixes mX8_fixes.2.2.1 mX8_fixes.2.2.2.1 mX8_fixes.2.2.2.2 ∈ BG := ⟨inT3 233 (by decide +kernel) rfl, inP 22 (by decide +kernel) rfl, inT1 14 (by decide +kernel) rfl, inT3 234 (by decide +kernel) rfl⟩
theorem mi_X8_goesRound : Cond.instanceMethod yX8_goesRound ∈ BG ∧ Cond.selects yX8_goesRound.cls yX8_goesRound yX8_goesRound ∈ BG ∧ Cond.initialized yX8_goesRound.cls ∈ BG ∧ Cond.code yX8_goesRound mX8_goesRound.2.2.1 mX8_goesRound.2.2.2.1 mX8_goesRound.2.2.2.2 ∈ BG := ⟨inT4 202 (by decide +kernel) rfl, inP 45 (by decide +kernel) rfl, inT1 14 (by decide +kernel) rfl, inT4 203 (by decide +kernel) rfl⟩
theorem mi_X8_greatest : Cond.instanceMethod yX8_greatest ∈ BG ∧ Cond.selects yX8_greatest.cls yX8_greatest yX8_greatest ∈ BG ∧ Cond.initialized yX8_greatest.cls ∈ BG ∧ Cond.code yX8_greatest mX8_greatest.2.2.1 mX8_greatest.2.2.2.1 mX8_greatest.2.2.2.2 ∈ BG := ⟨inT5 60 (by decide +kernel) rfl, inT5 61 (by decide +kernel) rfl, inT1 14 (by decide +kernel) rfl, inT5 62 (by decide +kernel) rfl⟩
theorem mi_X8_hanging : Cond.instanceMethod yX8_hanging ∈ BG ∧ Cond.selects yX8_hanging.cls yX8_hanging yX8_hanging ∈ BG ∧ Cond.initialized yX8_hanging.cls ∈ BG ∧ Cond.code yX8_hanging mX8_hanging.2.2.1 mX8_hanging.2.2.2.1 mX8_hanging.2.2.2.2 ∈ BG := ⟨inT4 182 (by decide +kernel) rfl, inP 41 (by decide +kernel) rfl, inT1 14 (by decide +kernel) rfl, inT4 183 (by decide +kernel) rfl⟩
theorem mi_X8_hangs : Cond.instanceMethod yX8_hangs ∈ BG ∧ Cond.selects yX8_hangs.cls yX8_hangs yX8_hangs ∈ BG ∧ Cond.initialized yX8_hangs.cls ∈ BG ∧ Cond.code yX8_hangs mX8_hangs.2.2.1 mX8_hangs.2.2.2.1 mX8_hangs.2.2.2.2 ∈ BG := ⟨inT4 186 (by decide +kernel) rfl, inP 42 (by decide +kernel) rfl, inT1 14 (by decide +kernel) rfl, inT4 187 (by decide +kernel) rfl⟩
theorem mi_X8_hasRoom : Cond.instanceMethod yX8_hasRoom ∈ BG ∧ Cond.selects yX8_hasRoom.cls yX8_hasRoom yX8_hasRoom ∈ BG ∧ Cond.initialized yX8_hasRoom.cls ∈ BG ∧ Cond.code yX8_hasRoom mX8_hasRoom.2.2.1 mX8_hasRoom.2.2.2.1 mX8_hasRoom.2.2.2.2 ∈ BG := ⟨inT4 126 (by decide +kernel) rfl, inP 33 (by decide +kernel) rfl, inT1 14 (by decide +kernel) rfl, inT4 127 (by decide +kernel) rfl⟩
theorem ms_X8_in : Cond.static yX8_in ∈ BG ∧ Cond.initialized yX8_in.cls ∈ BG ∧ Cond.code yX8_in mX8_in.2.2.1 mX8_in.2.2.2.1 mX8_in.2.2.2.2 ∈ BG := ⟨inT4 78 (by decide +kernel) rfl, inT1 14 (by decide +kernel) rfl, inT4 79 (by decide +kernel) rfl⟩
theorem mi_X8_isAsked : Cond.instanceMethod yX8_isAsked ∈ BG ∧ Cond.selects yX8_isAsked.cls yX8_isAsked yX8_isAsked ∈ BG ∧ Cond.initialized yX8_isAsked.cls ∈ BG ∧ Cond.code yX8_isAsked mX8_isAsked.2.2.1 mX8_isAsked.2.2.2.1 mX8_isAsked.2.2.2.2 ∈ BG := ⟨inT4 226 (by decide +kernel) rfl, inP 50 (by decide +kernel) rfl, inT1 14 (by decide +kernel) rfl, inT4 227 (by decide +kernel) rfl⟩
theorem mi_X8_isFigure : Cond.instanceMethod yX8_isFigure ∈ BG ∧ Cond.selects yX8_isFigure.cls yX8_isFigure yX8_isFigure ∈ BG ∧ Cond.initialized yX8_isFigure.cls ∈ BG ∧ Cond.code yX8_isFigure mX8_isFigure.2.2.1 mX8_isFigure.2.2.2.1 mX8_isFigure.2.2.2.2 ∈ BG := ⟨inT4 110 (by decide +kernel) rfl, inP 29 (by decide +kernel) rfl, inT1 14 (by decide +kernel) rfl, inT4 111 (by decide +kernel) rfl⟩
theorem mi_X8_isFree : Cond.instanceMethod yX8_isFree ∈ BG ∧ Cond.selects yX8_isFree.cls yX8_isFree yX8_isFree ∈ BG ∧ Cond.initialized yX8_isFree.cls ∈ BG ∧ Cond.code yX8_isFree mX8_isFree.2.2.1 mX8_isFree.2.2.2.1 mX8_isFree.2.2.2.2 ∈ BG := ⟨inT4 170 (by decide +kernel) rfl, inP 40 (by decide +kernel) rfl, inT1 14 (by decide +kernel) rfl, inT4 171 (by decide +kernel) rfl⟩
theorem mi_X8_isJoint : Cond.instanceMethod yX8_isJoint ∈ BG ∧ Cond.selects yX8_isJoint.cls yX8_isJoint yX8_isJoint ∈ BG ∧ Cond.initialized yX8_isJoint.cls ∈ BG ∧ Cond.code yX8_isJoint mX8_isJoint.2.2.1 mX8_isJoint.2.2.2.1 mX8_isJoint.2.2.2.2 ∈ BG := ⟨inT4 166 (by decide +kernel) rfl, inP 39 (by decide +kernel) rfl, inT1 14 (by decide +kernel) rfl, inT4 167 (by decide +kernel) rfl⟩
theorem mi_X8_isOf : Cond.instanceMethod yX8_isOf ∈ BG ∧ Cond.selects yX8_isOf.cls yX8_isOf yX8_isOf ∈ BG ∧ Cond.initialized yX8_isOf.cls ∈ BG ∧ Cond.code yX8_isOf mX8_isOf.2.2.1 mX8_isOf.2.2.2.1 mX8_isOf.2.2.2.2 ∈ BG := ⟨inT5 11 (by decide +kernel) rfl, inP 53 (by decide +kernel) rfl, inT1 14 (by decide +kernel) rfl, inT5 12 (by decide +kernel) rfl⟩
theorem mi_X8_isStrand : Cond.instanceMethod yX8_isStrand ∈ BG ∧ Cond.selects yX8_isStrand.cls yX8_isStrand yX8_isStrand ∈ BG ∧ Cond.initialized yX8_isStrand.cls ∈ BG ∧ Cond.code yX8_isStrand mX8_isStrand.2.2.1 mX8_isStrand.2.2.2.1 mX8_isStrand.2.2.2.2 ∈ BG := ⟨inT4 146 (by decide +kernel) rfl, inP 36 (by decide +kernel) rfl, inT1 14 (by decide +kernel) rfl, inT4 147 (by decide +kernel) rfl⟩
theorem mi_X8_isTied : Cond.instanceMethod yX8_isTied ∈ BG ∧ Cond.selects yX8_isTied.cls yX8_isTied yX8_isTied ∈ BG ∧ Cond.initialized yX8_isTied.cls ∈ BG ∧ Cond.code yX8_isTied mX8_isTied.2.2.1 mX8_isTied.2.2.2.1 mX8_isTied.2.2.2.2 ∈ BG := ⟨inT4 130 (by decide +kernel) rfl, inP 34 (by decide +kernel) rfl, inT1 14 (by decide +kernel) rfl, inT4 131 (by decide +kernel) rfl⟩
theorem mi_X8_isWithin : Cond.instanceMethod yX8_isWithin ∈ BG ∧ Cond.selects yX8_isWithin.cls yX8_isWithin yX8_isWithin ∈ BG ∧ Cond.initialized yX8_isWithin.cls ∈ BG ∧ Cond.code yX8_isWithin mX8_isWithin.2.2.1 mX8_isWithin.2.2.2.1 mX8_isWithin.2.2.2.2 ∈ BG := ⟨inT5 15 (by decide +kernel) rfl, inP 54 (by decide +kernel) rfl, inT1 14 (by decide +kernel) rfl, inT5 16 (by decide +kernel) rfl⟩
theorem mi_X8_joins : Cond.instanceMethod yX8_joins ∈ BG ∧ Cond.selects yX8_joins.cls yX8_joins yX8_joins ∈ BG ∧ Cond.initialized yX8_joins.cls ∈ BG ∧ Cond.code yX8_joins mX8_joins.2.2.1 mX8_joins.2.2.2.1 mX8_joins.2.2.2.2 ∈ BG := ⟨inT5 77 (by decide +kernel) rfl, inP 59 (by decide +kernel) rfl, inT1 14 (by decide +kernel) rfl, inT5 78 (by decide +kernel) rfl⟩
theorem mi_X8_joint : Cond.instanceMethod yX8_joint ∈ BG ∧ Cond.selects yX8_joint.cls yX8_joint yX8_joint ∈ BG ∧ Cond.initialized yX8_joint.cls ∈ BG ∧ Cond.code yX8_joint mX8_joint.2.2.1 mX8_joint.2.2.2.1 mX8_joint.2.2.2.2 ∈ BG := ⟨inT5 2 (by decide +kernel) rfl, inT5 3 (by decide +kernel) rfl, inT1 14 (by decide +kernel) rfl, inT5 4 (by decide +kernel) rfl⟩
theorem mi_X8_lay : Cond.instanceMethod yX8_lay ∈ BG ∧ Cond.selects yX8_lay.cls yX8_lay yX8_lay ∈ BG ∧ Cond.initialized yX8_lay.cls ∈ BG ∧ Cond.code yX8_lay mX8_lay.2.2.1 mX8_lay.2.2.2.1 mX8_lay.2.2.2.2 ∈ BG := ⟨inT4 137 (by decide +kernel) rfl, inT4 138 (by decide +kernel) rfl, inT1 14 (by decide +kernel) rfl, inT4 139 (by decide +kernel) rfl⟩
theorem mi_X8_lays : Cond.instanceMethod yX8_lays ∈ BG ∧ Cond.selects yX8_lays.cls yX8_lays yX8_lays ∈ BG ∧ Cond.initialized yX8_lays.cls ∈ BG ∧ Cond.code yX8_lays mX8_lays.2.2.1 mX8_lays.2.2.2.1 mX8_lays.2.2.2.2 ∈ BG := ⟨inT4 206 (by decide +kernel) rfl, inP 46 (by decide +kernel) rfl, inT1 14 (by decide +kernel) rfl, inT4 207 (by decide +kernel) rfl⟩
theorem mi_X8_laysEnd : Cond.instanceMethod yX8_laysEnd ∈ BG ∧ Cond.selects yX8_laysEnd.cls yX8_laysEnd yX8_laysEnd ∈ BG ∧ Cond.initialized yX8_laysEnd.cls ∈ BG ∧ Cond.code yX8_laysEnd mX8_laysEnd.2.2.1 mX8_laysEnd.2.2.2.1 mX8_laysEnd.2.2.2.2 ∈ BG := ⟨inT4 214 (by decide +kernel) rfl, inP 48 (by decide +kernel) rfl, inT1 14 (by decide +kernel) rfl, inT4 215 (by decide +kernel) rfl⟩
theorem mi_X8_laysHung : Cond.instanceMethod yX8_laysHung ∈ BG ∧ Cond.selects yX8_laysHung.cls yX8_laysHung yX8_laysHung ∈ BG ∧ Cond.initialized yX8_laysHung.cls ∈ BG ∧ Cond.code yX8_laysHung mX8_laysHung.2.2.1 mX8_laysHung.2.2.2.1 mX8_laysHung.2.2.2.2 ∈ BG := ⟨inT4 198 (by decide +kernel) rfl, inP 44 (by decide +kernel) rfl, inT1 14 (by decide +kernel) rfl, inT4 199 (by decide +kernel) rfl⟩
theorem mi_X8_laysPieces : Cond.instanceMethod yX8_laysPieces ∈ BG ∧ Cond.selects yX8_laysPieces.cls yX8_laysPieces yX8_laysPieces ∈ BG ∧ Cond.initialized yX8_laysPieces.cls ∈ BG ∧ Cond.code yX8_laysPieces mX8_laysPieces.2.2.1 mX8_laysPieces.2.2.2.1 mX8_laysPieces.2.2.2.2 ∈ BG := ⟨inT5 69 (by decide +kernel) rfl, inP 57 (by decide +kernel) rfl, inT1 14 (by decide +kernel) rfl, inT5 70 (by decide +kernel) rfl⟩
theorem mi_X8_laysTable : Cond.instanceMethod yX8_laysTable ∈ BG ∧ Cond.selects yX8_laysTable.cls yX8_laysTable yX8_laysTable ∈ BG ∧ Cond.initialized yX8_laysTable.cls ∈ BG ∧ Cond.code yX8_laysTable mX8_laysTable.2.2.1 mX8_laysTable.2.2.2.1 mX8_laysTable.2.2.2.2 ∈ BG := ⟨inT4 210 (by decide +kernel) rfl, inP 47 (by decide +kernel) rfl, inT1 14 (by decide +kernel) rfl, inT4 211 (by decide +kernel) rfl⟩
theorem mi_X8_lengthOf : Cond.instanceMethod yX8_lengthOf ∈ BG ∧ Cond.selects yX8_lengthOf.cls yX8_lengthOf yX8_lengthOf ∈ BG ∧ Cond.initialized yX8_lengthOf.cls ∈ BG ∧ Cond.code yX8_lengthOf mX8_lengthOf.2.2.1 mX8_lengthOf.2.2.2.1 mX8_lengthOf.2.2.2.2 ∈ BG := ⟨inT4 230 (by decide +kernel) rfl, inP 51 (by decide +kernel) rfl, inT1 14 (by decide +kernel) rfl, inT4 231 (by decide +kernel) rfl⟩
theorem mi_X8_load : Cond.instanceMethod yX8_load ∈ BG ∧ Cond.selects yX8_load.cls yX8_load yX8_load ∈ BG ∧ Cond.initialized yX8_load.cls ∈ BG ∧ Cond.code yX8_load mX8_load.2.2.1 mX8_load.2.2.2.1 mX8_load.2.2.2.2 ∈ BG := ⟨inT4 161 (by decide +kernel) rfl, inT4 162 (by decide +kernel) rfl, inT1 14 (by decide +kernel) rfl, inT4 163 (by decide +kernel) rfl⟩
theorem mi_X8_longest : Cond.instanceMethod yX8_longest ∈ BG ∧ Cond.selects yX8_longest.cls yX8_longest yX8_longest ∈ BG ∧ Cond.initialized yX8_longest.cls ∈ BG ∧ Cond.code yX8_longest mX8_longest.2.2.1 mX8_longest.2.2.2.1 mX8_longest.2.2.2.2 ∈ BG := ⟨inT5 85 (by decide +kernel) rfl, inP 61 (by decide +kernel) rfl, inT1 14 (by decide +kernel) rfl, inT5 86 (by decide +kernel) rfl⟩
theorem mi_X8_miss : Cond.instanceMethod yX8_miss ∈ BG ∧ Cond.selects yX8_miss.cls yX8_miss yX8_miss ∈ BG ∧ Cond.initialized yX8_miss.cls ∈ BG ∧ Cond.code yX8_miss mX8_miss.2.2.1 mX8_miss.2.2.2.1 mX8_miss.2.2.2.2 ∈ BG := ⟨inT5 44 (by decide +kernel) rfl, inT5 45 (by decide +kernel) rfl, inT1 14 (by decide +kernel) rfl, inT5 46 (by decide +kernel) rfl⟩
theorem mi_X8_missing : Cond.instanceMethod yX8_missing ∈ BG ∧ Cond.selects yX8_missing.cls yX8_missing yX8_missing ∈ BG ∧ Cond.initialized yX8_missing.cls ∈ BG ∧ Cond.code yX8_missing mX8_missing.2.2.1 mX8_missing.2.2.2.1 mX8_missing.2.2.2.2 ∈ BG := ⟨inT5 49 (by decide +kernel) rfl, inP 56 (by decide +kernel) rfl, inT1 14 (by decide +kernel) rfl, inT5 50 (by decide +kernel) rfl⟩
theorem mi_X8_move : Cond.instanceMethod yX8_move ∈ BG ∧ Cond.selects yX8_move.cls yX8_move yX8_move ∈ BG ∧ Cond.initialized yX8_move.cls ∈ BG ∧ Cond.code yX8_move mX8_move.2.2.1 mX8_move.2.2.2.1 mX8_move.2.2.2.2 ∈ BG := ⟨inT4 173 (by decide +kernel) rfl, inT4 174 (by decide +kernel) rfl, inT1 14 (by decide +kernel) rfl, inT4 175 (by decide +kernel) rfl⟩
theorem mi_X8_notes : Cond.instanceMethod yX8_notes ∈ BG ∧ Cond.selects yX8_notes.cls yX8_notes yX8_notes ∈ BG ∧ Cond.initialized yX8_notes.cls ∈ BG ∧ Cond.code yX8_notes mX8_notes.2.2.1 mX8_notes.2.2.2.1 mX8_notes.2.2.2.2 ∈ BG := ⟨inT4 154 (by decide +kernel) rfl, inP 38 (by decide +kernel) rfl, inT1 14 (by decide +kernel) rfl, inT4 155 (by decide +kernel) rfl⟩
theorem mi_X8_of : Cond.instanceMethod yX8_of ∈ BG ∧ Cond.selects yX8_of.cls yX8_of yX8_of ∈ BG ∧ Cond.initialized yX8_of.cls ∈ BG ∧ Cond.code yX8_of mX8_of.2.2.1 mX8_of.2.2.2.1 mX8_of.2.2.2.2 ∈ BG := ⟨inT4 190 (by decide +kernel) rfl, inP 43 (by decide +kernel) rfl, inT1 14 (by decide +kernel) rfl, inT4 191 (by decide +kernel) rfl⟩
theorem mi_X8_offOf : Cond.instanceMethod yX8_offOf ∈ BG ∧ Cond.selects yX8_offOf.cls yX8_offOf yX8_offOf ∈ BG ∧ Cond.initialized yX8_offOf.cls ∈ BG ∧ Cond.code yX8_offOf mX8_offOf.2.2.1 mX8_offOf.2.2.2.1 mX8_offOf.2.2.2.2 ∈ BG := ⟨inT5 37 (by decide +kernel) rfl, inP 55 (by decide +kernel) rfl, inT1 14 (by decide +kernel) rfl, inT5 38 (by decide +kernel) rfl⟩
theorem mi_X8_other : Cond.instanceMethod yX8_other ∈ BG ∧ Cond.selects yX8_other.cls yX8_other yX8_other ∈ BG ∧ Cond.initialized yX8_other.cls ∈ BG ∧ Cond.code yX8_other mX8_other.2.2.1 mX8_other.2.2.2.1 mX8_other.2.2.2.2 ∈ BG := ⟨inT4 218 (by decide +kernel) rfl, inP 49 (by decide +kernel) rfl, inT1 14 (by decide +kernel) rfl, inT4 219 (by decide +kernel) rfl⟩
theorem mi_X8_reads : Cond.instanceMethod yX8_reads ∈ BG ∧ Cond.selects yX8_reads.cls yX8_reads yX8_reads ∈ BG ∧ Cond.initialized yX8_reads.cls ∈ BG ∧ Cond.code yX8_reads mX8_reads.2.2.1 mX8_reads.2.2.2.1 mX8_reads.2.2.2.2 ∈ BG := ⟨inT4 90 (by decide +kernel) rfl, inP 24 (by decide +kernel) rfl, inT1 14 (by decide +kernel) rfl, inT4 91 (by decide +kernel) rfl⟩
theorem mi_X8_rollOf : Cond.instanceMethod yX8_rollOf ∈ BG ∧ Cond.selects yX8_rollOf.cls yX8_rollOf yX8_rollOf ∈ BG ∧ Cond.initialized yX8_rollOf.cls ∈ BG ∧ Cond.code yX8_rollOf mX8_rollOf.2.2.1 mX8_rollOf.2.2.2.1 mX8_rollOf.2.2.2.2 ∈ BG := ⟨inT5 88 (by decide +kernel) rfl, inT5 89 (by decide +kernel) rfl, inT1 14 (by decide +kernel) rfl, inT5 90 (by decide +kernel) rfl⟩
theorem mi_X8_rolls : Cond.instanceMethod yX8_rolls ∈ BG ∧ Cond.selects yX8_rolls.cls yX8_rolls yX8_rolls ∈ BG ∧ Cond.initialized yX8_rolls.cls ∈ BG ∧ Cond.code yX8_rolls mX8_rolls.2.2.1 mX8_rolls.2.2.2.1 mX8_rolls.2.2.2.2 ∈ BG := ⟨inT5 64 (by decide +kernel) rfl, inT5 65 (by decide +kernel) rfl, inT1 14 (by decide +kernel) rfl, inT5 66 (by decide +kernel) rfl⟩
theorem ms_X8_root : Cond.static yX8_root ∈ BG ∧ Cond.initialized yX8_root.cls ∈ BG ∧ Cond.code yX8_root mX8_root.2.2.1 mX8_root.2.2.2.1 mX8_root.2.2.2.2 ∈ BG := ⟨inT4 233 (by decide +kernel) rfl, inT1 14 (by decide +kernel) rfl, inT4 234 (by decide +kernel) rfl⟩
theorem mi_X8_round : Cond.instanceMethod yX8_round ∈ BG ∧ Cond.selects yX8_round.cls yX8_round yX8_round ∈ BG ∧ Cond.initialized yX8_round.cls ∈ BG ∧ Cond.code yX8_round mX8_round.2.2.1 mX8_round.2.2.2.1 mX8_round.2.2.2.2 ∈ BG := ⟨inT4 193 (by decide +kernel) rfl, inT4 194 (by decide +kernel) rfl, inT1 14 (by decide +kernel) rfl, inT4 195 (by decide +kernel) rfl⟩
theorem mi_X8_settle : Cond.instanceMethod yX8_settle ∈ BG ∧ Cond.selects yX8_settle.cls yX8_settle yX8_settle ∈ BG ∧ Cond.initialized yX8_settle.cls ∈ BG ∧ Cond.code yX8_settle mX8_settle.2.2.1 mX8_settle.2.2.2.1 mX8_settle.2.2.2.2 ∈ BG := ⟨inT5 52 (by decide +kernel) rfl, inT5 53 (by decide +kernel) rfl, inT1 14 (by decide +kernel) rfl, inT5 54 (by decide +kernel) rfl⟩
theorem mi_X8_slack : Cond.instanceMethod yX8_slack ∈ BG ∧ Cond.selects yX8_slack.cls yX8_slack yX8_slack ∈ BG ∧ Cond.initialized yX8_slack.cls ∈ BG ∧ Cond.code yX8_slack mX8_slack.2.2.1 mX8_slack.2.2.2.1 mX8_slack.2.2.2.2 ∈ BG := ⟨inT5 40 (by decide +kernel) rfl, inT5 41 (by decide +kernel) rfl, inT1 14 (by decide +kernel) rfl, inT5 42 (by decide +kernel) rfl⟩
theorem mi_X8_strand : Cond.instanceMethod yX8_strand ∈ BG ∧ Cond.selects yX8_strand.cls yX8_strand yX8_strand ∈ BG ∧ Cond.initialized yX8_strand.cls ∈ BG ∧ Cond.code yX8_strand mX8_strand.2.2.1 mX8_strand.2.2.2.1 mX8_strand.2.2.2.2 ∈ BG := ⟨inT5 32 (by decide +kernel) rfl, inT5 33 (by decide +kernel) rfl, inT1 14 (by decide +kernel) rfl, inT5 34 (by decide +kernel) rfl⟩
theorem mi_X8_takes : Cond.instanceMethod yX8_takes ∈ BG ∧ Cond.selects yX8_takes.cls yX8_takes yX8_takes ∈ BG ∧ Cond.initialized yX8_takes.cls ∈ BG ∧ Cond.code yX8_takes mX8_takes.2.2.1 mX8_takes.2.2.2.1 mX8_takes.2.2.2.2 ∈ BG := ⟨inT4 102 (by decide +kernel) rfl, inP 27 (by decide +kernel) rfl, inT1 14 (by decide +kernel) rfl, inT4 103 (by decide +kernel) rfl⟩
theorem mi_X8_takesFixed : Cond.instanceMethod yX8_takesFixed ∈ BG ∧ Cond.selects yX8_takesFixed.cls yX8_takesFixed yX8_takesFixed ∈ BG ∧ Cond.initialized yX8_takesFixed.cls ∈ BG ∧ Cond.code yX8_takesFixed mX8_takesFixed.2.2.1 mX8_takesFixed.2.2.2.1 mX8_takesFixed.2.2.2.2 ∈ BG := ⟨inT4 94 (by decide +kernel) rfl, inP 25 (by decide +kernel) rfl, inT1 14 (by decide +kernel) rfl, inT4 95 (by decide +kernel) rfl⟩
theorem mi_X8_takesFree : Cond.instanceMethod yX8_takesFree ∈ BG ∧ Cond.selects yX8_takesFree.cls yX8_takesFree yX8_takesFree ∈ BG ∧ Cond.initialized yX8_takesFree.cls ∈ BG ∧ Cond.code yX8_takesFree mX8_takesFree.2.2.1 mX8_takesFree.2.2.2.1 mX8_takesFree.2.2.2.2 ∈ BG := ⟨inT4 114 (by decide +kernel) rfl, inP 30 (by decide +kernel) rfl, inT1 14 (by decide +kernel) rfl, inT4 115 (by decide +kernel) rfl⟩
theorem mi_X8_takesNumber : Cond.instanceMethod yX8_takesNumber ∈ BG ∧ Cond.selects yX8_takesNumber.cls yX8_takesNumber yX8_takesNumber ∈ BG ∧ Cond.initialized yX8_takesNumber.cls ∈ BG ∧ Cond.code yX8_takesNumber mX8_takesNumber.2.2.1 mX8_takesNumber.2.2.2.1 mX8_takesNumber.2.2.2.2 ∈ BG := ⟨inT4 106 (by decide +kernel) rfl, inP 28 (by decide +kernel) rfl, inT1 14 (by decide +kernel) rfl, inT4 107 (by decide +kernel) rfl⟩
theorem mi_X8_takesNumbers : Cond.instanceMethod yX8_takesNumbers ∈ BG ∧ Cond.selects yX8_takesNumbers.cls yX8_takesNumbers yX8_takesNumbers ∈ BG ∧ Cond.initialized yX8_takesNumbers.cls ∈ BG ∧ Cond.code yX8_takesNumbers mX8_takesNumbers.2.2.1 mX8_takesNumbers.2.2.2.1 mX8_takesNumbers.2.2.2.2 ∈ BG := ⟨inT4 98 (by decide +kernel) rfl, inP 26 (by decide +kernel) rfl, inT1 14 (by decide +kernel) rfl, inT4 99 (by decide +kernel) rfl⟩
theorem mi_X8_takesRolls : Cond.instanceMethod yX8_takesRolls ∈ BG ∧ Cond.selects yX8_takesRolls.cls yX8_takesRolls yX8_takesRolls ∈ BG ∧ Cond.initialized yX8_takesRolls.cls ∈ BG ∧ Cond.code yX8_takesRolls mX8_takesRolls.2.2.1 mX8_takesRolls.2.2.2.1 mX8_takesRolls.2.2.2.2 ∈ BG := ⟨inT4 134 (by decide +kernel) rfl, inP 35 (by decide +kernel) rfl, inT1 14 (by decide +kernel) rfl, inT4 135 (by decide +kernel) rfl⟩
theorem mi_X8_takesStrand : Cond.instanceMethod yX8_takesStrand ∈ BG ∧ Cond.selects yX8_takesStrand.cls yX8_takesStrand yX8_takesStrand ∈ BG ∧ Cond.initialized yX8_takesStrand.cls ∈ BG ∧ Cond.code yX8_takesStrand mX8_takesStrand.2.2.1 mX8_takesStrand.2.2.2.1 mX8_takesStrand.2.2.2.2 ∈ BG := ⟨inT4 122 (by decide +kernel) rfl, inP 32 (by decide +kernel) rfl, inT1 14 (by decide +kernel) rfl, inT4 123 (by decide +kernel) rfl⟩
theorem mi_X8_ties : Cond.instanceMethod yX8_ties ∈ BG ∧ Cond.selects yX8_ties.cls yX8_ties yX8_ties ∈ BG ∧ Cond.initialized yX8_ties.cls ∈ BG ∧ Cond.code yX8_ties mX8_ties.2.2.1 mX8_ties.2.2.2.1 mX8_ties.2.2.2.2 ∈ BG := ⟨inT3 237 (by decide +kernel) rfl, inP 23 (by decide +kernel) rfl, inT1 14 (by decide +kernel) rfl, inT3 238 (by decide +kernel) rfl⟩
theorem mi_X8_undo : Cond.instanceMethod yX8_undo ∈ BG ∧ Cond.selects yX8_undo.cls yX8_undo yX8_undo ∈ BG ∧ Cond.initialized yX8_undo.cls ∈ BG ∧ Cond.code yX8_undo mX8_undo.2.2.1 mX8_undo.2.2.2.1 mX8_undo.2.2.2.2 ∈ BG := ⟨inT4 238 (by decide +kernel) rfl, inT4 239 (by decide +kernel) rfl, inT1 14 (by decide +kernel) rfl, inT5 0 (by decide +kernel) rfl⟩
theorem mi_X8_want : Cond.instanceMethod yX8_want ∈ BG ∧ Cond.selects yX8_want.cls yX8_want yX8_want ∈ BG ∧ Cond.initialized yX8_want.cls ∈ BG ∧ Cond.code yX8_want mX8_want.2.2.1 mX8_want.2.2.2.1 mX8_want.2.2.2.2 ∈ BG := ⟨inT4 157 (by decide +kernel) rfl, inT4 158 (by decide +kernel) rfl, inT1 14 (by decide +kernel) rfl, inT4 159 (by decide +kernel) rfl⟩
theorem mi_X8_wipe : Cond.instanceMethod yX8_wipe ∈ BG ∧ Cond.selects yX8_wipe.cls yX8_wipe yX8_wipe ∈ BG ∧ Cond.initialized yX8_wipe.cls ∈ BG ∧ Cond.code yX8_wipe mX8_wipe.2.2.1 mX8_wipe.2.2.2.1 mX8_wipe.2.2.2.2 ∈ BG := ⟨inT4 81 (by decide +kernel) rfl, inT4 82 (by decide +kernel) rfl, inT1 14 (by decide +kernel) rfl, inT4 83 (by decide +kernel) rfl⟩
theorem mi_X8_write : Cond.instanceMethod yX8_write ∈ BG ∧ Cond.selects yX8_write.cls yX8_write yX8_write ∈ BG ∧ Cond.initialized yX8_write.cls ∈ BG ∧ Cond.code yX8_write mX8_write.2.2.1 mX8_write.2.2.2.1 mX8_write.2.2.2.2 ∈ BG := ⟨inT4 74 (by decide +kernel) rfl, inT4 75 (by decide +kernel) rfl, inT1 14 (by decide +kernel) rfl, inT4 76 (by decide +kernel) rfl⟩
theorem ms_J6_bitCount_0f7a4 : Cond.static yJ6_bitCount_0f7a4 ∈ BG ∧ Cond.initialized yJ6_bitCount_0f7a4.cls ∈ BG ∧ Cond.code yJ6_bitCount_0f7a4 mJ6_bitCount_0f7a4.2.2.1 mJ6_bitCount_0f7a4.2.2.2.1 mJ6_bitCount_0f7a4.2.2.2.2 ∈ BG := ⟨inT2 92 (by decide +kernel) rfl, inT1 13 (by decide +kernel) rfl, inT2 93 (by decide +kernel) rfl⟩
theorem ms_J6_compare_7cf53 : Cond.static yJ6_compare_7cf53 ∈ BG ∧ Cond.initialized yJ6_compare_7cf53.cls ∈ BG ∧ Cond.code yJ6_compare_7cf53 mJ6_compare_7cf53.2.2.1 mJ6_compare_7cf53.2.2.2.1 mJ6_compare_7cf53.2.2.2.2 ∈ BG := ⟨inT3 51 (by decide +kernel) rfl, inT1 13 (by decide +kernel) rfl, inT3 52 (by decide +kernel) rfl⟩
theorem ms_J9_abs_0f7a4 : Cond.static yJ9_abs_0f7a4 ∈ BG ∧ Cond.initialized yJ9_abs_0f7a4.cls ∈ BG ∧ Cond.code yJ9_abs_0f7a4 mJ9_abs_0f7a4.2.2.1 mJ9_abs_0f7a4.2.2.2.1 mJ9_abs_0f7a4.2.2.2.2 ∈ BG := ⟨inT3 122 (by decide +kernel) rfl, inT1 16 (by decide +kernel) rfl, inT3 123 (by decide +kernel) rfl⟩
theorem ms_J9_abs_067f4 : Cond.static yJ9_abs_067f4 ∈ BG ∧ Cond.initialized yJ9_abs_067f4.cls ∈ BG ∧ Cond.code yJ9_abs_067f4 mJ9_abs_067f4.2.2.1 mJ9_abs_067f4.2.2.2.1 mJ9_abs_067f4.2.2.2.2 ∈ BG := ⟨inT3 89 (by decide +kernel) rfl, inT1 16 (by decide +kernel) rfl, inT3 90 (by decide +kernel) rfl⟩
theorem ms_J9_floorDiv_f86c9 : Cond.static yJ9_floorDiv_f86c9 ∈ BG ∧ Cond.initialized yJ9_floorDiv_f86c9.cls ∈ BG ∧ Cond.code yJ9_floorDiv_f86c9 mJ9_floorDiv_f86c9.2.2.1 mJ9_floorDiv_f86c9.2.2.2.1 mJ9_floorDiv_f86c9.2.2.2.2 ∈ BG := ⟨inT3 32 (by decide +kernel) rfl, inT1 16 (by decide +kernel) rfl, inT3 33 (by decide +kernel) rfl⟩
theorem ms_J9_max_7cf53 : Cond.static yJ9_max_7cf53 ∈ BG ∧ Cond.initialized yJ9_max_7cf53.cls ∈ BG ∧ Cond.code yJ9_max_7cf53 mJ9_max_7cf53.2.2.1 mJ9_max_7cf53.2.2.2.1 mJ9_max_7cf53.2.2.2.2 ∈ BG := ⟨inT3 54 (by decide +kernel) rfl, inT1 16 (by decide +kernel) rfl, inT3 55 (by decide +kernel) rfl⟩
theorem ms_J9_max_f86c9 : Cond.static yJ9_max_f86c9 ∈ BG ∧ Cond.initialized yJ9_max_f86c9.cls ∈ BG ∧ Cond.code yJ9_max_f86c9 mJ9_max_f86c9.2.2.1 mJ9_max_f86c9.2.2.2.1 mJ9_max_f86c9.2.2.2.2 ∈ BG := ⟨inT3 95 (by decide +kernel) rfl, inT1 16 (by decide +kernel) rfl, inT3 96 (by decide +kernel) rfl⟩
theorem ms_J9_min_7cf53 : Cond.static yJ9_min_7cf53 ∈ BG ∧ Cond.initialized yJ9_min_7cf53.cls ∈ BG ∧ Cond.code yJ9_min_7cf53 mJ9_min_7cf53.2.2.1 mJ9_min_7cf53.2.2.2.1 mJ9_min_7cf53.2.2.2.2 ∈ BG := ⟨inT2 187 (by decide +kernel) rfl, inT1 16 (by decide +kernel) rfl, inT2 188 (by decide +kernel) rfl⟩
theorem mi_J0_charAt_5068e : Cond.instanceMethod yJ0_charAt_5068e ∈ BG ∧ Cond.selects yJ0_charAt_5068e.cls yJ0_charAt_5068e yJ0_charAt_5068e ∈ BG ∧ Cond.initialized yJ0_charAt_5068e.cls ∈ BG ∧ Cond.code yJ0_charAt_5068e mJ0_charAt_5068e.2.2.1 mJ0_charAt_5068e.2.2.2.1 mJ0_charAt_5068e.2.2.2.2 ∈ BG := ⟨inT2 9 (by decide +kernel) rfl, inT2 10 (by decide +kernel) rfl, inT1 9 (by decide +kernel) rfl, inT2 11 (by decide +kernel) rfl⟩
theorem ms_J0_checkIndex_df160 : Cond.static yJ0_checkIndex_df160 ∈ BG ∧ Cond.initialized yJ0_checkIndex_df160.cls ∈ BG ∧ Cond.code yJ0_checkIndex_df160 mJ0_checkIndex_df160.2.2.1 mJ0_checkIndex_df160.2.2.2.1 mJ0_checkIndex_df160.2.2.2.2 ∈ BG := ⟨inT2 20 (by decide +kernel) rfl, inT1 9 (by decide +kernel) rfl, inT2 21 (by decide +kernel) rfl⟩
theorem mi_J0_coder_7d493 : Cond.instanceMethod yJ0_coder_7d493 ∈ BG ∧ Cond.selects yJ0_coder_7d493.cls yJ0_coder_7d493 yJ0_coder_7d493 ∈ BG ∧ Cond.initialized yJ0_coder_7d493.cls ∈ BG ∧ Cond.code yJ0_coder_7d493 mJ0_coder_7d493.2.2.1 mJ0_coder_7d493.2.2.2.1 mJ0_coder_7d493.2.2.2.2 ∈ BG := ⟨inT2 3 (by decide +kernel) rfl, inT2 4 (by decide +kernel) rfl, inT1 9 (by decide +kernel) rfl, inT2 5 (by decide +kernel) rfl⟩
theorem mi_J0_isLatin1_aae02 : Cond.instanceMethod yJ0_isLatin1_aae02 ∈ BG ∧ Cond.selects yJ0_isLatin1_aae02.cls yJ0_isLatin1_aae02 yJ0_isLatin1_aae02 ∈ BG ∧ Cond.initialized yJ0_isLatin1_aae02.cls ∈ BG ∧ Cond.code yJ0_isLatin1_aae02 mJ0_isLatin1_aae02.2.2.1 mJ0_isLatin1_aae02.2.2.2.1 mJ0_isLatin1_aae02.2.2.2.2 ∈ BG := ⟨inT2 13 (by decide +kernel) rfl, inT2 14 (by decide +kernel) rfl, inT1 9 (by decide +kernel) rfl, inT2 15 (by decide +kernel) rfl⟩
theorem mi_J0_length_8abf5 : Cond.instanceMethod yJ0_length_8abf5 ∈ BG ∧ Cond.selects yJ0_length_8abf5.cls yJ0_length_8abf5 yJ0_length_8abf5 ∈ BG ∧ Cond.initialized yJ0_length_8abf5.cls ∈ BG ∧ Cond.code yJ0_length_8abf5 mJ0_length_8abf5.2.2.1 mJ0_length_8abf5.2.2.2.1 mJ0_length_8abf5.2.2.2.2 ∈ BG := ⟨inT1 239 (by decide +kernel) rfl, inT2 0 (by decide +kernel) rfl, inT1 9 (by decide +kernel) rfl, inT2 1 (by decide +kernel) rfl⟩
theorem ms_J1_charAt_3b067 : Cond.static yJ1_charAt_3b067 ∈ BG ∧ Cond.initialized yJ1_charAt_3b067.cls ∈ BG ∧ Cond.code yJ1_charAt_3b067 mJ1_charAt_3b067.2.2.1 mJ1_charAt_3b067.2.2.2.1 mJ1_charAt_3b067.2.2.2.2 ∈ BG := ⟨inT2 17 (by decide +kernel) rfl, inT1 10 (by decide +kernel) rfl, inT2 18 (by decide +kernel) rfl⟩
theorem ms_J2_charAt_3b067 : Cond.static yJ2_charAt_3b067 ∈ BG ∧ Cond.initialized yJ2_charAt_3b067.cls ∈ BG ∧ Cond.code yJ2_charAt_3b067 mJ2_charAt_3b067.2.2.1 mJ2_charAt_3b067.2.2.2.1 mJ2_charAt_3b067.2.2.2.2 ∈ BG := ⟨inT2 28 (by decide +kernel) rfl, inT1 12 (by decide +kernel) rfl, inT2 29 (by decide +kernel) rfl⟩
theorem ms_J2_checkIndex_2214a : Cond.static yJ2_checkIndex_2214a ∈ BG ∧ Cond.initialized yJ2_checkIndex_2214a.cls ∈ BG ∧ Cond.code yJ2_checkIndex_2214a mJ2_checkIndex_2214a.2.2.1 mJ2_checkIndex_2214a.2.2.2.1 mJ2_checkIndex_2214a.2.2.2.2 ∈ BG := ⟨inT2 31 (by decide +kernel) rfl, inT1 12 (by decide +kernel) rfl, inT2 32 (by decide +kernel) rfl⟩
theorem ms_J2_getChar_3b067 : Cond.static yJ2_getChar_3b067 ∈ BG ∧ Cond.initialized yJ2_getChar_3b067.cls ∈ BG ∧ Cond.code yJ2_getChar_3b067 mJ2_getChar_3b067.2.2.1 mJ2_getChar_3b067.2.2.2.1 mJ2_getChar_3b067.2.2.2.2 ∈ BG := ⟨inT2 38 (by decide +kernel) rfl, inT1 12 (by decide +kernel) rfl, inT2 39 (by decide +kernel) rfl⟩
theorem ms_J2_length_9d52b : Cond.static yJ2_length_9d52b ∈ BG ∧ Cond.initialized yJ2_length_9d52b.cls ∈ BG ∧ Cond.code yJ2_length_9d52b mJ2_length_9d52b.2.2.1 mJ2_length_9d52b.2.2.2.1 mJ2_length_9d52b.2.2.2.2 ∈ BG := ⟨inT2 34 (by decide +kernel) rfl, inT1 12 (by decide +kernel) rfl, inT2 35 (by decide +kernel) rfl⟩
theorem ms_J3_checkIndex_8e157 : Cond.static yJ3_checkIndex_8e157 ∈ BG ∧ Cond.initialized yJ3_checkIndex_8e157.cls ∈ BG ∧ Cond.code yJ3_checkIndex_8e157 mJ3_checkIndex_8e157.2.2.1 mJ3_checkIndex_8e157.2.2.2.1 mJ3_checkIndex_8e157.2.2.2.2 ∈ BG := ⟨inT2 25 (by decide +kernel) rfl, inT1 11 (by decide +kernel) rfl, inT2 26 (by decide +kernel) rfl⟩
theorem cw_X7_63 : CWv RX7 63 yJ0_length_8abf5 mJ0_length_8abf5 0 := ⟨inT1 238 (by decide +kernel) rfl, mi_J0_length_8abf5.1, mi_J0_length_8abf5.2.1, mi_J0_length_8abf5.2.2.1, mi_J0_length_8abf5.2.2.2, rfl, by decide +kernel, by decide +kernel, by decide⟩
theorem cw_J0_335 : CWv RJ0 335 yJ0_coder_7d493 mJ0_coder_7d493 0 := ⟨inT2 2 (by decide +kernel) rfl, mi_J0_coder_7d493.1, mi_J0_coder_7d493.2.1, mi_J0_coder_7d493.2.2.1, mi_J0_coder_7d493.2.2.2, rfl, by decide +kernel, by decide +kernel, by decide⟩
theorem cw_X7_69 : CWv RX7 69 yJ0_charAt_5068e mJ0_charAt_5068e 1 := ⟨inT2 8 (by decide +kernel) rfl, mi_J0_charAt_5068e.1, mi_J0_charAt_5068e.2.1, mi_J0_charAt_5068e.2.2.1, mi_J0_charAt_5068e.2.2.2, rfl, by decide +kernel, by decide +kernel, by decide⟩
theorem cw_J0_492 : CWv RJ0 492 yJ0_isLatin1_aae02 mJ0_isLatin1_aae02 0 := ⟨inT2 12 (by decide +kernel) rfl, mi_J0_isLatin1_aae02.1, mi_J0_isLatin1_aae02.2.1, mi_J0_isLatin1_aae02.2.2.1, mi_J0_isLatin1_aae02.2.2.2, rfl, by decide +kernel, by decide +kernel, by decide⟩
theorem cw_J0_495 : CWs RJ0 495 yJ1_charAt_3b067 mJ1_charAt_3b067 2 := ⟨inT2 16 (by decide +kernel) rfl, ms_J1_charAt_3b067.1, ms_J1_charAt_3b067.2.1, ms_J1_charAt_3b067.2.2, rfl, by decide +kernel, by decide +kernel, by decide⟩
theorem cw_J1_9 : CWs RJ1 9 yJ0_checkIndex_df160 mJ0_checkIndex_df160 2 := ⟨inT2 19 (by decide +kernel) rfl, ms_J0_checkIndex_df160.1, ms_J0_checkIndex_df160.2.1, ms_J0_checkIndex_df160.2.2, rfl, by decide +kernel, by decide +kernel, by decide⟩
theorem cw_J0_1059 : CWs RJ0 1059 yJ3_checkIndex_8e157 mJ3_checkIndex_8e157 3 := ⟨inT2 24 (by decide +kernel) rfl, ms_J3_checkIndex_8e157.1, ms_J3_checkIndex_8e157.2.1, ms_J3_checkIndex_8e157.2.2, rfl, by decide +kernel, by decide +kernel, by decide⟩
theorem cw_J0_498 : CWs RJ0 498 yJ2_charAt_3b067 mJ2_charAt_3b067 2 := ⟨inT2 27 (by decide +kernel) rfl, ms_J2_charAt_3b067.1, ms_J2_charAt_3b067.2.1, ms_J2_charAt_3b067.2.2, rfl, by decide +kernel, by decide +kernel, by decide⟩
theorem cw_J2_67 : CWs RJ2 67 yJ2_checkIndex_2214a mJ2_checkIndex_2214a 2 := ⟨inT2 30 (by decide +kernel) rfl, ms_J2_checkIndex_2214a.1, ms_J2_checkIndex_2214a.2.1, ms_J2_checkIndex_2214a.2.2, rfl, by decide +kernel, by decide +kernel, by decide⟩
theorem cw_J2_48 : CWs RJ2 48 yJ2_length_9d52b mJ2_length_9d52b 1 := ⟨inT2 33 (by decide +kernel) rfl, ms_J2_length_9d52b.1, ms_J2_length_9d52b.2.1, ms_J2_length_9d52b.2.2, rfl, by decide +kernel, by decide +kernel, by decide⟩
theorem cw_J2_414 : CWs RJ2 414 yJ0_checkIndex_df160 mJ0_checkIndex_df160 2 := ⟨inT2 36 (by decide +kernel) rfl, ms_J0_checkIndex_df160.1, ms_J0_checkIndex_df160.2.1, ms_J0_checkIndex_df160.2.2, rfl, by decide +kernel, by decide +kernel, by decide⟩
theorem cw_J2_71 : CWs RJ2 71 yJ2_getChar_3b067 mJ2_getChar_3b067 2 := ⟨inT2 37 (by decide +kernel) rfl, ms_J2_getChar_3b067.1, ms_J2_getChar_3b067.2.1, ms_J2_getChar_3b067.2.2, rfl, by decide +kernel, by decide +kernel, by decide⟩
theorem cw_X7_73 : CWv RX7 73 yX1_append mX1_append 1 := ⟨inT2 46 (by decide +kernel) rfl, mi_X1_append.1, mi_X1_append.2.1, mi_X1_append.2.2.1, mi_X1_append.2.2.2, rfl, by decide +kernel, by decide +kernel, by decide⟩
theorem cw_X7_77 : CWv RX7 77 yX5_readInto mX5_readInto 2 := ⟨inT2 50 (by decide +kernel) rfl, mi_X5_readInto.1, mi_X5_readInto.2.1, mi_X5_readInto.2.2.1, mi_X5_readInto.2.2.2, rfl, by decide +kernel, by decide +kernel, by decide⟩
theorem cw_X5_15 : CWv RX5 15 yX2_clear mX2_clear 0 := ⟨inT2 54 (by decide +kernel) rfl, mi_X2_clear.1, mi_X2_clear.2.1, mi_X2_clear.2.2.1, mi_X2_clear.2.2.2, rfl, by decide +kernel, by decide +kernel, by decide⟩
theorem cw_X5_26 : CWv RX5 26 yX5_takeItem mX5_takeItem 3 := ⟨inT2 58 (by decide +kernel) rfl, mi_X5_takeItem.1, mi_X5_takeItem.2.1, mi_X5_takeItem.2.2.1, mi_X5_takeItem.2.2.2, rfl, by decide +kernel, by decide +kernel, by decide⟩
theorem cw_X5_30 : CWv RX5 30 yX1_at mX1_at 1 := ⟨inT2 62 (by decide +kernel) rfl, mi_X1_at.1, mi_X1_at.2.1, mi_X1_at.2.2.1, mi_X1_at.2.2.2, rfl, by decide +kernel, by decide +kernel, by decide⟩
theorem cw_X5_34 : CWv RX5 34 yX5_numbersOf mX5_numbersOf 1 := ⟨inT2 66 (by decide +kernel) rfl, mi_X5_numbersOf.1, mi_X5_numbersOf.2.1, mi_X5_numbersOf.2.2.1, mi_X5_numbersOf.2.2.2, rfl, by decide +kernel, by decide +kernel, by decide⟩
theorem cw_X5_38 : CWv RX5 38 yX5_takeNumbers mX5_takeNumbers 3 := ⟨inT2 70 (by decide +kernel) rfl, mi_X5_takeNumbers.1, mi_X5_takeNumbers.2.1, mi_X5_takeNumbers.2.2.1, mi_X5_takeNumbers.2.2.2, rfl, by decide +kernel, by decide +kernel, by decide⟩
theorem cw_X5_46 : CWv RX5 46 yX1_isFigure mX1_isFigure 1 := ⟨inT2 74 (by decide +kernel) rfl, mi_X1_isFigure.1, mi_X1_isFigure.2.1, mi_X1_isFigure.2.2.1, mi_X1_isFigure.2.2.2, rfl, by decide +kernel, by decide +kernel, by decide⟩
theorem cw_X1_19 : CWv RX1 19 yX1_at mX1_at 1 := ⟨inT2 78 (by decide +kernel) rfl, mi_X1_at.1, mi_X1_at.2.1, mi_X1_at.2.2.1, mi_X1_at.2.2.2, rfl, by decide +kernel, by decide +kernel, by decide⟩
theorem cw_X5_42 : CWv RX5 42 yX5_addItem mX5_addItem 2 := ⟨inT2 79 (by decide +kernel) rfl, mi_X5_addItem.1, mi_X5_addItem.2.1, mi_X5_addItem.2.2.1, mi_X5_addItem.2.2.2, rfl, by decide +kernel, by decide +kernel, by decide⟩
theorem cw_X5_50 : CWv RX5 50 yX2_addFixed mX2_addFixed 3 := ⟨inT2 83 (by decide +kernel) rfl, mi_X2_addFixed.1, mi_X2_addFixed.2.1, mi_X2_addFixed.2.2.1, mi_X2_addFixed.2.2.2, rfl, by decide +kernel, by decide +kernel, by decide⟩
theorem cw_X5_54 : CWv RX5 54 yX2_addFree mX2_addFree 1 := ⟨inT2 87 (by decide +kernel) rfl, mi_X2_addFree.1, mi_X2_addFree.2.1, mi_X2_addFree.2.2.1, mi_X2_addFree.2.2.2, rfl, by decide +kernel, by decide +kernel, by decide⟩
theorem cw_X2_55 : CWs RX2 55 yJ6_bitCount_0f7a4 mJ6_bitCount_0f7a4 1 := ⟨inT2 91 (by decide +kernel) rfl, ms_J6_bitCount_0f7a4.1, ms_J6_bitCount_0f7a4.2.1, ms_J6_bitCount_0f7a4.2.2, rfl, by decide +kernel, by decide +kernel, by decide⟩
theorem cw_X5_57 : CWv RX5 57 yX2_addStrand mX2_addStrand 4 := ⟨inT2 97 (by decide +kernel) rfl, mi_X2_addStrand.1, mi_X2_addStrand.2.1, mi_X2_addStrand.2.2.1, mi_X2_addStrand.2.2.2, rfl, by decide +kernel, by decide +kernel, by decide⟩
theorem cw_X2_61 : CWv RX2 61 yX2_hasJoint mX2_hasJoint 1 := ⟨inT2 101 (by decide +kernel) rfl, mi_X2_hasJoint.1, mi_X2_hasJoint.2.1, mi_X2_hasJoint.2.2.1, mi_X2_hasJoint.2.2.2, rfl, by decide +kernel, by decide +kernel, by decide⟩
theorem cw_X2_69 : CWv RX2 69 yX2_strandsAt mX2_strandsAt 1 := ⟨inT2 108 (by decide +kernel) rfl, mi_X2_strandsAt.1, mi_X2_strandsAt.2.1, mi_X2_strandsAt.2.2.1, mi_X2_strandsAt.2.2.2, rfl, by decide +kernel, by decide +kernel, by decide⟩
theorem cw_X2_72 : CWv RX2 72 yX2_takesNoMore mX2_takesNoMore 1 := ⟨inT2 112 (by decide +kernel) rfl, mi_X2_takesNoMore.1, mi_X2_takesNoMore.2.1, mi_X2_takesNoMore.2.2.1, mi_X2_takesNoMore.2.2.2, rfl, by decide +kernel, by decide +kernel, by decide⟩
theorem cw_X2_75 : CWv RX2 75 yX2_isFree mX2_isFree 1 := ⟨inT2 116 (by decide +kernel) rfl, mi_X2_isFree.1, mi_X2_isFree.2.1, mi_X2_isFree.2.2.1, mi_X2_isFree.2.2.2, rfl, by decide +kernel, by decide +kernel, by decide⟩
theorem cw_X5_61 : CWv RX5 61 yX2_tellRolls mX2_tellRolls 2 := ⟨inT2 120 (by decide +kernel) rfl, mi_X2_tellRolls.1, mi_X2_tellRolls.2.1, mi_X2_tellRolls.2.2.1, mi_X2_tellRolls.2.2.2, rfl, by decide +kernel, by decide +kernel, by decide⟩
theorem cw_X7_85 : CWs RX7 85 yX7_isWithin mX7_isWithin 3 := ⟨inT2 154 (by decide +kernel) rfl, ms_X7_isWithin.1, ms_X7_isWithin.2.1, ms_X7_isWithin.2.2, rfl, by decide +kernel, by decide +kernel, by decide⟩
theorem cw_X7_95 : CWv RX7 95 yX2_hasStrand mX2_hasStrand 1 := ⟨inT2 171 (by decide +kernel) rfl, mi_X2_hasStrand.1, mi_X2_hasStrand.2.1, mi_X2_hasStrand.2.2.1, mi_X2_hasStrand.2.2.2, rfl, by decide +kernel, by decide +kernel, by decide⟩
theorem cw_X7_103 : CWv RX7 103 yX3_keep mX3_keep 1 := ⟨inT2 175 (by decide +kernel) rfl, mi_X3_keep.1, mi_X3_keep.2.1, mi_X3_keep.2.2.1, mi_X3_keep.2.2.2, rfl, by decide +kernel, by decide +kernel, by decide⟩
theorem cw_X3_22 : CWv RX3 22 yX2_copyFrom mX2_copyFrom 1 := ⟨inT2 179 (by decide +kernel) rfl, mi_X2_copyFrom.1, mi_X2_copyFrom.2.1, mi_X2_copyFrom.2.2.1, mi_X2_copyFrom.2.2.2, rfl, by decide +kernel, by decide +kernel, by decide⟩
theorem wm_X2_49 : WCpy RX2 49 := ⟨inT2 183 (by decide +kernel) rfl, inT2 185 (by decide +kernel) rfl, inT2 184 (by decide +kernel) rfl, inT1 15 (by decide +kernel) rfl⟩
theorem wm_X3_29 : WMin RX3 29 := ⟨inT2 186 (by decide +kernel) rfl, inT2 187 (by decide +kernel) rfl, inT1 16 (by decide +kernel) rfl, inT2 188 (by decide +kernel) rfl⟩
theorem cw_X7_110 : CWv RX7 110 yX2_hasJoint mX2_hasJoint 1 := ⟨inT2 197 (by decide +kernel) rfl, mi_X2_hasJoint.1, mi_X2_hasJoint.2.1, mi_X2_hasJoint.2.2.1, mi_X2_hasJoint.2.2.2, rfl, by decide +kernel, by decide +kernel, by decide⟩
theorem cw_X7_113 : CWv RX7 113 yX2_isFree mX2_isFree 1 := ⟨inT2 198 (by decide +kernel) rfl, mi_X2_isFree.1, mi_X2_isFree.2.1, mi_X2_isFree.2.2.1, mi_X2_isFree.2.2.2, rfl, by decide +kernel, by decide +kernel, by decide⟩
theorem cw_X7_119 : CWv RX7 119 yX7_isFixedJoint mX7_isFixedJoint 1 := ⟨inT2 203 (by decide +kernel) rfl, mi_X7_isFixedJoint.1, mi_X7_isFixedJoint.2.1, mi_X7_isFixedJoint.2.2.1, mi_X7_isFixedJoint.2.2.2, rfl, by decide +kernel, by decide +kernel, by decide⟩
theorem cw_X7_122 : CWs RX7 122 yX7_isAxis mX7_isAxis 1 := ⟨inT2 207 (by decide +kernel) rfl, ms_X7_isAxis.1, ms_X7_isAxis.2.1, ms_X7_isAxis.2.2, rfl, by decide +kernel, by decide +kernel, by decide⟩
theorem cw_X7_128 : CWv RX7 128 yX2_hangs mX2_hangs 1 := ⟨inT2 214 (by decide +kernel) rfl, mi_X2_hangs.1, mi_X2_hangs.2.1, mi_X2_hangs.2.2.1, mi_X2_hangs.2.2.2, rfl, by decide +kernel, by decide +kernel, by decide⟩
theorem cw_X7_134 : CWs RX7 134 yJ6_bitCount_0f7a4 mJ6_bitCount_0f7a4 1 := ⟨inT2 218 (by decide +kernel) rfl, ms_J6_bitCount_0f7a4.1, ms_J6_bitCount_0f7a4.2.1, ms_J6_bitCount_0f7a4.2.2, rfl, by decide +kernel, by decide +kernel, by decide⟩
theorem cw_X7_140 : CWv RX7 140 yX2_allHung mX2_allHung 0 := ⟨inT2 223 (by decide +kernel) rfl, mi_X2_allHung.1, mi_X2_allHung.2.1, mi_X2_allHung.2.2.1, mi_X2_allHung.2.2.2, rfl, by decide +kernel, by decide +kernel, by decide⟩
theorem cw_X2_78 : CWv RX2 78 yX2_hungJoints mX2_hungJoints 1 := ⟨inT2 227 (by decide +kernel) rfl, mi_X2_hungJoints.1, mi_X2_hungJoints.2.1, mi_X2_hungJoints.2.2.1, mi_X2_hungJoints.2.2.2, rfl, by decide +kernel, by decide +kernel, by decide⟩
theorem cw_X7_144 : CWv RX7 144 yX4_find mX4_find 1 := ⟨inT2 231 (by decide +kernel) rfl, mi_X4_find.1, mi_X4_find.2.1, mi_X4_find.2.2.1, mi_X4_find.2.2.2, rfl, by decide +kernel, by decide +kernel, by decide⟩
theorem cw_X4_30 : CWv RX4 30 yX2_allHung mX2_allHung 0 := ⟨inT2 235 (by decide +kernel) rfl, mi_X2_allHung.1, mi_X2_allHung.2.1, mi_X2_allHung.2.2.1, mi_X2_allHung.2.2.2, rfl, by decide +kernel, by decide +kernel, by decide⟩
theorem cw_X4_36 : CWv RX4 36 yX4_numberFreeJoints mX4_numberFreeJoints 1 := ⟨inT2 236 (by decide +kernel) rfl, mi_X4_numberFreeJoints.1, mi_X4_numberFreeJoints.2.1, mi_X4_numberFreeJoints.2.2.1, mi_X4_numberFreeJoints.2.2.2, rfl, by decide +kernel, by decide +kernel, by decide⟩
theorem cw_X4_59 : CWv RX4 59 yX2_isFree mX2_isFree 1 := ⟨inT3 0 (by decide +kernel) rfl, mi_X2_isFree.1, mi_X2_isFree.2.1, mi_X2_isFree.2.2.1, mi_X2_isFree.2.2.2, rfl, by decide +kernel, by decide +kernel, by decide⟩
theorem cw_X4_40 : CWv RX4 40 yX4_setUpRows mX4_setUpRows 1 := ⟨inT3 1 (by decide +kernel) rfl, mi_X4_setUpRows.1, mi_X4_setUpRows.2.1, mi_X4_setUpRows.2.2.1, mi_X4_setUpRows.2.2.2, rfl, by decide +kernel, by decide +kernel, by decide⟩
theorem cw_X4_69 : CWv RX4 69 yX2_hangs mX2_hangs 1 := ⟨inT3 5 (by decide +kernel) rfl, mi_X2_hangs.1, mi_X2_hangs.2.1, mi_X2_hangs.2.2.1, mi_X2_hangs.2.2.2, rfl, by decide +kernel, by decide +kernel, by decide⟩
theorem cw_X4_75 : CWv RX4 75 yX4_addPullOn mX4_addPullOn 3 := ⟨inT3 6 (by decide +kernel) rfl, mi_X4_addPullOn.1, mi_X4_addPullOn.2.1, mi_X4_addPullOn.2.2.1, mi_X4_addPullOn.2.2.2, rfl, by decide +kernel, by decide +kernel, by decide⟩
theorem cw_X4_82 : CWv RX4 82 yX2_otherEnd mX2_otherEnd 2 := ⟨inT3 10 (by decide +kernel) rfl, mi_X2_otherEnd.1, mi_X2_otherEnd.2.1, mi_X2_otherEnd.2.2.1, mi_X2_otherEnd.2.2.2, rfl, by decide +kernel, by decide +kernel, by decide⟩
theorem cw_X4_43 : CWv RX4 43 yX4_eliminate mX4_eliminate 0 := ⟨inT3 14 (by decide +kernel) rfl, mi_X4_eliminate.1, mi_X4_eliminate.2.1, mi_X4_eliminate.2.2.1, mi_X4_eliminate.2.2.2, rfl, by decide +kernel, by decide +kernel, by decide⟩
theorem cw_X4_92 : CWv RX4 92 yX4_clearColumn mX4_clearColumn 3 := ⟨inT3 18 (by decide +kernel) rfl, mi_X4_clearColumn.1, mi_X4_clearColumn.2.1, mi_X4_clearColumn.2.2.1, mi_X4_clearColumn.2.2.2, rfl, by decide +kernel, by decide +kernel, by decide⟩
theorem cw_X4_46 : CWv RX4 46 yX4_tellHundredths mX4_tellHundredths 1 := ⟨inT3 22 (by decide +kernel) rfl, mi_X4_tellHundredths.1, mi_X4_tellHundredths.2.1, mi_X4_tellHundredths.2.2.1, mi_X4_tellHundredths.2.2.2, rfl, by decide +kernel, by decide +kernel, by decide⟩
theorem cw_X4_98 : CWv RX4 98 yX4_above mX4_above 3 := ⟨inT3 27 (by decide +kernel) rfl, mi_X4_above.1, mi_X4_above.2.1, mi_X4_above.2.2.1, mi_X4_above.2.2.2, rfl, by decide +kernel, by decide +kernel, by decide⟩
theorem cw_X4_102 : CWs RX4 102 yJ9_floorDiv_f86c9 mJ9_floorDiv_f86c9 2 := ⟨inT3 31 (by decide +kernel) rfl, ms_J9_floorDiv_f86c9.1, ms_J9_floorDiv_f86c9.2.1, ms_J9_floorDiv_f86c9.2.2, rfl, by decide +kernel, by decide +kernel, by decide⟩
theorem cw_X4_49 : CWv RX4 49 yX4_tellLengths mX4_tellLengths 1 := ⟨inT3 34 (by decide +kernel) rfl, mi_X4_tellLengths.1, mi_X4_tellLengths.2.1, mi_X4_tellLengths.2.2.1, mi_X4_tellLengths.2.2.2, rfl, by decide +kernel, by decide +kernel, by decide⟩
theorem cw_X4_108 : CWv RX4 108 yX4_wayFrom mX4_wayFrom 3 := ⟨inT3 38 (by decide +kernel) rfl, mi_X4_wayFrom.1, mi_X4_wayFrom.2.1, mi_X4_wayFrom.2.2.1, mi_X4_wayFrom.2.2.2, rfl, by decide +kernel, by decide +kernel, by decide⟩
theorem cw_X4_112 : CWs RX4 112 yX4_wholeRoot mX4_wholeRoot 1 := ⟨inT3 42 (by decide +kernel) rfl, ms_X4_wholeRoot.1, ms_X4_wholeRoot.2.1, ms_X4_wholeRoot.2.2, rfl, by decide +kernel, by decide +kernel, by decide⟩
theorem cw_X7_151 : CWv RX7 151 yX2_tellDensitiesAnew mX2_tellDensitiesAnew 1 := ⟨inT3 45 (by decide +kernel) rfl, mi_X2_tellDensitiesAnew.1, mi_X2_tellDensitiesAnew.2.1, mi_X2_tellDensitiesAnew.2.2.1, mi_X2_tellDensitiesAnew.2.2.2, rfl, by decide +kernel, by decide +kernel, by decide⟩
theorem cw_X2_81 : CWv RX2 81 yX2_hangs mX2_hangs 1 := ⟨inT3 49 (by decide +kernel) rfl, mi_X2_hangs.1, mi_X2_hangs.2.1, mi_X2_hangs.2.2.1, mi_X2_hangs.2.2.2, rfl, by decide +kernel, by decide +kernel, by decide⟩
theorem cw_X2_84 : CWs RX2 84 yJ6_compare_7cf53 mJ6_compare_7cf53 2 := ⟨inT3 50 (by decide +kernel) rfl, ms_J6_compare_7cf53.1, ms_J6_compare_7cf53.2.1, ms_J6_compare_7cf53.2.2, rfl, by decide +kernel, by decide +kernel, by decide⟩
theorem wm_X2_88 : WMax RX2 88 := ⟨inT3 53 (by decide +kernel) rfl, inT3 54 (by decide +kernel) rfl, inT1 16 (by decide +kernel) rfl, inT3 55 (by decide +kernel) rfl⟩
theorem wm_X2_93 : WMin RX2 93 := ⟨inT3 56 (by decide +kernel) rfl, inT2 187 (by decide +kernel) rfl, inT1 16 (by decide +kernel) rfl, inT2 188 (by decide +kernel) rfl⟩
theorem cw_X7_155 : CWv RX7 155 yX3_giveBack mX3_giveBack 1 := ⟨inT3 61 (by decide +kernel) rfl, mi_X3_giveBack.1, mi_X3_giveBack.2.1, mi_X3_giveBack.2.2.1, mi_X3_giveBack.2.2.2, rfl, by decide +kernel, by decide +kernel, by decide⟩
theorem cw_X7_158 : CWv RX7 158 yX2_strandsAt mX2_strandsAt 1 := ⟨inT3 69 (by decide +kernel) rfl, mi_X2_strandsAt.1, mi_X2_strandsAt.2.1, mi_X2_strandsAt.2.2.1, mi_X2_strandsAt.2.2.2, rfl, by decide +kernel, by decide +kernel, by decide⟩
theorem cw_X7_161 : CWv RX7 161 yX2_hungJoints mX2_hungJoints 1 := ⟨inT3 70 (by decide +kernel) rfl, mi_X2_hungJoints.1, mi_X2_hungJoints.2.1, mi_X2_hungJoints.2.2.1, mi_X2_hungJoints.2.2.2, rfl, by decide +kernel, by decide +kernel, by decide⟩
theorem cw_X7_164 : CWv RX7 164 yX4_isWithinOthers mX4_isWithinOthers 2 := ⟨inT3 71 (by decide +kernel) rfl, mi_X4_isWithinOthers.1, mi_X4_isWithinOthers.2.1, mi_X4_isWithinOthers.2.2.1, mi_X4_isWithinOthers.2.2.2, rfl, by decide +kernel, by decide +kernel, by decide⟩
theorem cw_X4_116 : CWv RX4 116 yX4_isBetweenOthers mX4_isBetweenOthers 3 := ⟨inT3 75 (by decide +kernel) rfl, mi_X4_isBetweenOthers.1, mi_X4_isBetweenOthers.2.1, mi_X4_isBetweenOthers.2.2.1, mi_X4_isBetweenOthers.2.2.2, rfl, by decide +kernel, by decide +kernel, by decide⟩
theorem cw_X4_120 : CWv RX4 120 yX2_strandsAt mX2_strandsAt 1 := ⟨inT3 79 (by decide +kernel) rfl, mi_X2_strandsAt.1, mi_X2_strandsAt.2.1, mi_X2_strandsAt.2.2.1, mi_X2_strandsAt.2.2.2, rfl, by decide +kernel, by decide +kernel, by decide⟩
theorem cw_X7_174 : CWv RX7 174 yX4_above mX4_above 3 := ⟨inT3 87 (by decide +kernel) rfl, mi_X4_above.1, mi_X4_above.2.1, mi_X4_above.2.2.1, mi_X4_above.2.2.2, rfl, by decide +kernel, by decide +kernel, by decide⟩
theorem wm_X7_182 : WAbsL RX7 182 := ⟨inT3 88 (by decide +kernel) rfl, inT3 89 (by decide +kernel) rfl, inT1 16 (by decide +kernel) rfl, inT3 90 (by decide +kernel) rfl⟩
theorem cw_X7_188 : CWs RX7 188 yX7_greatestShared mX7_greatestShared 2 := ⟨inT3 91 (by decide +kernel) rfl, ms_X7_greatestShared.1, ms_X7_greatestShared.2.1, ms_X7_greatestShared.2.2, rfl, by decide +kernel, by decide +kernel, by decide⟩
theorem wm_X7_262 : WMaxL RX7 262 := ⟨inT3 94 (by decide +kernel) rfl, inT3 95 (by decide +kernel) rfl, inT1 16 (by decide +kernel) rfl, inT3 96 (by decide +kernel) rfl⟩
theorem cw_X7_192 : CWv RX7 192 yX4_borne mX4_borne 3 := ⟨inT3 101 (by decide +kernel) rfl, mi_X4_borne.1, mi_X4_borne.2.1, mi_X4_borne.2.2.1, mi_X4_borne.2.2.2, rfl, by decide +kernel, by decide +kernel, by decide⟩
theorem cw_X7_196 : CWv RX7 196 yX7_hangingStrand mX7_hangingStrand 2 := ⟨inT3 109 (by decide +kernel) rfl, mi_X7_hangingStrand.1, mi_X7_hangingStrand.2.1, mi_X7_hangingStrand.2.2.1, mi_X7_hangingStrand.2.2.2, rfl, by decide +kernel, by decide +kernel, by decide⟩
theorem cw_X7_206 : CWv RX7 206 yX4_pull mX4_pull 2 := ⟨inT3 113 (by decide +kernel) rfl, mi_X4_pull.1, mi_X4_pull.2.1, mi_X4_pull.2.2.1, mi_X4_pull.2.2.2, rfl, by decide +kernel, by decide +kernel, by decide⟩
theorem cw_X7_210 : CWv RX7 210 yX4_off mX4_off 2 := ⟨inT3 117 (by decide +kernel) rfl, mi_X4_off.1, mi_X4_off.2.1, mi_X4_off.2.2.1, mi_X4_off.2.2.2, rfl, by decide +kernel, by decide +kernel, by decide⟩
theorem wm_X4_130 : WAbs RX4 130 := ⟨inT3 121 (by decide +kernel) rfl, inT3 122 (by decide +kernel) rfl, inT1 16 (by decide +kernel) rfl, inT3 123 (by decide +kernel) rfl⟩
theorem cw_X7_213 : CWv RX7 213 yX2_isNeeded mX2_isNeeded 1 := ⟨inT3 124 (by decide +kernel) rfl, mi_X2_isNeeded.1, mi_X2_isNeeded.2.1, mi_X2_isNeeded.2.2.1, mi_X2_isNeeded.2.2.2, rfl, by decide +kernel, by decide +kernel, by decide⟩
theorem cw_X7_216 : CWv RX7 216 yX4_slackStrands mX4_slackStrands 1 := ⟨inT3 132 (by decide +kernel) rfl, mi_X4_slackStrands.1, mi_X4_slackStrands.2.1, mi_X4_slackStrands.2.2.1, mi_X4_slackStrands.2.2.2, rfl, by decide +kernel, by decide +kernel, by decide⟩
theorem cw_X7_220 : CWv RX7 220 yX4_missed mX4_missed 1 := ⟨inT3 140 (by decide +kernel) rfl, mi_X4_missed.1, mi_X4_missed.2.1, mi_X4_missed.2.2.1, mi_X4_missed.2.2.2, rfl, by decide +kernel, by decide +kernel, by decide⟩
theorem cw_X4_133 : CWv RX4 133 yX4_off mX4_off 2 := ⟨inT3 144 (by decide +kernel) rfl, mi_X4_off.1, mi_X4_off.2.1, mi_X4_off.2.2.1, mi_X4_off.2.2.2, rfl, by decide +kernel, by decide +kernel, by decide⟩
theorem cw_X7_223 : CWv RX7 223 yX6_seekRest mX6_seekRest 1 := ⟨inT3 149 (by decide +kernel) rfl, mi_X6_seekRest.1, mi_X6_seekRest.2.1, mi_X6_seekRest.2.2.1, mi_X6_seekRest.2.2.2, rfl, by decide +kernel, by decide +kernel, by decide⟩
theorem cw_X6_25 : CWv RX6 25 yX2_copyFrom mX2_copyFrom 1 := ⟨inT3 153 (by decide +kernel) rfl, mi_X2_copyFrom.1, mi_X2_copyFrom.2.1, mi_X2_copyFrom.2.2.1, mi_X2_copyFrom.2.2.2, rfl, by decide +kernel, by decide +kernel, by decide⟩
theorem cw_X6_29 : CWv RX6 29 yX4_find mX4_find 1 := ⟨inT3 154 (by decide +kernel) rfl, mi_X4_find.1, mi_X4_find.2.1, mi_X4_find.2.2.1, mi_X4_find.2.2.2, rfl, by decide +kernel, by decide +kernel, by decide⟩
theorem cw_X6_33 : CWv RX6 33 yX4_missed mX4_missed 1 := ⟨inT3 155 (by decide +kernel) rfl, mi_X4_missed.1, mi_X4_missed.2.1, mi_X4_missed.2.2.1, mi_X4_missed.2.2.2, rfl, by decide +kernel, by decide +kernel, by decide⟩
theorem cw_X6_44 : CWv RX6 44 yX2_tellDensitiesAnew mX2_tellDensitiesAnew 1 := ⟨inT3 156 (by decide +kernel) rfl, mi_X2_tellDensitiesAnew.1, mi_X2_tellDensitiesAnew.2.1, mi_X2_tellDensitiesAnew.2.2.1, mi_X2_tellDensitiesAnew.2.2.2, rfl, by decide +kernel, by decide +kernel, by decide⟩
theorem cw_X7_231 : CWv RX7 231 yX6_seekBetter mX6_seekBetter 1 := ⟨inT3 161 (by decide +kernel) rfl, mi_X6_seekBetter.1, mi_X6_seekBetter.2.1, mi_X6_seekBetter.2.2.1, mi_X6_seekBetter.2.2.2, rfl, by decide +kernel, by decide +kernel, by decide⟩
theorem cw_X6_54 : CWv RX6 54 yX2_hangs mX2_hangs 1 := ⟨inT3 165 (by decide +kernel) rfl, mi_X2_hangs.1, mi_X2_hangs.2.1, mi_X2_hangs.2.2.1, mi_X2_hangs.2.2.2, rfl, by decide +kernel, by decide +kernel, by decide⟩
theorem cw_X6_58 : CWv RX6 58 yX6_tryDensitiesOf mX6_tryDensitiesOf 1 := ⟨inT3 166 (by decide +kernel) rfl, mi_X6_tryDensitiesOf.1, mi_X6_tryDensitiesOf.2.1, mi_X6_tryDensitiesOf.2.2.1, mi_X6_tryDensitiesOf.2.2.2, rfl, by decide +kernel, by decide +kernel, by decide⟩
theorem cw_X7_237 : CWv RX7 237 yX0_firstFit mX0_firstFit 2 := ⟨inT3 178 (by decide +kernel) rfl, mi_X0_firstFit.1, mi_X0_firstFit.2.1, mi_X0_firstFit.2.2.1, mi_X0_firstFit.2.2.2, rfl, by decide +kernel, by decide +kernel, by decide⟩
theorem cw_X0_39 : CWv RX0 39 yX0_sortPieces mX0_sortPieces 2 := ⟨inT3 182 (by decide +kernel) rfl, mi_X0_sortPieces.1, mi_X0_sortPieces.2.1, mi_X0_sortPieces.2.2.1, mi_X0_sortPieces.2.2.2, rfl, by decide +kernel, by decide +kernel, by decide⟩
theorem cw_X0_56 : CWv RX0 56 yX2_hangs mX2_hangs 1 := ⟨inT3 186 (by decide +kernel) rfl, mi_X2_hangs.1, mi_X2_hangs.2.1, mi_X2_hangs.2.2.1, mi_X2_hangs.2.2.2, rfl, by decide +kernel, by decide +kernel, by decide⟩
theorem cw_X0_49 : CWv RX0 49 yX0_rollWith mX0_rollWith 1 := ⟨inT3 187 (by decide +kernel) rfl, mi_X0_rollWith.1, mi_X0_rollWith.2.1, mi_X0_rollWith.2.2.1, mi_X0_rollWith.2.2.2, rfl, by decide +kernel, by decide +kernel, by decide⟩
theorem wm_X0_60 : WMin RX0 60 := ⟨inT3 191 (by decide +kernel) rfl, inT2 187 (by decide +kernel) rfl, inT1 16 (by decide +kernel) rfl, inT2 188 (by decide +kernel) rfl⟩
theorem cw_X7_244 : CWv RX7 244 yX0_fewest mX0_fewest 0 := ⟨inT3 192 (by decide +kernel) rfl, mi_X0_fewest.1, mi_X0_fewest.2.1, mi_X0_fewest.2.2.1, mi_X0_fewest.2.2.2, rfl, by decide +kernel, by decide +kernel, by decide⟩
theorem cw_X0_66 : CWv RX0 66 yX0_leftOver mX0_leftOver 0 := ⟨inT3 196 (by decide +kernel) rfl, mi_X0_leftOver.1, mi_X0_leftOver.2.1, mi_X0_leftOver.2.2.1, mi_X0_leftOver.2.2.2, rfl, by decide +kernel, by decide +kernel, by decide⟩
theorem cw_X0_70 : CWv RX0 70 yX0_leastThinkable mX0_leastThinkable 1 := ⟨inT3 200 (by decide +kernel) rfl, mi_X0_leastThinkable.1, mi_X0_leastThinkable.2.1, mi_X0_leastThinkable.2.2.1, mi_X0_leastThinkable.2.2.2, rfl, by decide +kernel, by decide +kernel, by decide⟩
theorem wm_X0_83 : WMax RX0 83 := ⟨inT3 204 (by decide +kernel) rfl, inT3 54 (by decide +kernel) rfl, inT1 16 (by decide +kernel) rfl, inT3 55 (by decide +kernel) rfl⟩
theorem cw_X0_79 : CWs RX0 79 yX0_canPlaceFrom mX0_canPlaceFrom 2 := ⟨inT3 205 (by decide +kernel) rfl, ms_X0_canPlaceFrom.1, ms_X0_canPlaceFrom.2.1, ms_X0_canPlaceFrom.2.2, rfl, by decide +kernel, by decide +kernel, by decide⟩
theorem cw_X0_86 : CWv RX0 86 yX0_tooMuchIsLost mX0_tooMuchIsLost 0 := ⟨inT3 208 (by decide +kernel) rfl, mi_X0_tooMuchIsLost.1, mi_X0_tooMuchIsLost.2.1, mi_X0_tooMuchIsLost.2.2.1, mi_X0_tooMuchIsLost.2.2.2, rfl, by decide +kernel, by decide +kernel, by decide⟩
theorem cw_X0_90 : CWv RX0 90 yX0_isLikeOneAhead mX0_isLikeOneAhead 1 := ⟨inT3 212 (by decide +kernel) rfl, mi_X0_isLikeOneAhead.1, mi_X0_isLikeOneAhead.2.1, mi_X0_isLikeOneAhead.2.2.1, mi_X0_isLikeOneAhead.2.2.2, rfl, by decide +kernel, by decide +kernel, by decide⟩
theorem cw_X7_247 : CWv RX7 247 yX0_leftOver mX0_leftOver 0 := ⟨inT3 216 (by decide +kernel) rfl, mi_X0_leftOver.1, mi_X0_leftOver.2.1, mi_X0_leftOver.2.2.1, mi_X0_leftOver.2.2.2, rfl, by decide +kernel, by decide +kernel, by decide⟩
theorem cw_X8_61 : CWv RX8 61 yX8_fixes mX8_fixes 4 := ⟨inT3 231 (by decide +kernel) rfl, mi_X8_fixes.1, mi_X8_fixes.2.1, mi_X8_fixes.2.2.1, mi_X8_fixes.2.2.2, rfl, by decide +kernel, by decide +kernel, by decide⟩
theorem cw_X8_65 : CWv RX8 65 yX8_ties mX8_ties 5 := ⟨inT3 235 (by decide +kernel) rfl, mi_X8_ties.1, mi_X8_ties.2.1, mi_X8_ties.2.2.1, mi_X8_ties.2.2.2, rfl, by decide +kernel, by decide +kernel, by decide⟩
theorem cw_X8_73 : CWs RX8 73 yX8_in mX8_in 3 := ⟨inT4 77 (by decide +kernel) rfl, ms_X8_in.1, ms_X8_in.2.1, ms_X8_in.2.2, rfl, by decide +kernel, by decide +kernel, by decide⟩
theorem cw_X8_125 : CWv RX8 125 yX8_reads mX8_reads 0 := ⟨inT4 88 (by decide +kernel) rfl, mi_X8_reads.1, mi_X8_reads.2.1, mi_X8_reads.2.2.1, mi_X8_reads.2.2.2, rfl, by decide +kernel, by decide +kernel, by decide⟩
theorem cw_X8_113 : CWv RX8 113 yX8_takesFixed mX8_takesFixed 0 := ⟨inT4 92 (by decide +kernel) rfl, mi_X8_takesFixed.1, mi_X8_takesFixed.2.1, mi_X8_takesFixed.2.2.1, mi_X8_takesFixed.2.2.2, rfl, by decide +kernel, by decide +kernel, by decide⟩
theorem cw_X8_99 : CWv RX8 99 yX8_takesNumbers mX8_takesNumbers 1 := ⟨inT4 96 (by decide +kernel) rfl, mi_X8_takesNumbers.1, mi_X8_takesNumbers.2.1, mi_X8_takesNumbers.2.2.1, mi_X8_takesNumbers.2.2.2, rfl, by decide +kernel, by decide +kernel, by decide⟩
theorem cw_X8_91 : CWv RX8 91 yX8_takes mX8_takes 1 := ⟨inT4 100 (by decide +kernel) rfl, mi_X8_takes.1, mi_X8_takes.2.1, mi_X8_takes.2.2.1, mi_X8_takes.2.2.2, rfl, by decide +kernel, by decide +kernel, by decide⟩
theorem cw_X8_95 : CWv RX8 95 yX8_takesNumber mX8_takesNumber 2 := ⟨inT4 104 (by decide +kernel) rfl, mi_X8_takesNumber.1, mi_X8_takesNumber.2.1, mi_X8_takesNumber.2.2.1, mi_X8_takesNumber.2.2.2, rfl, by decide +kernel, by decide +kernel, by decide⟩
theorem cw_X8_87 : CWv RX8 87 yX8_isFigure mX8_isFigure 1 := ⟨inT4 108 (by decide +kernel) rfl, mi_X8_isFigure.1, mi_X8_isFigure.2.1, mi_X8_isFigure.2.2.1, mi_X8_isFigure.2.2.2, rfl, by decide +kernel, by decide +kernel, by decide⟩
theorem cw_X8_116 : CWv RX8 116 yX8_takesFree mX8_takesFree 0 := ⟨inT4 112 (by decide +kernel) rfl, mi_X8_takesFree.1, mi_X8_takesFree.2.1, mi_X8_takesFree.2.2.1, mi_X8_takesFree.2.2.2, rfl, by decide +kernel, by decide +kernel, by decide⟩
theorem cw_X8_102 : CWv RX8 102 yX8_draftFrees mX8_draftFrees 0 := ⟨inT4 116 (by decide +kernel) rfl, mi_X8_draftFrees.1, mi_X8_draftFrees.2.1, mi_X8_draftFrees.2.2.1, mi_X8_draftFrees.2.2.2, rfl, by decide +kernel, by decide +kernel, by decide⟩
theorem cw_X8_119 : CWv RX8 119 yX8_takesStrand mX8_takesStrand 0 := ⟨inT4 120 (by decide +kernel) rfl, mi_X8_takesStrand.1, mi_X8_takesStrand.2.1, mi_X8_takesStrand.2.2.1, mi_X8_takesStrand.2.2.2, rfl, by decide +kernel, by decide +kernel, by decide⟩
theorem cw_X8_106 : CWv RX8 106 yX8_hasRoom mX8_hasRoom 1 := ⟨inT4 124 (by decide +kernel) rfl, mi_X8_hasRoom.1, mi_X8_hasRoom.2.1, mi_X8_hasRoom.2.2.1, mi_X8_hasRoom.2.2.2, rfl, by decide +kernel, by decide +kernel, by decide⟩
theorem cw_X8_109 : CWv RX8 109 yX8_isTied mX8_isTied 2 := ⟨inT4 128 (by decide +kernel) rfl, mi_X8_isTied.1, mi_X8_isTied.2.1, mi_X8_isTied.2.2.1, mi_X8_isTied.2.2.2, rfl, by decide +kernel, by decide +kernel, by decide⟩
theorem cw_X8_122 : CWv RX8 122 yX8_takesRolls mX8_takesRolls 0 := ⟨inT4 132 (by decide +kernel) rfl, mi_X8_takesRolls.1, mi_X8_takesRolls.2.1, mi_X8_takesRolls.2.2.1, mi_X8_takesRolls.2.2.2, rfl, by decide +kernel, by decide +kernel, by decide⟩
theorem cw_X8_190 : CWv RX8 190 yX8_isStrand mX8_isStrand 1 := ⟨inT4 144 (by decide +kernel) rfl, mi_X8_isStrand.1, mi_X8_isStrand.2.1, mi_X8_isStrand.2.2.1, mi_X8_isStrand.2.2.2, rfl, by decide +kernel, by decide +kernel, by decide⟩
theorem cw_X8_193 : CWv RX8 193 yX8_becomes mX8_becomes 2 := ⟨inT4 148 (by decide +kernel) rfl, mi_X8_becomes.1, mi_X8_becomes.2.1, mi_X8_becomes.2.2.1, mi_X8_becomes.2.2.2, rfl, by decide +kernel, by decide +kernel, by decide⟩
theorem cw_X8_187 : CWv RX8 187 yX8_notes mX8_notes 0 := ⟨inT4 152 (by decide +kernel) rfl, mi_X8_notes.1, mi_X8_notes.2.1, mi_X8_notes.2.2.1, mi_X8_notes.2.2.2, rfl, by decide +kernel, by decide +kernel, by decide⟩
theorem cw_X8_196 : CWv RX8 196 yX8_isJoint mX8_isJoint 1 := ⟨inT4 164 (by decide +kernel) rfl, mi_X8_isJoint.1, mi_X8_isJoint.2.1, mi_X8_isJoint.2.2.1, mi_X8_isJoint.2.2.2, rfl, by decide +kernel, by decide +kernel, by decide⟩
theorem cw_X8_134 : CWv RX8 134 yX8_isFree mX8_isFree 1 := ⟨inT4 168 (by decide +kernel) rfl, mi_X8_isFree.1, mi_X8_isFree.2.1, mi_X8_isFree.2.2.1, mi_X8_isFree.2.2.2, rfl, by decide +kernel, by decide +kernel, by decide⟩
theorem cw_X8_199 : CWv RX8 199 yX8_hanging mX8_hanging 0 := ⟨inT4 180 (by decide +kernel) rfl, mi_X8_hanging.1, mi_X8_hanging.2.1, mi_X8_hanging.2.2.1, mi_X8_hanging.2.2.2, rfl, by decide +kernel, by decide +kernel, by decide⟩
theorem cw_X8_137 : CWv RX8 137 yX8_hangs mX8_hangs 1 := ⟨inT4 184 (by decide +kernel) rfl, mi_X8_hangs.1, mi_X8_hangs.2.1, mi_X8_hangs.2.2.1, mi_X8_hangs.2.2.2, rfl, by decide +kernel, by decide +kernel, by decide⟩
theorem cw_X8_131 : CWv RX8 131 yX8_of mX8_of 2 := ⟨inT4 188 (by decide +kernel) rfl, mi_X8_of.1, mi_X8_of.2.1, mi_X8_of.2.2.1, mi_X8_of.2.2.2, rfl, by decide +kernel, by decide +kernel, by decide⟩
theorem cw_X8_150 : CWv RX8 150 yX8_laysHung mX8_laysHung 1 := ⟨inT4 196 (by decide +kernel) rfl, mi_X8_laysHung.1, mi_X8_laysHung.2.1, mi_X8_laysHung.2.2.1, mi_X8_laysHung.2.2.2, rfl, by decide +kernel, by decide +kernel, by decide⟩
theorem cw_X8_206 : CWv RX8 206 yX8_goesRound mX8_goesRound 0 := ⟨inT4 200 (by decide +kernel) rfl, mi_X8_goesRound.1, mi_X8_goesRound.2.1, mi_X8_goesRound.2.2.1, mi_X8_goesRound.2.2.2, rfl, by decide +kernel, by decide +kernel, by decide⟩
theorem cw_X8_202 : CWv RX8 202 yX8_lays mX8_lays 0 := ⟨inT4 204 (by decide +kernel) rfl, mi_X8_lays.1, mi_X8_lays.2.1, mi_X8_lays.2.2.1, mi_X8_lays.2.2.2, rfl, by decide +kernel, by decide +kernel, by decide⟩
theorem cw_X8_153 : CWv RX8 153 yX8_laysTable mX8_laysTable 0 := ⟨inT4 208 (by decide +kernel) rfl, mi_X8_laysTable.1, mi_X8_laysTable.2.1, mi_X8_laysTable.2.2.1, mi_X8_laysTable.2.2.2, rfl, by decide +kernel, by decide +kernel, by decide⟩
theorem cw_X8_143 : CWv RX8 143 yX8_laysEnd mX8_laysEnd 2 := ⟨inT4 212 (by decide +kernel) rfl, mi_X8_laysEnd.1, mi_X8_laysEnd.2.1, mi_X8_laysEnd.2.2.1, mi_X8_laysEnd.2.2.2, rfl, by decide +kernel, by decide +kernel, by decide⟩
theorem cw_X8_147 : CWv RX8 147 yX8_other mX8_other 2 := ⟨inT4 216 (by decide +kernel) rfl, mi_X8_other.1, mi_X8_other.2.1, mi_X8_other.2.2.1, mi_X8_other.2.2.2, rfl, by decide +kernel, by decide +kernel, by decide⟩
theorem cw_X8_162 : CWs RX8 162 yX8_down mX8_down 2 := ⟨inT4 221 (by decide +kernel) rfl, ms_X8_down.1, ms_X8_down.2.1, ms_X8_down.2.2, rfl, by decide +kernel, by decide +kernel, by decide⟩
theorem cw_X8_178 : CWv RX8 178 yX8_isAsked mX8_isAsked 1 := ⟨inT4 224 (by decide +kernel) rfl, mi_X8_isAsked.1, mi_X8_isAsked.2.1, mi_X8_isAsked.2.2.1, mi_X8_isAsked.2.2.2, rfl, by decide +kernel, by decide +kernel, by decide⟩
theorem cw_X8_174 : CWv RX8 174 yX8_lengthOf mX8_lengthOf 1 := ⟨inT4 228 (by decide +kernel) rfl, mi_X8_lengthOf.1, mi_X8_lengthOf.2.1, mi_X8_lengthOf.2.2.1, mi_X8_lengthOf.2.2.2, rfl, by decide +kernel, by decide +kernel, by decide⟩
theorem cw_X8_170 : CWs RX8 170 yX8_root mX8_root 1 := ⟨inT4 232 (by decide +kernel) rfl, ms_X8_root.1, ms_X8_root.2.1, ms_X8_root.2.2, rfl, by decide +kernel, by decide +kernel, by decide⟩
theorem cw_X8_209 : CWv RX8 209 yX8_bitsOf mX8_bitsOf 1 := ⟨inT5 5 (by decide +kernel) rfl, mi_X8_bitsOf.1, mi_X8_bitsOf.2.1, mi_X8_bitsOf.2.2.1, mi_X8_bitsOf.2.2.2, rfl, by decide +kernel, by decide +kernel, by decide⟩
theorem cw_X8_184 : CWv RX8 184 yX8_isOf mX8_isOf 2 := ⟨inT5 9 (by decide +kernel) rfl, mi_X8_isOf.1, mi_X8_isOf.2.1, mi_X8_isOf.2.2.1, mi_X8_isOf.2.2.2, rfl, by decide +kernel, by decide +kernel, by decide⟩
theorem cw_X8_212 : CWv RX8 212 yX8_isWithin mX8_isWithin 1 := ⟨inT5 13 (by decide +kernel) rfl, mi_X8_isWithin.1, mi_X8_isWithin.2.1, mi_X8_isWithin.2.2.1, mi_X8_isWithin.2.2.2, rfl, by decide +kernel, by decide +kernel, by decide⟩
theorem cw_X8_218 : CWs RX8 218 yX8_common mX8_common 2 := ⟨inT5 24 (by decide +kernel) rfl, ms_X8_common.1, ms_X8_common.2.1, ms_X8_common.2.2, rfl, by decide +kernel, by decide +kernel, by decide⟩
theorem cw_X8_181 : CWv RX8 181 yX8_offOf mX8_offOf 1 := ⟨inT5 35 (by decide +kernel) rfl, mi_X8_offOf.1, mi_X8_offOf.2.1, mi_X8_offOf.2.2.1, mi_X8_offOf.2.2.2, rfl, by decide +kernel, by decide +kernel, by decide⟩
theorem cw_X8_221 : CWv RX8 221 yX8_missing mX8_missing 0 := ⟨inT5 47 (by decide +kernel) rfl, mi_X8_missing.1, mi_X8_missing.2.1, mi_X8_missing.2.2.1, mi_X8_missing.2.2.2, rfl, by decide +kernel, by decide +kernel, by decide⟩
theorem cw_X8_234 : CWv RX8 234 yX8_laysPieces mX8_laysPieces 0 := ⟨inT5 67 (by decide +kernel) rfl, mi_X8_laysPieces.1, mi_X8_laysPieces.2.1, mi_X8_laysPieces.2.2.1, mi_X8_laysPieces.2.2.2, rfl, by decide +kernel, by decide +kernel, by decide⟩
theorem cw_X8_237 : CWv RX8 237 yX8_fewestRolls mX8_fewestRolls 0 := ⟨inT5 71 (by decide +kernel) rfl, mi_X8_fewestRolls.1, mi_X8_fewestRolls.2.1, mi_X8_fewestRolls.2.2.1, mi_X8_fewestRolls.2.2.2, rfl, by decide +kernel, by decide +kernel, by decide⟩
theorem cw_X8_230 : CWv RX8 230 yX8_joins mX8_joins 3 := ⟨inT5 75 (by decide +kernel) rfl, mi_X8_joins.1, mi_X8_joins.2.1, mi_X8_joins.2.2.1, mi_X8_joins.2.2.2, rfl, by decide +kernel, by decide +kernel, by decide⟩
theorem cw_X8_240 : CWv RX8 240 yX8_firstFit mX8_firstFit 0 := ⟨inT5 79 (by decide +kernel) rfl, mi_X8_firstFit.1, mi_X8_firstFit.2.1, mi_X8_firstFit.2.2.1, mi_X8_firstFit.2.2.2, rfl, by decide +kernel, by decide +kernel, by decide⟩
theorem cw_X8_227 : CWv RX8 227 yX8_longest mX8_longest 0 := ⟨inT5 83 (by decide +kernel) rfl, mi_X8_longest.1, mi_X8_longest.2.1, mi_X8_longest.2.2.1, mi_X8_longest.2.2.2, rfl, by decide +kernel, by decide +kernel, by decide⟩
theorem kc_J6_265 : Cond.constant RJ6 265 (Int32.ofInt (1431655765)) ∈ BG := inT2 94 (by decide +kernel) rfl
theorem kc_J6_266 : Cond.constant RJ6 266 (Int32.ofInt (858993459)) ∈ BG := inT2 95 (by decide +kernel) rfl
theorem kc_J6_267 : Cond.constant RJ6 267 (Int32.ofInt (252645135)) ∈ BG := inT2 96 (by decide +kernel) rfl
theorem kc_X4_96 : Cond.constantLong RX4 96 (Int64.ofInt (100)) ∈ BG := inT3 26 (by decide +kernel) rfl
theorem kc_X7_171 : Cond.constant RX7 171 (Int32.ofInt (1000000)) ∈ BG := inT3 80 (by decide +kernel) rfl
theorem kc_X7_172 : Cond.constant RX7 172 (Int32.ofInt (-2000000000)) ∈ BG := inT3 85 (by decide +kernel) rfl
theorem kc_X7_173 : Cond.constant RX7 173 (Int32.ofInt (-2000000001)) ∈ BG := inT3 86 (by decide +kernel) rfl
theorem kc_X8_160 : Cond.constantLong RX8 160 (Int64.ofInt (100)) ∈ BG := inT4 220 (by decide +kernel) rfl
theorem kc_X8_166 : Cond.constantLong RX8 166 (Int64.ofInt (2000000000)) ∈ BG := inT4 235 (by decide +kernel) rfl
theorem kc_X8_168 : Cond.constantLong RX8 168 (Int64.ofInt (2)) ∈ BG := inT4 236 (by decide +kernel) rfl
theorem kc_X8_215 : Cond.constant RX8 215 (Int32.ofInt (1000000)) ∈ BG := inT5 17 (by decide +kernel) rfl
theorem kc_X8_216 : Cond.constant RX8 216 (Int32.ofInt (-2000000000)) ∈ BG := inT5 22 (by decide +kernel) rfl
theorem kc_X8_217 : Cond.constant RX8 217 (Int32.ofInt (-2000000001)) ∈ BG := inT5 23 (by decide +kernel) rfl
end
